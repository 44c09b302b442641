theorem dX10_init_0 : decode cX10_init 0 = .ok (.aload_n 0, 1) := by decide +kernel
theorem dX10_init_1 : decode cX10_init 1 = .ok (.invokespecial 1, 3) := by decide +kernel
theorem dX10_init_4 : decode cX10_init 4 = .ok (.aload_n 0, 1) := by decide +kernel
theorem dX10_init_5 : decode cX10_init 5 = .ok (.new 7, 3) := by decide +kernel
theorem dX10_init_8 : decode cX10_init 8 = .ok (.dup, 1) := by decide +kernel
theorem dX10_init_9 : decode cX10_init 9 = .ok (.invokespecial 9, 3) := by decide +kernel
theorem dX10_init_12 : decode cX10_init 12 = .ok (.putfield 10, 3) := by decide +kernel
theorem dX10_init_15 : decode cX10_init 15 = .ok (.aload_n 0, 1) := by decide +kernel
theorem dX10_init_16 : decode cX10_init 16 = .ok (.new 16, 3) := by decide +kernel
theorem dX10_init_19 : decode cX10_init 19 = .ok (.dup, 1) := by decide +kernel
theorem dX10_init_20 : decode cX10_init 20 = .ok (.aload_n 0, 1) := by decide +kernel
theorem dX10_init_21 : decode cX10_init 21 = .ok (.getfield 10, 3) := by decide +kernel
theorem dX10_init_24 : decode cX10_init 24 = .ok (.invokespecial 18, 3) := by decide +kernel
theorem dX10_init_27 : decode cX10_init 27 = .ok (.putfield 21, 3) := by decide +kernel
theorem dX10_init_30 : decode cX10_init 30 = .ok (.aload_n 0, 1) := by decide +kernel
theorem dX10_init_31 : decode cX10_init 31 = .ok (.bipush 11, 2) := by decide +kernel
theorem dX10_init_33 : decode cX10_init 33 = .ok (.newarray .int, 2) := by decide +kernel
theorem dX10_init_35 : decode cX10_init 35 = .ok (.putfield 25, 3) := by decide +kernel
theorem dX10_init_38 : decode cX10_init 38 = .ok (.aload_n 0, 1) := by decide +kernel
theorem dX10_init_39 : decode cX10_init 39 = .ok (.bipush 110, 2) := by decide +kernel
theorem dX10_init_41 : decode cX10_init 41 = .ok (.newarray .int, 2) := by decide +kernel
theorem dX10_init_43 : decode cX10_init 43 = .ok (.putfield 29, 3) := by decide +kernel
theorem dX10_init_46 : decode cX10_init 46 = .ok (.aload_n 0, 1) := by decide +kernel
theorem dX10_init_47 : decode cX10_init 47 = .ok (.new 32, 3) := by decide +kernel
theorem dX10_init_50 : decode cX10_init 50 = .ok (.dup, 1) := by decide +kernel
theorem dX10_init_51 : decode cX10_init 51 = .ok (.invokespecial 34, 3) := by decide +kernel
theorem dX10_init_54 : decode cX10_init 54 = .ok (.putfield 35, 3) := by decide +kernel
theorem dX10_init_57 : decode cX10_init 57 = .ok (.aload_n 0, 1) := by decide +kernel
theorem dX10_init_58 : decode cX10_init 58 = .ok (.new 32, 3) := by decide +kernel
theorem dX10_init_61 : decode cX10_init 61 = .ok (.dup, 1) := by decide +kernel
theorem dX10_init_62 : decode cX10_init 62 = .ok (.invokespecial 34, 3) := by decide +kernel
theorem dX10_init_65 : decode cX10_init 65 = .ok (.putfield 39, 3) := by decide +kernel
theorem dX10_init_68 : decode cX10_init 68 = .ok (.aload_n 0, 1) := by decide +kernel
theorem dX10_init_69 : decode cX10_init 69 = .ok (.new 42, 3) := by decide +kernel
theorem dX10_init_72 : decode cX10_init 72 = .ok (.dup, 1) := by decide +kernel
theorem dX10_init_73 : decode cX10_init 73 = .ok (.invokespecial 44, 3) := by decide +kernel
theorem dX10_init_76 : decode cX10_init 76 = .ok (.putfield 45, 3) := by decide +kernel
theorem dX10_init_79 : decode cX10_init 79 = .ok (.aload_n 0, 1) := by decide +kernel
theorem dX10_init_80 : decode cX10_init 80 = .ok (.new 42, 3) := by decide +kernel
theorem dX10_init_83 : decode cX10_init 83 = .ok (.dup, 1) := by decide +kernel
theorem dX10_init_84 : decode cX10_init 84 = .ok (.invokespecial 44, 3) := by decide +kernel
theorem dX10_init_87 : decode cX10_init 87 = .ok (.putfield 49, 3) := by decide +kernel
theorem dX10_init_90 : decode cX10_init 90 = .ok (.aload_n 0, 1) := by decide +kernel
theorem dX10_init_91 : decode cX10_init 91 = .ok (.new 52, 3) := by decide +kernel
theorem dX10_init_94 : decode cX10_init 94 = .ok (.dup, 1) := by decide +kernel
theorem dX10_init_95 : decode cX10_init 95 = .ok (.invokespecial 54, 3) := by decide +kernel
theorem dX10_init_98 : decode cX10_init 98 = .ok (.putfield 55, 3) := by decide +kernel
theorem dX10_init_101 : decode cX10_init 101 = .ok (.aload_n 0, 1) := by decide +kernel
theorem dX10_init_102 : decode cX10_init 102 = .ok (.new 59, 3) := by decide +kernel
theorem dX10_init_105 : decode cX10_init 105 = .ok (.dup, 1) := by decide +kernel
theorem dX10_init_106 : decode cX10_init 106 = .ok (.aload_n 0, 1) := by decide +kernel
theorem dX10_init_107 : decode cX10_init 107 = .ok (.getfield 55, 3) := by decide +kernel
theorem dX10_init_110 : decode cX10_init 110 = .ok (.invokespecial 61, 3) := by decide +kernel
theorem dX10_init_113 : decode cX10_init 113 = .ok (.putfield 64, 3) := by decide +kernel
theorem dX10_init_116 : decode cX10_init 116 = .ok (.aload_n 0, 1) := by decide +kernel
theorem dX10_init_117 : decode cX10_init 117 = .ok (.new 68, 3) := by decide +kernel
theorem dX10_init_120 : decode cX10_init 120 = .ok (.dup, 1) := by decide +kernel
theorem dX10_init_121 : decode cX10_init 121 = .ok (.aload_n 0, 1) := by decide +kernel
theorem dX10_init_122 : decode cX10_init 122 = .ok (.getfield 64, 3) := by decide +kernel
theorem dX10_init_125 : decode cX10_init 125 = .ok (.aload_n 0, 1) := by decide +kernel
theorem dX10_init_126 : decode cX10_init 126 = .ok (.getfield 55, 3) := by decide +kernel
theorem dX10_init_129 : decode cX10_init 129 = .ok (.invokespecial 70, 3) := by decide +kernel
theorem dX10_init_132 : decode cX10_init 132 = .ok (.putfield 73, 3) := by decide +kernel
theorem dX10_init_135 : decode cX10_init 135 = .ok (.aload_n 0, 1) := by decide +kernel
theorem dX10_init_136 : decode cX10_init 136 = .ok (.new 77, 3) := by decide +kernel
theorem dX10_init_139 : decode cX10_init 139 = .ok (.dup, 1) := by decide +kernel
theorem dX10_init_140 : decode cX10_init 140 = .ok (.invokespecial 79, 3) := by decide +kernel
theorem dX10_init_143 : decode cX10_init 143 = .ok (.putfield 80, 3) := by decide +kernel
theorem dX10_init_146 : decode cX10_init 146 = .ok (.aload_n 0, 1) := by decide +kernel
theorem dX10_init_147 : decode cX10_init 147 = .ok (.new 77, 3) := by decide +kernel
theorem dX10_init_150 : decode cX10_init 150 = .ok (.dup, 1) := by decide +kernel
theorem dX10_init_151 : decode cX10_init 151 = .ok (.invokespecial 79, 3) := by decide +kernel
theorem dX10_init_154 : decode cX10_init 154 = .ok (.putfield 84, 3) := by decide +kernel
theorem dX10_init_157 : decode cX10_init 157 = .ok (.aload_n 0, 1) := by decide +kernel
theorem dX10_init_158 : decode cX10_init 158 = .ok (.new 87, 3) := by decide +kernel
theorem dX10_init_161 : decode cX10_init 161 = .ok (.dup, 1) := by decide +kernel
theorem dX10_init_162 : decode cX10_init 162 = .ok (.invokespecial 89, 3) := by decide +kernel
theorem dX10_init_165 : decode cX10_init 165 = .ok (.putfield 90, 3) := by decide +kernel
theorem dX10_init_168 : decode cX10_init 168 = .ok (.aload_n 0, 1) := by decide +kernel
theorem dX10_init_169 : decode cX10_init 169 = .ok (.new 87, 3) := by decide +kernel
theorem dX10_init_172 : decode cX10_init 172 = .ok (.dup, 1) := by decide +kernel
theorem dX10_init_173 : decode cX10_init 173 = .ok (.invokespecial 89, 3) := by decide +kernel
theorem dX10_init_176 : decode cX10_init 176 = .ok (.putfield 94, 3) := by decide +kernel
theorem dX10_init_179 : decode cX10_init 179 = .ok (.aload_n 0, 1) := by decide +kernel
theorem dX10_init_180 : decode cX10_init 180 = .ok (.iconst 0, 1) := by decide +kernel
theorem dX10_init_181 : decode cX10_init 181 = .ok (.putfield 97, 3) := by decide +kernel
theorem dX10_init_184 : decode cX10_init 184 = .ok (.aload_n 0, 1) := by decide +kernel
theorem dX10_init_185 : decode cX10_init 185 = .ok (.iconst 0, 1) := by decide +kernel
theorem dX10_init_186 : decode cX10_init 186 = .ok (.putfield 101, 3) := by decide +kernel
theorem dX10_init_189 : decode cX10_init 189 = .ok (.aload_n 0, 1) := by decide +kernel
theorem dX10_init_190 : decode cX10_init 190 = .ok (.iconst 0, 1) := by decide +kernel
theorem dX10_init_191 : decode cX10_init 191 = .ok (.putfield 105, 3) := by decide +kernel
theorem dX10_init_194 : decode cX10_init 194 = .ok (.aload_n 0, 1) := by decide +kernel
theorem dX10_init_195 : decode cX10_init 195 = .ok (.iconst 0, 1) := by decide +kernel
theorem dX10_init_196 : decode cX10_init 196 = .ok (.putfield 108, 3) := by decide +kernel
theorem dX10_init_199 : decode cX10_init 199 = .ok (.aload_n 0, 1) := by decide +kernel
theorem dX10_init_200 : decode cX10_init 200 = .ok (.iconst 0, 1) := by decide +kernel
theorem dX10_init_201 : decode cX10_init 201 = .ok (.putfield 111, 3) := by decide +kernel
theorem dX10_init_204 : decode cX10_init 204 = .ok (.return_, 1) := by decide +kernel
theorem dX10_feed_0 : decode cX10_feed 0 = .ok (.aload_n 0, 1) := by decide +kernel
theorem dX10_feed_1 : decode cX10_feed 1 = .ok (.getfield 10, 3) := by decide +kernel
theorem dX10_feed_4 : decode cX10_feed 4 = .ok (.bipush 20, 2) := by decide +kernel
theorem dX10_feed_6 : decode cX10_feed 6 = .ok (.invokevirtual 114, 3) := by decide +kernel
theorem dX10_feed_9 : decode cX10_feed 9 = .ok (.ifCond .ne 5, 3) := by decide +kernel
theorem dX10_feed_12 : decode cX10_feed 12 = .ok (.iconst (-1), 1) := by decide +kernel
theorem dX10_feed_13 : decode cX10_feed 13 = .ok (.ireturn, 1) := by decide +kernel
theorem dX10_feed_14 : decode cX10_feed 14 = .ok (.aload_n 0, 1) := by decide +kernel
theorem dX10_feed_15 : decode cX10_feed 15 = .ok (.getfield 10, 3) := by decide +kernel
theorem dX10_feed_18 : decode cX10_feed 18 = .ok (.iload_n 1, 1) := by decide +kernel
theorem dX10_feed_19 : decode cX10_feed 19 = .ok (.invokevirtual 118, 3) := by decide +kernel
theorem dX10_feed_22 : decode cX10_feed 22 = .ok (.aload_n 0, 1) := by decide +kernel
theorem dX10_feed_23 : decode cX10_feed 23 = .ok (.getfield 10, 3) := by decide +kernel
theorem dX10_feed_26 : decode cX10_feed 26 = .ok (.iload_n 2, 1) := by decide +kernel
theorem dX10_feed_27 : decode cX10_feed 27 = .ok (.invokevirtual 118, 3) := by decide +kernel
theorem dX10_feed_30 : decode cX10_feed 30 = .ok (.aload_n 0, 1) := by decide +kernel
theorem dX10_feed_31 : decode cX10_feed 31 = .ok (.getfield 10, 3) := by decide +kernel
theorem dX10_feed_34 : decode cX10_feed 34 = .ok (.iload_n 3, 1) := by decide +kernel
theorem dX10_feed_35 : decode cX10_feed 35 = .ok (.invokevirtual 118, 3) := by decide +kernel
theorem dX10_feed_38 : decode cX10_feed 38 = .ok (.aload_n 0, 1) := by decide +kernel
theorem dX10_feed_39 : decode cX10_feed 39 = .ok (.getfield 10, 3) := by decide +kernel
theorem dX10_feed_42 : decode cX10_feed 42 = .ok (.iload 4, 2) := by decide +kernel
theorem dX10_feed_44 : decode cX10_feed 44 = .ok (.invokevirtual 118, 3) := by decide +kernel
theorem dX10_feed_47 : decode cX10_feed 47 = .ok (.aload_n 0, 1) := by decide +kernel
theorem dX10_feed_48 : decode cX10_feed 48 = .ok (.getfield 10, 3) := by decide +kernel
theorem dX10_feed_51 : decode cX10_feed 51 = .ok (.iload 5, 2) := by decide +kernel
theorem dX10_feed_53 : decode cX10_feed 53 = .ok (.invokevirtual 118, 3) := by decide +kernel
theorem dX10_feed_56 : decode cX10_feed 56 = .ok (.aload_n 0, 1) := by decide +kernel
theorem dX10_feed_57 : decode cX10_feed 57 = .ok (.getfield 10, 3) := by decide +kernel
theorem dX10_feed_60 : decode cX10_feed 60 = .ok (.getfield 122, 3) := by decide +kernel
theorem dX10_feed_63 : decode cX10_feed 63 = .ok (.ireturn, 1) := by decide +kernel
theorem dX10_rocket_0 : decode cX10_rocket 0 = .ok (.iload_n 1, 1) := by decide +kernel
theorem dX10_rocket_1 : decode cX10_rocket 1 = .ok (.ifCond .lt 14, 3) := by decide +kernel
theorem dX10_rocket_4 : decode cX10_rocket 4 = .ok (.iload_n 1, 1) := by decide +kernel
theorem dX10_rocket_5 : decode cX10_rocket 5 = .ok (.aload_n 0, 1) := by decide +kernel
theorem dX10_rocket_6 : decode cX10_rocket 6 = .ok (.getfield 10, 3) := by decide +kernel
theorem dX10_rocket_9 : decode cX10_rocket 9 = .ok (.getfield 122, 3) := by decide +kernel
theorem dX10_rocket_12 : decode cX10_rocket 12 = .ok (.if_icmp .le 9, 3) := by decide +kernel
theorem dX10_rocket_15 : decode cX10_rocket 15 = .ok (.aload_n 0, 1) := by decide +kernel
theorem dX10_rocket_16 : decode cX10_rocket 16 = .ok (.iconst 2, 1) := by decide +kernel
theorem dX10_rocket_17 : decode cX10_rocket 17 = .ok (.invokevirtual 125, 3) := by decide +kernel
theorem dX10_rocket_20 : decode cX10_rocket 20 = .ok (.ireturn, 1) := by decide +kernel
theorem dX10_rocket_21 : decode cX10_rocket 21 = .ok (.aload_n 0, 1) := by decide +kernel
theorem dX10_rocket_22 : decode cX10_rocket 22 = .ok (.getfield 21, 3) := by decide +kernel
theorem dX10_rocket_25 : decode cX10_rocket 25 = .ok (.iload_n 1, 1) := by decide +kernel
theorem dX10_rocket_26 : decode cX10_rocket 26 = .ok (.aload_n 0, 1) := by decide +kernel
theorem dX10_rocket_27 : decode cX10_rocket 27 = .ok (.getfield 94, 3) := by decide +kernel
theorem dX10_rocket_30 : decode cX10_rocket 30 = .ok (.invokevirtual 129, 3) := by decide +kernel
theorem dX10_rocket_33 : decode cX10_rocket 33 = .ok (.istore_n 2, 1) := by decide +kernel
theorem dX10_rocket_34 : decode cX10_rocket 34 = .ok (.aload_n 0, 1) := by decide +kernel
theorem dX10_rocket_35 : decode cX10_rocket 35 = .ok (.getfield 10, 3) := by decide +kernel
theorem dX10_rocket_38 : decode cX10_rocket 38 = .ok (.invokevirtual 133, 3) := by decide +kernel
theorem dX10_rocket_41 : decode cX10_rocket 41 = .ok (.aload_n 0, 1) := by decide +kernel
theorem dX10_rocket_42 : decode cX10_rocket 42 = .ok (.aload_n 0, 1) := by decide +kernel
theorem dX10_rocket_43 : decode cX10_rocket 43 = .ok (.getfield 21, 3) := by decide +kernel
theorem dX10_rocket_46 : decode cX10_rocket 46 = .ok (.getfield 136, 3) := by decide +kernel
theorem dX10_rocket_49 : decode cX10_rocket 49 = .ok (.putfield 111, 3) := by decide +kernel
theorem dX10_rocket_52 : decode cX10_rocket 52 = .ok (.iload_n 2, 1) := by decide +kernel
theorem dX10_rocket_53 : decode cX10_rocket 53 = .ok (.ifCond .ne 9, 3) := by decide +kernel
theorem dX10_rocket_56 : decode cX10_rocket 56 = .ok (.aload_n 0, 1) := by decide +kernel
theorem dX10_rocket_57 : decode cX10_rocket 57 = .ok (.iconst 4, 1) := by decide +kernel
theorem dX10_rocket_58 : decode cX10_rocket 58 = .ok (.invokevirtual 125, 3) := by decide +kernel
theorem dX10_rocket_61 : decode cX10_rocket 61 = .ok (.ireturn, 1) := by decide +kernel
theorem dX10_rocket_62 : decode cX10_rocket 62 = .ok (.aload_n 0, 1) := by decide +kernel
theorem dX10_rocket_63 : decode cX10_rocket 63 = .ok (.getfield 90, 3) := by decide +kernel
theorem dX10_rocket_66 : decode cX10_rocket 66 = .ok (.astore_n 3, 1) := by decide +kernel
theorem dX10_rocket_67 : decode cX10_rocket 67 = .ok (.aload_n 0, 1) := by decide +kernel
theorem dX10_rocket_68 : decode cX10_rocket 68 = .ok (.aload_n 0, 1) := by decide +kernel
theorem dX10_rocket_69 : decode cX10_rocket 69 = .ok (.getfield 94, 3) := by decide +kernel
theorem dX10_rocket_72 : decode cX10_rocket 72 = .ok (.putfield 90, 3) := by decide +kernel
theorem dX10_rocket_75 : decode cX10_rocket 75 = .ok (.aload_n 0, 1) := by decide +kernel
theorem dX10_rocket_76 : decode cX10_rocket 76 = .ok (.aload_n 3, 1) := by decide +kernel
theorem dX10_rocket_77 : decode cX10_rocket 77 = .ok (.putfield 94, 3) := by decide +kernel
theorem dX10_rocket_80 : decode cX10_rocket 80 = .ok (.aload_n 0, 1) := by decide +kernel
theorem dX10_rocket_81 : decode cX10_rocket 81 = .ok (.iconst 1, 1) := by decide +kernel
theorem dX10_rocket_82 : decode cX10_rocket 82 = .ok (.putfield 97, 3) := by decide +kernel
theorem dX10_rocket_85 : decode cX10_rocket 85 = .ok (.aload_n 0, 1) := by decide +kernel
theorem dX10_rocket_86 : decode cX10_rocket 86 = .ok (.iconst 0, 1) := by decide +kernel
theorem dX10_rocket_87 : decode cX10_rocket 87 = .ok (.putfield 101, 3) := by decide +kernel
theorem dX10_rocket_90 : decode cX10_rocket 90 = .ok (.aload_n 0, 1) := by decide +kernel
theorem dX10_rocket_91 : decode cX10_rocket 91 = .ok (.getfield 64, 3) := by decide +kernel
theorem dX10_rocket_94 : decode cX10_rocket 94 = .ok (.invokevirtual 139, 3) := by decide +kernel
theorem dX10_rocket_97 : decode cX10_rocket 97 = .ok (.aload_n 0, 1) := by decide +kernel
theorem dX10_rocket_98 : decode cX10_rocket 98 = .ok (.invokevirtual 142, 3) := by decide +kernel
theorem dX10_rocket_101 : decode cX10_rocket 101 = .ok (.aload_n 0, 1) := by decide +kernel
theorem dX10_rocket_102 : decode cX10_rocket 102 = .ok (.aload_n 0, 1) := by decide +kernel
theorem dX10_rocket_103 : decode cX10_rocket 103 = .ok (.getfield 90, 3) := by decide +kernel
theorem dX10_rocket_106 : decode cX10_rocket 106 = .ok (.getfield 145, 3) := by decide +kernel
theorem dX10_rocket_109 : decode cX10_rocket 109 = .ok (.invokevirtual 148, 3) := by decide +kernel
theorem dX10_rocket_112 : decode cX10_rocket 112 = .ok (.ireturn, 1) := by decide +kernel
theorem dX10_fault_0 : decode cX10_fault 0 = .ok (.aload_n 0, 1) := by decide +kernel
theorem dX10_fault_1 : decode cX10_fault 1 = .ok (.getfield 111, 3) := by decide +kernel
theorem dX10_fault_4 : decode cX10_fault 4 = .ok (.ireturn, 1) := by decide +kernel
theorem dX10_where_0 : decode cX10_where 0 = .ok (.aload_n 0, 1) := by decide +kernel
theorem dX10_where_1 : decode cX10_where 1 = .ok (.getfield 108, 3) := by decide +kernel
theorem dX10_where_4 : decode cX10_where 4 = .ok (.iconst 4, 1) := by decide +kernel
theorem dX10_where_5 : decode cX10_where 5 = .ok (.if_icmp .ne 13, 3) := by decide +kernel
theorem dX10_where_8 : decode cX10_where 8 = .ok (.aload_n 0, 1) := by decide +kernel
theorem dX10_where_9 : decode cX10_where 9 = .ok (.getfield 21, 3) := by decide +kernel
theorem dX10_where_12 : decode cX10_where 12 = .ok (.getfield 151, 3) := by decide +kernel
theorem dX10_where_15 : decode cX10_where 15 = .ok (.goto 4, 3) := by decide +kernel
theorem dX10_where_18 : decode cX10_where 18 = .ok (.iconst (-1), 1) := by decide +kernel
theorem dX10_where_19 : decode cX10_where 19 = .ok (.ireturn, 1) := by decide +kernel
theorem dX10_about_0 : decode cX10_about 0 = .ok (.aload_n 0, 1) := by decide +kernel
theorem dX10_about_1 : decode cX10_about 1 = .ok (.getfield 97, 3) := by decide +kernel
theorem dX10_about_4 : decode cX10_about 4 = .ok (.ifCond .eq 13, 3) := by decide +kernel
theorem dX10_about_7 : decode cX10_about 7 = .ok (.iload_n 1, 1) := by decide +kernel
theorem dX10_about_8 : decode cX10_about 8 = .ok (.ifCond .lt 9, 3) := by decide +kernel
theorem dX10_about_11 : decode cX10_about 11 = .ok (.iload_n 1, 1) := by decide +kernel
theorem dX10_about_12 : decode cX10_about 12 = .ok (.bipush 6, 2) := by decide +kernel
theorem dX10_about_14 : decode cX10_about 14 = .ok (.if_icmp .le 9, 3) := by decide +kernel
theorem dX10_about_17 : decode cX10_about 17 = .ok (.aload_n 0, 1) := by decide +kernel
theorem dX10_about_18 : decode cX10_about 18 = .ok (.iconst 1, 1) := by decide +kernel
theorem dX10_about_19 : decode cX10_about 19 = .ok (.invokevirtual 125, 3) := by decide +kernel
theorem dX10_about_22 : decode cX10_about 22 = .ok (.ireturn, 1) := by decide +kernel
theorem dX10_about_23 : decode cX10_about 23 = .ok (.iload_n 1, 1) := by decide +kernel
theorem dX10_about_24 : decode cX10_about 24 = .ok (.tableswitch 114 0 5 #[40, 53, 65, 77, 90, 102], 40) := by decide +kernel
theorem dX10_about_64 : decode cX10_about 64 = .ok (.aload_n 0, 1) := by decide +kernel
theorem dX10_about_65 : decode cX10_about 65 = .ok (.aload_n 0, 1) := by decide +kernel
theorem dX10_about_66 : decode cX10_about 66 = .ok (.getfield 25, 3) := by decide +kernel
theorem dX10_about_69 : decode cX10_about 69 = .ok (.iconst 0, 1) := by decide +kernel
theorem dX10_about_70 : decode cX10_about 70 = .ok (.invokestatic 154, 3) := by decide +kernel
theorem dX10_about_73 : decode cX10_about 73 = .ok (.invokevirtual 148, 3) := by decide +kernel
theorem dX10_about_76 : decode cX10_about 76 = .ok (.ireturn, 1) := by decide +kernel
theorem dX10_about_77 : decode cX10_about 77 = .ok (.aload_n 0, 1) := by decide +kernel
theorem dX10_about_78 : decode cX10_about 78 = .ok (.aload_n 0, 1) := by decide +kernel
theorem dX10_about_79 : decode cX10_about 79 = .ok (.getfield 90, 3) := by decide +kernel
theorem dX10_about_82 : decode cX10_about 82 = .ok (.getfield 158, 3) := by decide +kernel
theorem dX10_about_85 : decode cX10_about 85 = .ok (.invokevirtual 148, 3) := by decide +kernel
theorem dX10_about_88 : decode cX10_about 88 = .ok (.ireturn, 1) := by decide +kernel
theorem dX10_about_89 : decode cX10_about 89 = .ok (.aload_n 0, 1) := by decide +kernel
theorem dX10_about_90 : decode cX10_about 90 = .ok (.aload_n 0, 1) := by decide +kernel
theorem dX10_about_91 : decode cX10_about 91 = .ok (.getfield 90, 3) := by decide +kernel
theorem dX10_about_94 : decode cX10_about 94 = .ok (.getfield 161, 3) := by decide +kernel
theorem dX10_about_97 : decode cX10_about 97 = .ok (.invokevirtual 148, 3) := by decide +kernel
theorem dX10_about_100 : decode cX10_about 100 = .ok (.ireturn, 1) := by decide +kernel
theorem dX10_about_101 : decode cX10_about 101 = .ok (.aload_n 0, 1) := by decide +kernel
theorem dX10_about_102 : decode cX10_about 102 = .ok (.aload_n 0, 1) := by decide +kernel
theorem dX10_about_103 : decode cX10_about 103 = .ok (.getfield 25, 3) := by decide +kernel
theorem dX10_about_106 : decode cX10_about 106 = .ok (.iconst 1, 1) := by decide +kernel
theorem dX10_about_107 : decode cX10_about 107 = .ok (.invokestatic 154, 3) := by decide +kernel
theorem dX10_about_110 : decode cX10_about 110 = .ok (.invokevirtual 148, 3) := by decide +kernel
theorem dX10_about_113 : decode cX10_about 113 = .ok (.ireturn, 1) := by decide +kernel
theorem dX10_about_114 : decode cX10_about 114 = .ok (.aload_n 0, 1) := by decide +kernel
theorem dX10_about_115 : decode cX10_about 115 = .ok (.aload_n 0, 1) := by decide +kernel
theorem dX10_about_116 : decode cX10_about 116 = .ok (.getfield 90, 3) := by decide +kernel
theorem dX10_about_119 : decode cX10_about 119 = .ok (.getfield 164, 3) := by decide +kernel
theorem dX10_about_122 : decode cX10_about 122 = .ok (.invokevirtual 148, 3) := by decide +kernel
theorem dX10_about_125 : decode cX10_about 125 = .ok (.ireturn, 1) := by decide +kernel
theorem dX10_about_126 : decode cX10_about 126 = .ok (.aload_n 0, 1) := by decide +kernel
theorem dX10_about_127 : decode cX10_about 127 = .ok (.aload_n 0, 1) := by decide +kernel
theorem dX10_about_128 : decode cX10_about 128 = .ok (.getfield 90, 3) := by decide +kernel
theorem dX10_about_131 : decode cX10_about 131 = .ok (.getfield 145, 3) := by decide +kernel
theorem dX10_about_134 : decode cX10_about 134 = .ok (.invokevirtual 148, 3) := by decide +kernel
theorem dX10_about_137 : decode cX10_about 137 = .ok (.ireturn, 1) := by decide +kernel
theorem dX10_about_138 : decode cX10_about 138 = .ok (.aload_n 0, 1) := by decide +kernel
theorem dX10_about_139 : decode cX10_about 139 = .ok (.aload_n 0, 1) := by decide +kernel
theorem dX10_about_140 : decode cX10_about 140 = .ok (.getfield 90, 3) := by decide +kernel
theorem dX10_about_143 : decode cX10_about 143 = .ok (.getfield 167, 3) := by decide +kernel
theorem dX10_about_146 : decode cX10_about 146 = .ok (.invokevirtual 148, 3) := by decide +kernel
theorem dX10_about_149 : decode cX10_about 149 = .ok (.ireturn, 1) := by decide +kernel
theorem dX10_stage_0 : decode cX10_stage 0 = .ok (.aload_n 0, 1) := by decide +kernel
theorem dX10_stage_1 : decode cX10_stage 1 = .ok (.iload_n 1, 1) := by decide +kernel
theorem dX10_stage_2 : decode cX10_stage 2 = .ok (.invokevirtual 170, 3) := by decide +kernel
theorem dX10_stage_5 : decode cX10_stage 5 = .ok (.ifCond .eq 13, 3) := by decide +kernel
theorem dX10_stage_8 : decode cX10_stage 8 = .ok (.iload_n 2, 1) := by decide +kernel
theorem dX10_stage_9 : decode cX10_stage 9 = .ok (.ifCond .lt 9, 3) := by decide +kernel
theorem dX10_stage_12 : decode cX10_stage 12 = .ok (.iload_n 2, 1) := by decide +kernel
theorem dX10_stage_13 : decode cX10_stage 13 = .ok (.bipush 9, 2) := by decide +kernel
theorem dX10_stage_15 : decode cX10_stage 15 = .ok (.if_icmp .le 9, 3) := by decide +kernel
theorem dX10_stage_18 : decode cX10_stage 18 = .ok (.aload_n 0, 1) := by decide +kernel
theorem dX10_stage_19 : decode cX10_stage 19 = .ok (.iconst 1, 1) := by decide +kernel
theorem dX10_stage_20 : decode cX10_stage 20 = .ok (.invokevirtual 125, 3) := by decide +kernel
theorem dX10_stage_23 : decode cX10_stage 23 = .ok (.ireturn, 1) := by decide +kernel
theorem dX10_stage_24 : decode cX10_stage 24 = .ok (.iload_n 2, 1) := by decide +kernel
theorem dX10_stage_25 : decode cX10_stage 25 = .ok (.bipush 9, 2) := by decide +kernel
theorem dX10_stage_27 : decode cX10_stage 27 = .ok (.if_icmp .ne 26, 3) := by decide +kernel
theorem dX10_stage_30 : decode cX10_stage 30 = .ok (.aload_n 0, 1) := by decide +kernel
theorem dX10_stage_31 : decode cX10_stage 31 = .ok (.aload_n 0, 1) := by decide +kernel
theorem dX10_stage_32 : decode cX10_stage 32 = .ok (.getfield 90, 3) := by decide +kernel
theorem dX10_stage_35 : decode cX10_stage 35 = .ok (.iload_n 1, 1) := by decide +kernel
theorem dX10_stage_36 : decode cX10_stage 36 = .ok (.aload_n 0, 1) := by decide +kernel
theorem dX10_stage_37 : decode cX10_stage 37 = .ok (.getfield 25, 3) := by decide +kernel
theorem dX10_stage_40 : decode cX10_stage 40 = .ok (.iconst 2, 1) := by decide +kernel
theorem dX10_stage_41 : decode cX10_stage 41 = .ok (.iload_n 1, 1) := by decide +kernel
theorem dX10_stage_42 : decode cX10_stage 42 = .ok (.iadd, 1) := by decide +kernel
theorem dX10_stage_43 : decode cX10_stage 43 = .ok (.invokestatic 154, 3) := by decide +kernel
theorem dX10_stage_46 : decode cX10_stage 46 = .ok (.invokevirtual 173, 3) := by decide +kernel
theorem dX10_stage_49 : decode cX10_stage 49 = .ok (.invokevirtual 148, 3) := by decide +kernel
theorem dX10_stage_52 : decode cX10_stage 52 = .ok (.ireturn, 1) := by decide +kernel
theorem dX10_stage_53 : decode cX10_stage 53 = .ok (.aload_n 0, 1) := by decide +kernel
theorem dX10_stage_54 : decode cX10_stage 54 = .ok (.aload_n 0, 1) := by decide +kernel
theorem dX10_stage_55 : decode cX10_stage 55 = .ok (.getfield 90, 3) := by decide +kernel
theorem dX10_stage_58 : decode cX10_stage 58 = .ok (.iload_n 1, 1) := by decide +kernel
theorem dX10_stage_59 : decode cX10_stage 59 = .ok (.iload_n 2, 1) := by decide +kernel
theorem dX10_stage_60 : decode cX10_stage 60 = .ok (.invokevirtual 177, 3) := by decide +kernel
theorem dX10_stage_63 : decode cX10_stage 63 = .ok (.invokevirtual 148, 3) := by decide +kernel
theorem dX10_stage_66 : decode cX10_stage 66 = .ok (.ireturn, 1) := by decide +kernel
theorem dX10_part_0 : decode cX10_part 0 = .ok (.aload_n 0, 1) := by decide +kernel
theorem dX10_part_1 : decode cX10_part 1 = .ok (.iload_n 1, 1) := by decide +kernel
theorem dX10_part_2 : decode cX10_part 2 = .ok (.invokevirtual 170, 3) := by decide +kernel
theorem dX10_part_5 : decode cX10_part 5 = .ok (.ifCond .eq 12, 3) := by decide +kernel
theorem dX10_part_8 : decode cX10_part 8 = .ok (.iload_n 2, 1) := by decide +kernel
theorem dX10_part_9 : decode cX10_part 9 = .ok (.ifCond .lt 8, 3) := by decide +kernel
theorem dX10_part_12 : decode cX10_part 12 = .ok (.iload_n 2, 1) := by decide +kernel
theorem dX10_part_13 : decode cX10_part 13 = .ok (.iconst 4, 1) := by decide +kernel
theorem dX10_part_14 : decode cX10_part 14 = .ok (.if_icmp .le 9, 3) := by decide +kernel
theorem dX10_part_17 : decode cX10_part 17 = .ok (.aload_n 0, 1) := by decide +kernel
theorem dX10_part_18 : decode cX10_part 18 = .ok (.iconst 1, 1) := by decide +kernel
theorem dX10_part_19 : decode cX10_part 19 = .ok (.invokevirtual 125, 3) := by decide +kernel
theorem dX10_part_22 : decode cX10_part 22 = .ok (.ireturn, 1) := by decide +kernel
theorem dX10_part_23 : decode cX10_part 23 = .ok (.aload_n 0, 1) := by decide +kernel
theorem dX10_part_24 : decode cX10_part 24 = .ok (.invokevirtual 180, 3) := by decide +kernel
theorem dX10_part_27 : decode cX10_part 27 = .ok (.iload_n 2, 1) := by decide +kernel
theorem dX10_part_28 : decode cX10_part 28 = .ok (.tableswitch 105 0 3 #[32, 48, 64, 80], 32) := by decide +kernel
theorem dX10_part_60 : decode cX10_part 60 = .ok (.aload_n 0, 1) := by decide +kernel
theorem dX10_part_61 : decode cX10_part 61 = .ok (.aload_n 0, 1) := by decide +kernel
theorem dX10_part_62 : decode cX10_part 62 = .ok (.getfield 35, 3) := by decide +kernel
theorem dX10_part_65 : decode cX10_part 65 = .ok (.getfield 183, 3) := by decide +kernel
theorem dX10_part_68 : decode cX10_part 68 = .ok (.iload_n 1, 1) := by decide +kernel
theorem dX10_part_69 : decode cX10_part 69 = .ok (.invokestatic 154, 3) := by decide +kernel
theorem dX10_part_72 : decode cX10_part 72 = .ok (.invokevirtual 148, 3) := by decide +kernel
theorem dX10_part_75 : decode cX10_part 75 = .ok (.ireturn, 1) := by decide +kernel
theorem dX10_part_76 : decode cX10_part 76 = .ok (.aload_n 0, 1) := by decide +kernel
theorem dX10_part_77 : decode cX10_part 77 = .ok (.aload_n 0, 1) := by decide +kernel
theorem dX10_part_78 : decode cX10_part 78 = .ok (.getfield 35, 3) := by decide +kernel
theorem dX10_part_81 : decode cX10_part 81 = .ok (.getfield 186, 3) := by decide +kernel
theorem dX10_part_84 : decode cX10_part 84 = .ok (.iload_n 1, 1) := by decide +kernel
theorem dX10_part_85 : decode cX10_part 85 = .ok (.invokestatic 154, 3) := by decide +kernel
theorem dX10_part_88 : decode cX10_part 88 = .ok (.invokevirtual 148, 3) := by decide +kernel
theorem dX10_part_91 : decode cX10_part 91 = .ok (.ireturn, 1) := by decide +kernel
theorem dX10_part_92 : decode cX10_part 92 = .ok (.aload_n 0, 1) := by decide +kernel
theorem dX10_part_93 : decode cX10_part 93 = .ok (.aload_n 0, 1) := by decide +kernel
theorem dX10_part_94 : decode cX10_part 94 = .ok (.getfield 35, 3) := by decide +kernel
theorem dX10_part_97 : decode cX10_part 97 = .ok (.getfield 189, 3) := by decide +kernel
theorem dX10_part_100 : decode cX10_part 100 = .ok (.iload_n 1, 1) := by decide +kernel
theorem dX10_part_101 : decode cX10_part 101 = .ok (.invokestatic 154, 3) := by decide +kernel
theorem dX10_part_104 : decode cX10_part 104 = .ok (.invokevirtual 148, 3) := by decide +kernel
theorem dX10_part_107 : decode cX10_part 107 = .ok (.ireturn, 1) := by decide +kernel
theorem dX10_part_108 : decode cX10_part 108 = .ok (.aload_n 0, 1) := by decide +kernel
theorem dX10_part_109 : decode cX10_part 109 = .ok (.aload_n 0, 1) := by decide +kernel
theorem dX10_part_110 : decode cX10_part 110 = .ok (.getfield 35, 3) := by decide +kernel
theorem dX10_part_113 : decode cX10_part 113 = .ok (.aload_n 0, 1) := by decide +kernel
theorem dX10_part_114 : decode cX10_part 114 = .ok (.getfield 90, 3) := by decide +kernel
theorem dX10_part_117 : decode cX10_part 117 = .ok (.iload_n 1, 1) := by decide +kernel
theorem dX10_part_118 : decode cX10_part 118 = .ok (.invokevirtual 192, 3) := by decide +kernel
theorem dX10_part_121 : decode cX10_part 121 = .ok (.ifCond .eq 7, 3) := by decide +kernel
theorem dX10_part_124 : decode cX10_part 124 = .ok (.iconst 1, 1) := by decide +kernel
theorem dX10_part_125 : decode cX10_part 125 = .ok (.goto 4, 3) := by decide +kernel
theorem dX10_part_128 : decode cX10_part 128 = .ok (.iconst 0, 1) := by decide +kernel
theorem dX10_part_129 : decode cX10_part 129 = .ok (.invokevirtual 148, 3) := by decide +kernel
theorem dX10_part_132 : decode cX10_part 132 = .ok (.ireturn, 1) := by decide +kernel
theorem dX10_part_133 : decode cX10_part 133 = .ok (.aload_n 0, 1) := by decide +kernel
theorem dX10_part_134 : decode cX10_part 134 = .ok (.aload_n 0, 1) := by decide +kernel
theorem dX10_part_135 : decode cX10_part 135 = .ok (.getfield 35, 3) := by decide +kernel
theorem dX10_part_138 : decode cX10_part 138 = .ok (.aload_n 0, 1) := by decide +kernel
theorem dX10_part_139 : decode cX10_part 139 = .ok (.getfield 90, 3) := by decide +kernel
theorem dX10_part_142 : decode cX10_part 142 = .ok (.iload_n 1, 1) := by decide +kernel
theorem dX10_part_143 : decode cX10_part 143 = .ok (.aload_n 0, 1) := by decide +kernel
theorem dX10_part_144 : decode cX10_part 144 = .ok (.getfield 90, 3) := by decide +kernel
theorem dX10_part_147 : decode cX10_part 147 = .ok (.iload_n 1, 1) := by decide +kernel
theorem dX10_part_148 : decode cX10_part 148 = .ok (.bipush 8, 2) := by decide +kernel
theorem dX10_part_150 : decode cX10_part 150 = .ok (.invokevirtual 177, 3) := by decide +kernel
theorem dX10_part_153 : decode cX10_part 153 = .ok (.invokevirtual 196, 3) := by decide +kernel
theorem dX10_part_156 : decode cX10_part 156 = .ok (.invokevirtual 148, 3) := by decide +kernel
theorem dX10_part_159 : decode cX10_part 159 = .ok (.ireturn, 1) := by decide +kernel
theorem dX10_margin_0 : decode cX10_margin 0 = .ok (.aload_n 0, 1) := by decide +kernel
theorem dX10_margin_1 : decode cX10_margin 1 = .ok (.iload_n 1, 1) := by decide +kernel
theorem dX10_margin_2 : decode cX10_margin 2 = .ok (.invokevirtual 170, 3) := by decide +kernel
theorem dX10_margin_5 : decode cX10_margin 5 = .ok (.ifCond .ne 9, 3) := by decide +kernel
theorem dX10_margin_8 : decode cX10_margin 8 = .ok (.aload_n 0, 1) := by decide +kernel
theorem dX10_margin_9 : decode cX10_margin 9 = .ok (.iconst 1, 1) := by decide +kernel
theorem dX10_margin_10 : decode cX10_margin 10 = .ok (.invokevirtual 125, 3) := by decide +kernel
theorem dX10_margin_13 : decode cX10_margin 13 = .ok (.ireturn, 1) := by decide +kernel
theorem dX10_margin_14 : decode cX10_margin 14 = .ok (.iload_n 2, 1) := by decide +kernel
theorem dX10_margin_15 : decode cX10_margin 15 = .ok (.ifCond .lt 16, 3) := by decide +kernel
theorem dX10_margin_18 : decode cX10_margin 18 = .ok (.iload_n 2, 1) := by decide +kernel
theorem dX10_margin_19 : decode cX10_margin 19 = .ok (.aload_n 0, 1) := by decide +kernel
theorem dX10_margin_20 : decode cX10_margin 20 = .ok (.getfield 90, 3) := by decide +kernel
theorem dX10_margin_23 : decode cX10_margin 23 = .ok (.iload_n 1, 1) := by decide +kernel
theorem dX10_margin_24 : decode cX10_margin 24 = .ok (.iconst 4, 1) := by decide +kernel
theorem dX10_margin_25 : decode cX10_margin 25 = .ok (.invokevirtual 177, 3) := by decide +kernel
theorem dX10_margin_28 : decode cX10_margin 28 = .ok (.if_icmp .le 9, 3) := by decide +kernel
theorem dX10_margin_31 : decode cX10_margin 31 = .ok (.aload_n 0, 1) := by decide +kernel
theorem dX10_margin_32 : decode cX10_margin 32 = .ok (.iconst 2, 1) := by decide +kernel
theorem dX10_margin_33 : decode cX10_margin 33 = .ok (.invokevirtual 125, 3) := by decide +kernel
theorem dX10_margin_36 : decode cX10_margin 36 = .ok (.ireturn, 1) := by decide +kernel
theorem dX10_margin_37 : decode cX10_margin 37 = .ok (.aload_n 0, 1) := by decide +kernel
theorem dX10_margin_38 : decode cX10_margin 38 = .ok (.invokevirtual 180, 3) := by decide +kernel
theorem dX10_margin_41 : decode cX10_margin 41 = .ok (.aload_n 0, 1) := by decide +kernel
theorem dX10_margin_42 : decode cX10_margin 42 = .ok (.aload_n 0, 1) := by decide +kernel
theorem dX10_margin_43 : decode cX10_margin 43 = .ok (.getfield 35, 3) := by decide +kernel
theorem dX10_margin_46 : decode cX10_margin 46 = .ok (.aload_n 0, 1) := by decide +kernel
theorem dX10_margin_47 : decode cX10_margin 47 = .ok (.getfield 90, 3) := by decide +kernel
theorem dX10_margin_50 : decode cX10_margin 50 = .ok (.iload_n 1, 1) := by decide +kernel
theorem dX10_margin_51 : decode cX10_margin 51 = .ok (.iload_n 2, 1) := by decide +kernel
theorem dX10_margin_52 : decode cX10_margin 52 = .ok (.invokevirtual 196, 3) := by decide +kernel
theorem dX10_margin_55 : decode cX10_margin 55 = .ok (.invokevirtual 148, 3) := by decide +kernel
theorem dX10_margin_58 : decode cX10_margin 58 = .ok (.ireturn, 1) := by decide +kernel
theorem dX10_spare_0 : decode cX10_spare 0 = .ok (.aload_n 0, 1) := by decide +kernel
theorem dX10_spare_1 : decode cX10_spare 1 = .ok (.iload_n 1, 1) := by decide +kernel
theorem dX10_spare_2 : decode cX10_spare 2 = .ok (.invokevirtual 170, 3) := by decide +kernel
theorem dX10_spare_5 : decode cX10_spare 5 = .ok (.ifCond .ne 9, 3) := by decide +kernel
theorem dX10_spare_8 : decode cX10_spare 8 = .ok (.aload_n 0, 1) := by decide +kernel
theorem dX10_spare_9 : decode cX10_spare 9 = .ok (.iconst 1, 1) := by decide +kernel
theorem dX10_spare_10 : decode cX10_spare 10 = .ok (.invokevirtual 125, 3) := by decide +kernel
theorem dX10_spare_13 : decode cX10_spare 13 = .ok (.ireturn, 1) := by decide +kernel
theorem dX10_spare_14 : decode cX10_spare 14 = .ok (.aload_n 0, 1) := by decide +kernel
theorem dX10_spare_15 : decode cX10_spare 15 = .ok (.invokevirtual 180, 3) := by decide +kernel
theorem dX10_spare_18 : decode cX10_spare 18 = .ok (.aload_n 0, 1) := by decide +kernel
theorem dX10_spare_19 : decode cX10_spare 19 = .ok (.getfield 90, 3) := by decide +kernel
theorem dX10_spare_22 : decode cX10_spare 22 = .ok (.iload_n 1, 1) := by decide +kernel
theorem dX10_spare_23 : decode cX10_spare 23 = .ok (.bipush 7, 2) := by decide +kernel
theorem dX10_spare_25 : decode cX10_spare 25 = .ok (.invokevirtual 177, 3) := by decide +kernel
theorem dX10_spare_28 : decode cX10_spare 28 = .ok (.istore_n 2, 1) := by decide +kernel
theorem dX10_spare_29 : decode cX10_spare 29 = .ok (.aload_n 0, 1) := by decide +kernel
theorem dX10_spare_30 : decode cX10_spare 30 = .ok (.getfield 90, 3) := by decide +kernel
theorem dX10_spare_33 : decode cX10_spare 33 = .ok (.iload_n 1, 1) := by decide +kernel
theorem dX10_spare_34 : decode cX10_spare 34 = .ok (.iconst 4, 1) := by decide +kernel
theorem dX10_spare_35 : decode cX10_spare 35 = .ok (.invokevirtual 177, 3) := by decide +kernel
theorem dX10_spare_38 : decode cX10_spare 38 = .ok (.istore_n 3, 1) := by decide +kernel
theorem dX10_spare_39 : decode cX10_spare 39 = .ok (.iload_n 3, 1) := by decide +kernel
theorem dX10_spare_40 : decode cX10_spare 40 = .ok (.ifCond .lt 32, 3) := by decide +kernel
theorem dX10_spare_43 : decode cX10_spare 43 = .ok (.aload_n 0, 1) := by decide +kernel
theorem dX10_spare_44 : decode cX10_spare 44 = .ok (.getfield 35, 3) := by decide +kernel
theorem dX10_spare_47 : decode cX10_spare 47 = .ok (.aload_n 0, 1) := by decide +kernel
theorem dX10_spare_48 : decode cX10_spare 48 = .ok (.getfield 90, 3) := by decide +kernel
theorem dX10_spare_51 : decode cX10_spare 51 = .ok (.iload_n 1, 1) := by decide +kernel
theorem dX10_spare_52 : decode cX10_spare 52 = .ok (.iload_n 3, 1) := by decide +kernel
theorem dX10_spare_53 : decode cX10_spare 53 = .ok (.invokevirtual 196, 3) := by decide +kernel
theorem dX10_spare_56 : decode cX10_spare 56 = .ok (.iload_n 2, 1) := by decide +kernel
theorem dX10_spare_57 : decode cX10_spare 57 = .ok (.if_icmp .lt 9, 3) := by decide +kernel
theorem dX10_spare_60 : decode cX10_spare 60 = .ok (.aload_n 0, 1) := by decide +kernel
theorem dX10_spare_61 : decode cX10_spare 61 = .ok (.iload_n 3, 1) := by decide +kernel
theorem dX10_spare_62 : decode cX10_spare 62 = .ok (.invokevirtual 148, 3) := by decide +kernel
theorem dX10_spare_65 : decode cX10_spare 65 = .ok (.ireturn, 1) := by decide +kernel
theorem dX10_spare_66 : decode cX10_spare 66 = .ok (.iinc 3 (-1), 3) := by decide +kernel
theorem dX10_spare_69 : decode cX10_spare 69 = .ok (.goto (-30), 3) := by decide +kernel
theorem dX10_spare_72 : decode cX10_spare 72 = .ok (.aload_n 0, 1) := by decide +kernel
theorem dX10_spare_73 : decode cX10_spare 73 = .ok (.bipush (-2), 2) := by decide +kernel
theorem dX10_spare_75 : decode cX10_spare 75 = .ok (.invokevirtual 148, 3) := by decide +kernel
theorem dX10_spare_78 : decode cX10_spare 78 = .ok (.ireturn, 1) := by decide +kernel
theorem dX10_mass_0 : decode cX10_mass 0 = .ok (.aload_n 0, 1) := by decide +kernel
theorem dX10_mass_1 : decode cX10_mass 1 = .ok (.getfield 97, 3) := by decide +kernel
theorem dX10_mass_4 : decode cX10_mass 4 = .ok (.ifCond .ne 9, 3) := by decide +kernel
theorem dX10_mass_7 : decode cX10_mass 7 = .ok (.aload_n 0, 1) := by decide +kernel
theorem dX10_mass_8 : decode cX10_mass 8 = .ok (.iconst 1, 1) := by decide +kernel
theorem dX10_mass_9 : decode cX10_mass 9 = .ok (.invokevirtual 125, 3) := by decide +kernel
theorem dX10_mass_12 : decode cX10_mass 12 = .ok (.ireturn, 1) := by decide +kernel
theorem dX10_mass_13 : decode cX10_mass 13 = .ok (.aload_n 0, 1) := by decide +kernel
theorem dX10_mass_14 : decode cX10_mass 14 = .ok (.invokevirtual 180, 3) := by decide +kernel
theorem dX10_mass_17 : decode cX10_mass 17 = .ok (.aload_n 0, 1) := by decide +kernel
theorem dX10_mass_18 : decode cX10_mass 18 = .ok (.aload_n 0, 1) := by decide +kernel
theorem dX10_mass_19 : decode cX10_mass 19 = .ok (.getfield 35, 3) := by decide +kernel
theorem dX10_mass_22 : decode cX10_mass 22 = .ok (.getfield 200, 3) := by decide +kernel
theorem dX10_mass_25 : decode cX10_mass 25 = .ok (.invokevirtual 148, 3) := by decide +kernel
theorem dX10_mass_28 : decode cX10_mass 28 = .ok (.ireturn, 1) := by decide +kernel
theorem dX10_reaches_0 : decode cX10_reaches 0 = .ok (.aload_n 0, 1) := by decide +kernel
theorem dX10_reaches_1 : decode cX10_reaches 1 = .ok (.getfield 97, 3) := by decide +kernel
theorem dX10_reaches_4 : decode cX10_reaches 4 = .ok (.ifCond .ne 9, 3) := by decide +kernel
theorem dX10_reaches_7 : decode cX10_reaches 7 = .ok (.aload_n 0, 1) := by decide +kernel
theorem dX10_reaches_8 : decode cX10_reaches 8 = .ok (.iconst 1, 1) := by decide +kernel
theorem dX10_reaches_9 : decode cX10_reaches 9 = .ok (.invokevirtual 125, 3) := by decide +kernel
theorem dX10_reaches_12 : decode cX10_reaches 12 = .ok (.ireturn, 1) := by decide +kernel
theorem dX10_reaches_13 : decode cX10_reaches 13 = .ok (.iload_n 1, 1) := by decide +kernel
theorem dX10_reaches_14 : decode cX10_reaches 14 = .ok (.invokestatic 203, 3) := by decide +kernel
theorem dX10_reaches_17 : decode cX10_reaches 17 = .ok (.ifCond .ne 9, 3) := by decide +kernel
theorem dX10_reaches_20 : decode cX10_reaches 20 = .ok (.aload_n 0, 1) := by decide +kernel
theorem dX10_reaches_21 : decode cX10_reaches 21 = .ok (.iconst 2, 1) := by decide +kernel
theorem dX10_reaches_22 : decode cX10_reaches 22 = .ok (.invokevirtual 125, 3) := by decide +kernel
theorem dX10_reaches_25 : decode cX10_reaches 25 = .ok (.ireturn, 1) := by decide +kernel
theorem dX10_reaches_26 : decode cX10_reaches 26 = .ok (.aload_n 0, 1) := by decide +kernel
theorem dX10_reaches_27 : decode cX10_reaches 27 = .ok (.aload_n 0, 1) := by decide +kernel
theorem dX10_reaches_28 : decode cX10_reaches 28 = .ok (.invokevirtual 206, 3) := by decide +kernel
theorem dX10_reaches_31 : decode cX10_reaches 31 = .ok (.iload_n 1, 1) := by decide +kernel
theorem dX10_reaches_32 : decode cX10_reaches 32 = .ok (.if_icmp .lt 7, 3) := by decide +kernel
theorem dX10_reaches_35 : decode cX10_reaches 35 = .ok (.iconst 1, 1) := by decide +kernel
theorem dX10_reaches_36 : decode cX10_reaches 36 = .ok (.goto 4, 3) := by decide +kernel
theorem dX10_reaches_39 : decode cX10_reaches 39 = .ok (.iconst 0, 1) := by decide +kernel
theorem dX10_reaches_40 : decode cX10_reaches 40 = .ok (.invokevirtual 148, 3) := by decide +kernel
theorem dX10_reaches_43 : decode cX10_reaches 43 = .ok (.ireturn, 1) := by decide +kernel
theorem dX10_greatest_0 : decode cX10_greatest 0 = .ok (.aload_n 0, 1) := by decide +kernel
theorem dX10_greatest_1 : decode cX10_greatest 1 = .ok (.getfield 97, 3) := by decide +kernel
theorem dX10_greatest_4 : decode cX10_greatest 4 = .ok (.ifCond .ne 9, 3) := by decide +kernel
theorem dX10_greatest_7 : decode cX10_greatest 7 = .ok (.aload_n 0, 1) := by decide +kernel
theorem dX10_greatest_8 : decode cX10_greatest 8 = .ok (.iconst 1, 1) := by decide +kernel
theorem dX10_greatest_9 : decode cX10_greatest 9 = .ok (.invokevirtual 125, 3) := by decide +kernel
theorem dX10_greatest_12 : decode cX10_greatest 12 = .ok (.ireturn, 1) := by decide +kernel
theorem dX10_greatest_13 : decode cX10_greatest 13 = .ok (.aload_n 0, 1) := by decide +kernel
theorem dX10_greatest_14 : decode cX10_greatest 14 = .ok (.aload_n 0, 1) := by decide +kernel
theorem dX10_greatest_15 : decode cX10_greatest 15 = .ok (.invokevirtual 206, 3) := by decide +kernel
theorem dX10_greatest_18 : decode cX10_greatest 18 = .ok (.invokevirtual 148, 3) := by decide +kernel
theorem dX10_greatest_21 : decode cX10_greatest 21 = .ok (.ireturn, 1) := by decide +kernel
theorem dX10_speed_0 : decode cX10_speed 0 = .ok (.aload_n 0, 1) := by decide +kernel
theorem dX10_speed_1 : decode cX10_speed 1 = .ok (.getfield 97, 3) := by decide +kernel
theorem dX10_speed_4 : decode cX10_speed 4 = .ok (.ifCond .ne 9, 3) := by decide +kernel
theorem dX10_speed_7 : decode cX10_speed 7 = .ok (.aload_n 0, 1) := by decide +kernel
theorem dX10_speed_8 : decode cX10_speed 8 = .ok (.iconst 1, 1) := by decide +kernel
theorem dX10_speed_9 : decode cX10_speed 9 = .ok (.invokevirtual 125, 3) := by decide +kernel
theorem dX10_speed_12 : decode cX10_speed 12 = .ok (.ireturn, 1) := by decide +kernel
theorem dX10_speed_13 : decode cX10_speed 13 = .ok (.aload_n 0, 1) := by decide +kernel
theorem dX10_speed_14 : decode cX10_speed 14 = .ok (.invokevirtual 180, 3) := by decide +kernel
theorem dX10_speed_17 : decode cX10_speed 17 = .ok (.aload_n 0, 1) := by decide +kernel
theorem dX10_speed_18 : decode cX10_speed 18 = .ok (.getfield 35, 3) := by decide +kernel
theorem dX10_speed_21 : decode cX10_speed 21 = .ok (.aload_n 0, 1) := by decide +kernel
theorem dX10_speed_22 : decode cX10_speed 22 = .ok (.getfield 90, 3) := by decide +kernel
theorem dX10_speed_25 : decode cX10_speed 25 = .ok (.aload_n 0, 1) := by decide +kernel
theorem dX10_speed_26 : decode cX10_speed 26 = .ok (.getfield 45, 3) := by decide +kernel
theorem dX10_speed_29 : decode cX10_speed 29 = .ok (.invokevirtual 210, 3) := by decide +kernel
theorem dX10_speed_32 : decode cX10_speed 32 = .ok (.aload_n 0, 1) := by decide +kernel
theorem dX10_speed_33 : decode cX10_speed 33 = .ok (.aload_n 0, 1) := by decide +kernel
theorem dX10_speed_34 : decode cX10_speed 34 = .ok (.getfield 45, 3) := by decide +kernel
theorem dX10_speed_37 : decode cX10_speed 37 = .ok (.iload_n 1, 1) := by decide +kernel
theorem dX10_speed_38 : decode cX10_speed 38 = .ok (.invokevirtual 214, 3) := by decide +kernel
theorem dX10_speed_41 : decode cX10_speed 41 = .ok (.invokevirtual 148, 3) := by decide +kernel
theorem dX10_speed_44 : decode cX10_speed 44 = .ok (.ireturn, 1) := by decide +kernel
theorem dX10_holds_0 : decode cX10_holds 0 = .ok (.aload_n 0, 1) := by decide +kernel
theorem dX10_holds_1 : decode cX10_holds 1 = .ok (.getfield 97, 3) := by decide +kernel
theorem dX10_holds_4 : decode cX10_holds 4 = .ok (.ifCond .ne 9, 3) := by decide +kernel
theorem dX10_holds_7 : decode cX10_holds 7 = .ok (.aload_n 0, 1) := by decide +kernel
theorem dX10_holds_8 : decode cX10_holds 8 = .ok (.iconst 1, 1) := by decide +kernel
theorem dX10_holds_9 : decode cX10_holds 9 = .ok (.invokevirtual 125, 3) := by decide +kernel
theorem dX10_holds_12 : decode cX10_holds 12 = .ok (.ireturn, 1) := by decide +kernel
theorem dX10_holds_13 : decode cX10_holds 13 = .ok (.aload_n 0, 1) := by decide +kernel
theorem dX10_holds_14 : decode cX10_holds 14 = .ok (.invokevirtual 180, 3) := by decide +kernel
theorem dX10_holds_17 : decode cX10_holds 17 = .ok (.aload_n 0, 1) := by decide +kernel
theorem dX10_holds_18 : decode cX10_holds 18 = .ok (.aload_n 0, 1) := by decide +kernel
theorem dX10_holds_19 : decode cX10_holds 19 = .ok (.getfield 35, 3) := by decide +kernel
theorem dX10_holds_22 : decode cX10_holds 22 = .ok (.aload_n 0, 1) := by decide +kernel
theorem dX10_holds_23 : decode cX10_holds 23 = .ok (.getfield 90, 3) := by decide +kernel
theorem dX10_holds_26 : decode cX10_holds 26 = .ok (.invokevirtual 218, 3) := by decide +kernel
theorem dX10_holds_29 : decode cX10_holds 29 = .ok (.ifCond .eq 7, 3) := by decide +kernel
theorem dX10_holds_32 : decode cX10_holds 32 = .ok (.iconst 1, 1) := by decide +kernel
theorem dX10_holds_33 : decode cX10_holds 33 = .ok (.goto 4, 3) := by decide +kernel
theorem dX10_holds_36 : decode cX10_holds 36 = .ok (.iconst 0, 1) := by decide +kernel
theorem dX10_holds_37 : decode cX10_holds 37 = .ok (.invokevirtual 148, 3) := by decide +kernel
theorem dX10_holds_40 : decode cX10_holds 40 = .ok (.ireturn, 1) := by decide +kernel
theorem dX10_richer_0 : decode cX10_richer 0 = .ok (.aload_n 0, 1) := by decide +kernel
theorem dX10_richer_1 : decode cX10_richer 1 = .ok (.iload_n 1, 1) := by decide +kernel
theorem dX10_richer_2 : decode cX10_richer 2 = .ok (.invokevirtual 170, 3) := by decide +kernel
theorem dX10_richer_5 : decode cX10_richer 5 = .ok (.ifCond .eq 16, 3) := by decide +kernel
theorem dX10_richer_8 : decode cX10_richer 8 = .ok (.aload_n 0, 1) := by decide +kernel
theorem dX10_richer_9 : decode cX10_richer 9 = .ok (.iload_n 2, 1) := by decide +kernel
theorem dX10_richer_10 : decode cX10_richer 10 = .ok (.invokevirtual 170, 3) := by decide +kernel
theorem dX10_richer_13 : decode cX10_richer 13 = .ok (.ifCond .eq 8, 3) := by decide +kernel
theorem dX10_richer_16 : decode cX10_richer 16 = .ok (.iload_n 1, 1) := by decide +kernel
theorem dX10_richer_17 : decode cX10_richer 17 = .ok (.iload_n 2, 1) := by decide +kernel
theorem dX10_richer_18 : decode cX10_richer 18 = .ok (.if_icmp .ne 12, 3) := by decide +kernel
theorem dX10_richer_21 : decode cX10_richer 21 = .ok (.aload_n 0, 1) := by decide +kernel
theorem dX10_richer_22 : decode cX10_richer 22 = .ok (.iconst 1, 1) := by decide +kernel
theorem dX10_richer_23 : decode cX10_richer 23 = .ok (.invokevirtual 125, 3) := by decide +kernel
theorem dX10_richer_26 : decode cX10_richer 26 = .ok (.pop, 1) := by decide +kernel
theorem dX10_richer_27 : decode cX10_richer 27 = .ok (.bipush (-2), 2) := by decide +kernel
theorem dX10_richer_29 : decode cX10_richer 29 = .ok (.ireturn, 1) := by decide +kernel
theorem dX10_richer_30 : decode cX10_richer 30 = .ok (.aload_n 0, 1) := by decide +kernel
theorem dX10_richer_31 : decode cX10_richer 31 = .ok (.iload_n 1, 1) := by decide +kernel
theorem dX10_richer_32 : decode cX10_richer 32 = .ok (.invokevirtual 222, 3) := by decide +kernel
theorem dX10_richer_35 : decode cX10_richer 35 = .ok (.ifCond .ne 11, 3) := by decide +kernel
theorem dX10_richer_38 : decode cX10_richer 38 = .ok (.aload_n 0, 1) := by decide +kernel
theorem dX10_richer_39 : decode cX10_richer 39 = .ok (.iload_n 2, 1) := by decide +kernel
theorem dX10_richer_40 : decode cX10_richer 40 = .ok (.invokevirtual 222, 3) := by decide +kernel
theorem dX10_richer_43 : decode cX10_richer 43 = .ok (.ifCond .eq 12, 3) := by decide +kernel
theorem dX10_richer_46 : decode cX10_richer 46 = .ok (.aload_n 0, 1) := by decide +kernel
theorem dX10_richer_47 : decode cX10_richer 47 = .ok (.iconst 5, 1) := by decide +kernel
theorem dX10_richer_48 : decode cX10_richer 48 = .ok (.invokevirtual 125, 3) := by decide +kernel
theorem dX10_richer_51 : decode cX10_richer 51 = .ok (.pop, 1) := by decide +kernel
theorem dX10_richer_52 : decode cX10_richer 52 = .ok (.bipush (-2), 2) := by decide +kernel
theorem dX10_richer_54 : decode cX10_richer 54 = .ok (.ireturn, 1) := by decide +kernel
theorem dX10_richer_55 : decode cX10_richer 55 = .ok (.aload_n 0, 1) := by decide +kernel
theorem dX10_richer_56 : decode cX10_richer 56 = .ok (.iload_n 1, 1) := by decide +kernel
theorem dX10_richer_57 : decode cX10_richer 57 = .ok (.invokevirtual 225, 3) := by decide +kernel
theorem dX10_richer_60 : decode cX10_richer 60 = .ok (.aload_n 0, 1) := by decide +kernel
theorem dX10_richer_61 : decode cX10_richer 61 = .ok (.getfield 35, 3) := by decide +kernel
theorem dX10_richer_64 : decode cX10_richer 64 = .ok (.aload_n 0, 1) := by decide +kernel
theorem dX10_richer_65 : decode cX10_richer 65 = .ok (.getfield 90, 3) := by decide +kernel
theorem dX10_richer_68 : decode cX10_richer 68 = .ok (.aload_n 0, 1) := by decide +kernel
theorem dX10_richer_69 : decode cX10_richer 69 = .ok (.getfield 45, 3) := by decide +kernel
theorem dX10_richer_72 : decode cX10_richer 72 = .ok (.invokevirtual 210, 3) := by decide +kernel
theorem dX10_richer_75 : decode cX10_richer 75 = .ok (.aload_n 0, 1) := by decide +kernel
theorem dX10_richer_76 : decode cX10_richer 76 = .ok (.iload_n 2, 1) := by decide +kernel
theorem dX10_richer_77 : decode cX10_richer 77 = .ok (.invokevirtual 225, 3) := by decide +kernel
theorem dX10_richer_80 : decode cX10_richer 80 = .ok (.aload_n 0, 1) := by decide +kernel
theorem dX10_richer_81 : decode cX10_richer 81 = .ok (.getfield 35, 3) := by decide +kernel
theorem dX10_richer_84 : decode cX10_richer 84 = .ok (.aload_n 0, 1) := by decide +kernel
theorem dX10_richer_85 : decode cX10_richer 85 = .ok (.getfield 90, 3) := by decide +kernel
theorem dX10_richer_88 : decode cX10_richer 88 = .ok (.aload_n 0, 1) := by decide +kernel
theorem dX10_richer_89 : decode cX10_richer 89 = .ok (.getfield 49, 3) := by decide +kernel
theorem dX10_richer_92 : decode cX10_richer 92 = .ok (.invokevirtual 210, 3) := by decide +kernel
theorem dX10_richer_95 : decode cX10_richer 95 = .ok (.aload_n 0, 1) := by decide +kernel
theorem dX10_richer_96 : decode cX10_richer 96 = .ok (.aload_n 0, 1) := by decide +kernel
theorem dX10_richer_97 : decode cX10_richer 97 = .ok (.getfield 55, 3) := by decide +kernel
theorem dX10_richer_100 : decode cX10_richer 100 = .ok (.aload_n 0, 1) := by decide +kernel
theorem dX10_richer_101 : decode cX10_richer 101 = .ok (.getfield 45, 3) := by decide +kernel
theorem dX10_richer_104 : decode cX10_richer 104 = .ok (.aload_n 0, 1) := by decide +kernel
theorem dX10_richer_105 : decode cX10_richer 105 = .ok (.getfield 49, 3) := by decide +kernel
theorem dX10_richer_108 : decode cX10_richer 108 = .ok (.invokevirtual 228, 3) := by decide +kernel
theorem dX10_richer_111 : decode cX10_richer 111 = .ok (.invokevirtual 148, 3) := by decide +kernel
theorem dX10_richer_114 : decode cX10_richer 114 = .ok (.ireturn, 1) := by decide +kernel
theorem dX10_least_0 : decode cX10_least 0 = .ok (.aload_n 0, 1) := by decide +kernel
theorem dX10_least_1 : decode cX10_least 1 = .ok (.getfield 97, 3) := by decide +kernel
theorem dX10_least_4 : decode cX10_least 4 = .ok (.ifCond .ne 9, 3) := by decide +kernel
theorem dX10_least_7 : decode cX10_least 7 = .ok (.aload_n 0, 1) := by decide +kernel
theorem dX10_least_8 : decode cX10_least 8 = .ok (.iconst 1, 1) := by decide +kernel
theorem dX10_least_9 : decode cX10_least 9 = .ok (.invokevirtual 125, 3) := by decide +kernel
theorem dX10_least_12 : decode cX10_least 12 = .ok (.ireturn, 1) := by decide +kernel
theorem dX10_least_13 : decode cX10_least 13 = .ok (.iload_n 1, 1) := by decide +kernel
theorem dX10_least_14 : decode cX10_least 14 = .ok (.invokestatic 203, 3) := by decide +kernel
theorem dX10_least_17 : decode cX10_least 17 = .ok (.ifCond .ne 9, 3) := by decide +kernel
theorem dX10_least_20 : decode cX10_least 20 = .ok (.aload_n 0, 1) := by decide +kernel
theorem dX10_least_21 : decode cX10_least 21 = .ok (.iconst 2, 1) := by decide +kernel
theorem dX10_least_22 : decode cX10_least 22 = .ok (.invokevirtual 125, 3) := by decide +kernel
theorem dX10_least_25 : decode cX10_least 25 = .ok (.ireturn, 1) := by decide +kernel
theorem dX10_least_26 : decode cX10_least 26 = .ok (.aload_n 0, 1) := by decide +kernel
theorem dX10_least_27 : decode cX10_least 27 = .ok (.getfield 64, 3) := by decide +kernel
theorem dX10_least_30 : decode cX10_least 30 = .ok (.aload_n 0, 1) := by decide +kernel
theorem dX10_least_31 : decode cX10_least 31 = .ok (.getfield 90, 3) := by decide +kernel
theorem dX10_least_34 : decode cX10_least 34 = .ok (.aload_n 0, 1) := by decide +kernel
theorem dX10_least_35 : decode cX10_least 35 = .ok (.getfield 25, 3) := by decide +kernel
theorem dX10_least_38 : decode cX10_least 38 = .ok (.aload_n 0, 1) := by decide +kernel
theorem dX10_least_39 : decode cX10_least 39 = .ok (.getfield 35, 3) := by decide +kernel
theorem dX10_least_42 : decode cX10_least 42 = .ok (.invokevirtual 232, 3) := by decide +kernel
theorem dX10_least_45 : decode cX10_least 45 = .ok (.aload_n 0, 1) := by decide +kernel
theorem dX10_least_46 : decode cX10_least 46 = .ok (.getfield 64, 3) := by decide +kernel
theorem dX10_least_49 : decode cX10_least 49 = .ok (.iload_n 1, 1) := by decide +kernel
theorem dX10_least_50 : decode cX10_least 50 = .ok (.invokevirtual 236, 3) := by decide +kernel
theorem dX10_least_53 : decode cX10_least 53 = .ok (.istore_n 2, 1) := by decide +kernel
theorem dX10_least_54 : decode cX10_least 54 = .ok (.aload_n 0, 1) := by decide +kernel
theorem dX10_least_55 : decode cX10_least 55 = .ok (.iload_n 2, 1) := by decide +kernel
theorem dX10_least_56 : decode cX10_least 56 = .ok (.ifCond .ge 8, 3) := by decide +kernel
theorem dX10_least_59 : decode cX10_least 59 = .ok (.bipush (-2), 2) := by decide +kernel
theorem dX10_least_61 : decode cX10_least 61 = .ok (.goto 11, 3) := by decide +kernel
theorem dX10_least_64 : decode cX10_least 64 = .ok (.aload_n 0, 1) := by decide +kernel
theorem dX10_least_65 : decode cX10_least 65 = .ok (.getfield 64, 3) := by decide +kernel
theorem dX10_least_68 : decode cX10_least 68 = .ok (.iload_n 2, 1) := by decide +kernel
theorem dX10_least_69 : decode cX10_least 69 = .ok (.invokevirtual 239, 3) := by decide +kernel
theorem dX10_least_72 : decode cX10_least 72 = .ok (.invokevirtual 148, 3) := by decide +kernel
theorem dX10_least_75 : decode cX10_least 75 = .ok (.ireturn, 1) := by decide +kernel
theorem dX10_fuel_0 : decode cX10_fuel 0 = .ok (.aload_n 0, 1) := by decide +kernel
theorem dX10_fuel_1 : decode cX10_fuel 1 = .ok (.iload_n 2, 1) := by decide +kernel
theorem dX10_fuel_2 : decode cX10_fuel 2 = .ok (.invokevirtual 170, 3) := by decide +kernel
theorem dX10_fuel_5 : decode cX10_fuel 5 = .ok (.ifCond .ne 9, 3) := by decide +kernel
theorem dX10_fuel_8 : decode cX10_fuel 8 = .ok (.aload_n 0, 1) := by decide +kernel
theorem dX10_fuel_9 : decode cX10_fuel 9 = .ok (.iconst 1, 1) := by decide +kernel
theorem dX10_fuel_10 : decode cX10_fuel 10 = .ok (.invokevirtual 125, 3) := by decide +kernel
theorem dX10_fuel_13 : decode cX10_fuel 13 = .ok (.ireturn, 1) := by decide +kernel
theorem dX10_fuel_14 : decode cX10_fuel 14 = .ok (.iload_n 1, 1) := by decide +kernel
theorem dX10_fuel_15 : decode cX10_fuel 15 = .ok (.invokestatic 203, 3) := by decide +kernel
theorem dX10_fuel_18 : decode cX10_fuel 18 = .ok (.ifCond .ne 9, 3) := by decide +kernel
theorem dX10_fuel_21 : decode cX10_fuel 21 = .ok (.aload_n 0, 1) := by decide +kernel
theorem dX10_fuel_22 : decode cX10_fuel 22 = .ok (.iconst 2, 1) := by decide +kernel
theorem dX10_fuel_23 : decode cX10_fuel 23 = .ok (.invokevirtual 125, 3) := by decide +kernel
theorem dX10_fuel_26 : decode cX10_fuel 26 = .ok (.ireturn, 1) := by decide +kernel
theorem dX10_fuel_27 : decode cX10_fuel 27 = .ok (.aload_n 0, 1) := by decide +kernel
theorem dX10_fuel_28 : decode cX10_fuel 28 = .ok (.getfield 64, 3) := by decide +kernel
theorem dX10_fuel_31 : decode cX10_fuel 31 = .ok (.aload_n 0, 1) := by decide +kernel
theorem dX10_fuel_32 : decode cX10_fuel 32 = .ok (.getfield 90, 3) := by decide +kernel
theorem dX10_fuel_35 : decode cX10_fuel 35 = .ok (.aload_n 0, 1) := by decide +kernel
theorem dX10_fuel_36 : decode cX10_fuel 36 = .ok (.getfield 25, 3) := by decide +kernel
theorem dX10_fuel_39 : decode cX10_fuel 39 = .ok (.aload_n 0, 1) := by decide +kernel
theorem dX10_fuel_40 : decode cX10_fuel 40 = .ok (.getfield 35, 3) := by decide +kernel
theorem dX10_fuel_43 : decode cX10_fuel 43 = .ok (.invokevirtual 232, 3) := by decide +kernel
theorem dX10_fuel_46 : decode cX10_fuel 46 = .ok (.aload_n 0, 1) := by decide +kernel
theorem dX10_fuel_47 : decode cX10_fuel 47 = .ok (.getfield 64, 3) := by decide +kernel
theorem dX10_fuel_50 : decode cX10_fuel 50 = .ok (.iload_n 1, 1) := by decide +kernel
theorem dX10_fuel_51 : decode cX10_fuel 51 = .ok (.invokevirtual 236, 3) := by decide +kernel
theorem dX10_fuel_54 : decode cX10_fuel 54 = .ok (.istore_n 3, 1) := by decide +kernel
theorem dX10_fuel_55 : decode cX10_fuel 55 = .ok (.aload_n 0, 1) := by decide +kernel
theorem dX10_fuel_56 : decode cX10_fuel 56 = .ok (.iload_n 3, 1) := by decide +kernel
theorem dX10_fuel_57 : decode cX10_fuel 57 = .ok (.ifCond .ge 8, 3) := by decide +kernel
theorem dX10_fuel_60 : decode cX10_fuel 60 = .ok (.bipush (-2), 2) := by decide +kernel
theorem dX10_fuel_62 : decode cX10_fuel 62 = .ok (.goto 8, 3) := by decide +kernel
theorem dX10_fuel_65 : decode cX10_fuel 65 = .ok (.iload_n 3, 1) := by decide +kernel
theorem dX10_fuel_66 : decode cX10_fuel 66 = .ok (.iload_n 2, 1) := by decide +kernel
theorem dX10_fuel_67 : decode cX10_fuel 67 = .ok (.invokestatic 242, 3) := by decide +kernel
theorem dX10_fuel_70 : decode cX10_fuel 70 = .ok (.invokevirtual 148, 3) := by decide +kernel
theorem dX10_fuel_73 : decode cX10_fuel 73 = .ok (.ireturn, 1) := by decide +kernel
theorem dX10_farthest_0 : decode cX10_farthest 0 = .ok (.aload_n 0, 1) := by decide +kernel
theorem dX10_farthest_1 : decode cX10_farthest 1 = .ok (.getfield 97, 3) := by decide +kernel
theorem dX10_farthest_4 : decode cX10_farthest 4 = .ok (.ifCond .ne 9, 3) := by decide +kernel
theorem dX10_farthest_7 : decode cX10_farthest 7 = .ok (.aload_n 0, 1) := by decide +kernel
theorem dX10_farthest_8 : decode cX10_farthest 8 = .ok (.iconst 1, 1) := by decide +kernel
theorem dX10_farthest_9 : decode cX10_farthest 9 = .ok (.invokevirtual 125, 3) := by decide +kernel
theorem dX10_farthest_12 : decode cX10_farthest 12 = .ok (.ireturn, 1) := by decide +kernel
theorem dX10_farthest_13 : decode cX10_farthest 13 = .ok (.aload_n 0, 1) := by decide +kernel
theorem dX10_farthest_14 : decode cX10_farthest 14 = .ok (.getfield 64, 3) := by decide +kernel
theorem dX10_farthest_17 : decode cX10_farthest 17 = .ok (.aload_n 0, 1) := by decide +kernel
theorem dX10_farthest_18 : decode cX10_farthest 18 = .ok (.getfield 90, 3) := by decide +kernel
theorem dX10_farthest_21 : decode cX10_farthest 21 = .ok (.aload_n 0, 1) := by decide +kernel
theorem dX10_farthest_22 : decode cX10_farthest 22 = .ok (.getfield 25, 3) := by decide +kernel
theorem dX10_farthest_25 : decode cX10_farthest 25 = .ok (.aload_n 0, 1) := by decide +kernel
theorem dX10_farthest_26 : decode cX10_farthest 26 = .ok (.getfield 35, 3) := by decide +kernel
theorem dX10_farthest_29 : decode cX10_farthest 29 = .ok (.invokevirtual 232, 3) := by decide +kernel
theorem dX10_farthest_32 : decode cX10_farthest 32 = .ok (.aload_n 0, 1) := by decide +kernel
theorem dX10_farthest_33 : decode cX10_farthest 33 = .ok (.aload_n 0, 1) := by decide +kernel
theorem dX10_farthest_34 : decode cX10_farthest 34 = .ok (.getfield 64, 3) := by decide +kernel
theorem dX10_farthest_37 : decode cX10_farthest 37 = .ok (.invokevirtual 245, 3) := by decide +kernel
theorem dX10_farthest_40 : decode cX10_farthest 40 = .ok (.invokevirtual 148, 3) := by decide +kernel
theorem dX10_farthest_43 : decode cX10_farthest 43 = .ok (.ireturn, 1) := by decide +kernel
theorem dX10_lifts_0 : decode cX10_lifts 0 = .ok (.aload_n 0, 1) := by decide +kernel
theorem dX10_lifts_1 : decode cX10_lifts 1 = .ok (.getfield 97, 3) := by decide +kernel
theorem dX10_lifts_4 : decode cX10_lifts 4 = .ok (.ifCond .ne 9, 3) := by decide +kernel
theorem dX10_lifts_7 : decode cX10_lifts 7 = .ok (.aload_n 0, 1) := by decide +kernel
theorem dX10_lifts_8 : decode cX10_lifts 8 = .ok (.iconst 1, 1) := by decide +kernel
theorem dX10_lifts_9 : decode cX10_lifts 9 = .ok (.invokevirtual 125, 3) := by decide +kernel
theorem dX10_lifts_12 : decode cX10_lifts 12 = .ok (.ireturn, 1) := by decide +kernel
theorem dX10_lifts_13 : decode cX10_lifts 13 = .ok (.aload_n 0, 1) := by decide +kernel
theorem dX10_lifts_14 : decode cX10_lifts 14 = .ok (.getfield 64, 3) := by decide +kernel
theorem dX10_lifts_17 : decode cX10_lifts 17 = .ok (.aload_n 0, 1) := by decide +kernel
theorem dX10_lifts_18 : decode cX10_lifts 18 = .ok (.getfield 90, 3) := by decide +kernel
theorem dX10_lifts_21 : decode cX10_lifts 21 = .ok (.aload_n 0, 1) := by decide +kernel
theorem dX10_lifts_22 : decode cX10_lifts 22 = .ok (.getfield 25, 3) := by decide +kernel
theorem dX10_lifts_25 : decode cX10_lifts 25 = .ok (.aload_n 0, 1) := by decide +kernel
theorem dX10_lifts_26 : decode cX10_lifts 26 = .ok (.getfield 35, 3) := by decide +kernel
theorem dX10_lifts_29 : decode cX10_lifts 29 = .ok (.invokevirtual 232, 3) := by decide +kernel
theorem dX10_lifts_32 : decode cX10_lifts 32 = .ok (.aload_n 0, 1) := by decide +kernel
theorem dX10_lifts_33 : decode cX10_lifts 33 = .ok (.aload_n 0, 1) := by decide +kernel
theorem dX10_lifts_34 : decode cX10_lifts 34 = .ok (.getfield 64, 3) := by decide +kernel
theorem dX10_lifts_37 : decode cX10_lifts 37 = .ok (.aload_n 0, 1) := by decide +kernel
theorem dX10_lifts_38 : decode cX10_lifts 38 = .ok (.getfield 90, 3) := by decide +kernel
theorem dX10_lifts_41 : decode cX10_lifts 41 = .ok (.aload_n 0, 1) := by decide +kernel
theorem dX10_lifts_42 : decode cX10_lifts 42 = .ok (.getfield 25, 3) := by decide +kernel
theorem dX10_lifts_45 : decode cX10_lifts 45 = .ok (.iconst 1, 1) := by decide +kernel
theorem dX10_lifts_46 : decode cX10_lifts 46 = .ok (.invokestatic 154, 3) := by decide +kernel
theorem dX10_lifts_49 : decode cX10_lifts 49 = .ok (.aload_n 0, 1) := by decide +kernel
theorem dX10_lifts_50 : decode cX10_lifts 50 = .ok (.getfield 35, 3) := by decide +kernel
theorem dX10_lifts_53 : decode cX10_lifts 53 = .ok (.invokevirtual 248, 3) := by decide +kernel
theorem dX10_lifts_56 : decode cX10_lifts 56 = .ok (.invokevirtual 148, 3) := by decide +kernel
theorem dX10_lifts_59 : decode cX10_lifts 59 = .ok (.ireturn, 1) := by decide +kernel
theorem dX10_needs_0 : decode cX10_needs 0 = .ok (.aload_n 0, 1) := by decide +kernel
theorem dX10_needs_1 : decode cX10_needs 1 = .ok (.iload_n 1, 1) := by decide +kernel
theorem dX10_needs_2 : decode cX10_needs 2 = .ok (.invokevirtual 170, 3) := by decide +kernel
theorem dX10_needs_5 : decode cX10_needs 5 = .ok (.ifCond .ne 9, 3) := by decide +kernel
theorem dX10_needs_8 : decode cX10_needs 8 = .ok (.aload_n 0, 1) := by decide +kernel
theorem dX10_needs_9 : decode cX10_needs 9 = .ok (.iconst 1, 1) := by decide +kernel
theorem dX10_needs_10 : decode cX10_needs 10 = .ok (.invokevirtual 125, 3) := by decide +kernel
theorem dX10_needs_13 : decode cX10_needs 13 = .ok (.ireturn, 1) := by decide +kernel
theorem dX10_needs_14 : decode cX10_needs 14 = .ok (.aload_n 0, 1) := by decide +kernel
theorem dX10_needs_15 : decode cX10_needs 15 = .ok (.getfield 64, 3) := by decide +kernel
theorem dX10_needs_18 : decode cX10_needs 18 = .ok (.aload_n 0, 1) := by decide +kernel
theorem dX10_needs_19 : decode cX10_needs 19 = .ok (.getfield 90, 3) := by decide +kernel
theorem dX10_needs_22 : decode cX10_needs 22 = .ok (.aload_n 0, 1) := by decide +kernel
theorem dX10_needs_23 : decode cX10_needs 23 = .ok (.getfield 25, 3) := by decide +kernel
theorem dX10_needs_26 : decode cX10_needs 26 = .ok (.aload_n 0, 1) := by decide +kernel
theorem dX10_needs_27 : decode cX10_needs 27 = .ok (.getfield 35, 3) := by decide +kernel
theorem dX10_needs_30 : decode cX10_needs 30 = .ok (.invokevirtual 232, 3) := by decide +kernel
theorem dX10_needs_33 : decode cX10_needs 33 = .ok (.aload_n 0, 1) := by decide +kernel
theorem dX10_needs_34 : decode cX10_needs 34 = .ok (.getfield 64, 3) := by decide +kernel
theorem dX10_needs_37 : decode cX10_needs 37 = .ok (.aload_n 0, 1) := by decide +kernel
theorem dX10_needs_38 : decode cX10_needs 38 = .ok (.getfield 25, 3) := by decide +kernel
theorem dX10_needs_41 : decode cX10_needs 41 = .ok (.iconst 1, 1) := by decide +kernel
theorem dX10_needs_42 : decode cX10_needs 42 = .ok (.invokestatic 154, 3) := by decide +kernel
theorem dX10_needs_45 : decode cX10_needs 45 = .ok (.invokevirtual 236, 3) := by decide +kernel
theorem dX10_needs_48 : decode cX10_needs 48 = .ok (.istore_n 2, 1) := by decide +kernel
theorem dX10_needs_49 : decode cX10_needs 49 = .ok (.aload_n 0, 1) := by decide +kernel
theorem dX10_needs_50 : decode cX10_needs 50 = .ok (.getfield 64, 3) := by decide +kernel
theorem dX10_needs_53 : decode cX10_needs 53 = .ok (.iload_n 1, 1) := by decide +kernel
theorem dX10_needs_54 : decode cX10_needs 54 = .ok (.iconst 0, 1) := by decide +kernel
theorem dX10_needs_55 : decode cX10_needs 55 = .ok (.iconst 0, 1) := by decide +kernel
theorem dX10_needs_56 : decode cX10_needs 56 = .ok (.invokevirtual 252, 3) := by decide +kernel
theorem dX10_needs_59 : decode cX10_needs 59 = .ok (.aload_n 0, 1) := by decide +kernel
theorem dX10_needs_60 : decode cX10_needs 60 = .ok (.getfield 64, 3) := by decide +kernel
theorem dX10_needs_63 : decode cX10_needs 63 = .ok (.aload_n 0, 1) := by decide +kernel
theorem dX10_needs_64 : decode cX10_needs 64 = .ok (.getfield 25, 3) := by decide +kernel
theorem dX10_needs_67 : decode cX10_needs 67 = .ok (.iconst 1, 1) := by decide +kernel
theorem dX10_needs_68 : decode cX10_needs 68 = .ok (.invokestatic 154, 3) := by decide +kernel
theorem dX10_needs_71 : decode cX10_needs 71 = .ok (.invokevirtual 236, 3) := by decide +kernel
theorem dX10_needs_74 : decode cX10_needs 74 = .ok (.istore_n 3, 1) := by decide +kernel
theorem dX10_needs_75 : decode cX10_needs 75 = .ok (.iload_n 2, 1) := by decide +kernel
theorem dX10_needs_76 : decode cX10_needs 76 = .ok (.ifCond .lt 7, 3) := by decide +kernel
theorem dX10_needs_79 : decode cX10_needs 79 = .ok (.iload_n 3, 1) := by decide +kernel
theorem dX10_needs_80 : decode cX10_needs 80 = .ok (.ifCond .ge 10, 3) := by decide +kernel
theorem dX10_needs_83 : decode cX10_needs 83 = .ok (.aload_n 0, 1) := by decide +kernel
theorem dX10_needs_84 : decode cX10_needs 84 = .ok (.bipush (-2), 2) := by decide +kernel
theorem dX10_needs_86 : decode cX10_needs 86 = .ok (.invokevirtual 148, 3) := by decide +kernel
theorem dX10_needs_89 : decode cX10_needs 89 = .ok (.ireturn, 1) := by decide +kernel
theorem dX10_needs_90 : decode cX10_needs 90 = .ok (.aload_n 0, 1) := by decide +kernel
theorem dX10_needs_91 : decode cX10_needs 91 = .ok (.aload_n 0, 1) := by decide +kernel
theorem dX10_needs_92 : decode cX10_needs 92 = .ok (.getfield 64, 3) := by decide +kernel
theorem dX10_needs_95 : decode cX10_needs 95 = .ok (.iload_n 3, 1) := by decide +kernel
theorem dX10_needs_96 : decode cX10_needs 96 = .ok (.invokevirtual 239, 3) := by decide +kernel
theorem dX10_needs_99 : decode cX10_needs 99 = .ok (.aload_n 0, 1) := by decide +kernel
theorem dX10_needs_100 : decode cX10_needs 100 = .ok (.getfield 64, 3) := by decide +kernel
theorem dX10_needs_103 : decode cX10_needs 103 = .ok (.iload_n 2, 1) := by decide +kernel
theorem dX10_needs_104 : decode cX10_needs 104 = .ok (.invokevirtual 239, 3) := by decide +kernel
theorem dX10_needs_107 : decode cX10_needs 107 = .ok (.isub, 1) := by decide +kernel
theorem dX10_needs_108 : decode cX10_needs 108 = .ok (.invokevirtual 148, 3) := by decide +kernel
theorem dX10_needs_111 : decode cX10_needs 111 = .ok (.ireturn, 1) := by decide +kernel
theorem dX10_fronts_0 : decode cX10_fronts 0 = .ok (.aload_n 0, 1) := by decide +kernel
theorem dX10_fronts_1 : decode cX10_fronts 1 = .ok (.getfield 97, 3) := by decide +kernel
theorem dX10_fronts_4 : decode cX10_fronts 4 = .ok (.ifCond .ne 9, 3) := by decide +kernel
theorem dX10_fronts_7 : decode cX10_fronts 7 = .ok (.aload_n 0, 1) := by decide +kernel
theorem dX10_fronts_8 : decode cX10_fronts 8 = .ok (.iconst 1, 1) := by decide +kernel
theorem dX10_fronts_9 : decode cX10_fronts 9 = .ok (.invokevirtual 125, 3) := by decide +kernel
theorem dX10_fronts_12 : decode cX10_fronts 12 = .ok (.ireturn, 1) := by decide +kernel
theorem dX10_fronts_13 : decode cX10_fronts 13 = .ok (.aload_n 0, 1) := by decide +kernel
theorem dX10_fronts_14 : decode cX10_fronts 14 = .ok (.getfield 64, 3) := by decide +kernel
theorem dX10_fronts_17 : decode cX10_fronts 17 = .ok (.aload_n 0, 1) := by decide +kernel
theorem dX10_fronts_18 : decode cX10_fronts 18 = .ok (.getfield 90, 3) := by decide +kernel
theorem dX10_fronts_21 : decode cX10_fronts 21 = .ok (.aload_n 0, 1) := by decide +kernel
theorem dX10_fronts_22 : decode cX10_fronts 22 = .ok (.getfield 25, 3) := by decide +kernel
theorem dX10_fronts_25 : decode cX10_fronts 25 = .ok (.aload_n 0, 1) := by decide +kernel
theorem dX10_fronts_26 : decode cX10_fronts 26 = .ok (.getfield 35, 3) := by decide +kernel
theorem dX10_fronts_29 : decode cX10_fronts 29 = .ok (.invokevirtual 232, 3) := by decide +kernel
theorem dX10_fronts_32 : decode cX10_fronts 32 = .ok (.aload_n 0, 1) := by decide +kernel
theorem dX10_fronts_33 : decode cX10_fronts 33 = .ok (.getfield 73, 3) := by decide +kernel
theorem dX10_fronts_36 : decode cX10_fronts 36 = .ok (.aload_n 0, 1) := by decide +kernel
theorem dX10_fronts_37 : decode cX10_fronts 37 = .ok (.getfield 90, 3) := by decide +kernel
theorem dX10_fronts_40 : decode cX10_fronts 40 = .ok (.aload_n 0, 1) := by decide +kernel
theorem dX10_fronts_41 : decode cX10_fronts 41 = .ok (.getfield 25, 3) := by decide +kernel
theorem dX10_fronts_44 : decode cX10_fronts 44 = .ok (.iconst 0, 1) := by decide +kernel
theorem dX10_fronts_45 : decode cX10_fronts 45 = .ok (.invokestatic 154, 3) := by decide +kernel
theorem dX10_fronts_48 : decode cX10_fronts 48 = .ok (.aload_n 0, 1) := by decide +kernel
theorem dX10_fronts_49 : decode cX10_fronts 49 = .ok (.getfield 105, 3) := by decide +kernel
theorem dX10_fronts_52 : decode cX10_fronts 52 = .ok (.invokevirtual 256, 3) := by decide +kernel
theorem dX10_fronts_55 : decode cX10_fronts 55 = .ok (.aload_n 0, 1) := by decide +kernel
theorem dX10_fronts_56 : decode cX10_fronts 56 = .ok (.aload_n 0, 1) := by decide +kernel
theorem dX10_fronts_57 : decode cX10_fronts 57 = .ok (.getfield 73, 3) := by decide +kernel
theorem dX10_fronts_60 : decode cX10_fronts 60 = .ok (.getfield 260, 3) := by decide +kernel
theorem dX10_fronts_63 : decode cX10_fronts 63 = .ok (.invokevirtual 148, 3) := by decide +kernel
theorem dX10_fronts_66 : decode cX10_fronts 66 = .ok (.ireturn, 1) := by decide +kernel
theorem dX10_front_0 : decode cX10_front 0 = .ok (.aload_n 0, 1) := by decide +kernel
theorem dX10_front_1 : decode cX10_front 1 = .ok (.getfield 97, 3) := by decide +kernel
theorem dX10_front_4 : decode cX10_front 4 = .ok (.ifCond .eq 16, 3) := by decide +kernel
theorem dX10_front_7 : decode cX10_front 7 = .ok (.iload_n 1, 1) := by decide +kernel
theorem dX10_front_8 : decode cX10_front 8 = .ok (.ifCond .lt 12, 3) := by decide +kernel
theorem dX10_front_11 : decode cX10_front 11 = .ok (.iload_n 2, 1) := by decide +kernel
theorem dX10_front_12 : decode cX10_front 12 = .ok (.ifCond .lt 8, 3) := by decide +kernel
theorem dX10_front_15 : decode cX10_front 15 = .ok (.iload_n 2, 1) := by decide +kernel
theorem dX10_front_16 : decode cX10_front 16 = .ok (.iconst 4, 1) := by decide +kernel
theorem dX10_front_17 : decode cX10_front 17 = .ok (.if_icmp .le 9, 3) := by decide +kernel
theorem dX10_front_20 : decode cX10_front 20 = .ok (.aload_n 0, 1) := by decide +kernel
theorem dX10_front_21 : decode cX10_front 21 = .ok (.iconst 1, 1) := by decide +kernel
theorem dX10_front_22 : decode cX10_front 22 = .ok (.invokevirtual 125, 3) := by decide +kernel
theorem dX10_front_25 : decode cX10_front 25 = .ok (.ireturn, 1) := by decide +kernel
theorem dX10_front_26 : decode cX10_front 26 = .ok (.aload_n 0, 1) := by decide +kernel
theorem dX10_front_27 : decode cX10_front 27 = .ok (.getfield 64, 3) := by decide +kernel
theorem dX10_front_30 : decode cX10_front 30 = .ok (.aload_n 0, 1) := by decide +kernel
theorem dX10_front_31 : decode cX10_front 31 = .ok (.getfield 90, 3) := by decide +kernel
theorem dX10_front_34 : decode cX10_front 34 = .ok (.aload_n 0, 1) := by decide +kernel
theorem dX10_front_35 : decode cX10_front 35 = .ok (.getfield 25, 3) := by decide +kernel
theorem dX10_front_38 : decode cX10_front 38 = .ok (.aload_n 0, 1) := by decide +kernel
theorem dX10_front_39 : decode cX10_front 39 = .ok (.getfield 35, 3) := by decide +kernel
theorem dX10_front_42 : decode cX10_front 42 = .ok (.invokevirtual 232, 3) := by decide +kernel
theorem dX10_front_45 : decode cX10_front 45 = .ok (.aload_n 0, 1) := by decide +kernel
theorem dX10_front_46 : decode cX10_front 46 = .ok (.getfield 73, 3) := by decide +kernel
theorem dX10_front_49 : decode cX10_front 49 = .ok (.aload_n 0, 1) := by decide +kernel
theorem dX10_front_50 : decode cX10_front 50 = .ok (.getfield 90, 3) := by decide +kernel
theorem dX10_front_53 : decode cX10_front 53 = .ok (.aload_n 0, 1) := by decide +kernel
theorem dX10_front_54 : decode cX10_front 54 = .ok (.getfield 25, 3) := by decide +kernel
theorem dX10_front_57 : decode cX10_front 57 = .ok (.iconst 0, 1) := by decide +kernel
theorem dX10_front_58 : decode cX10_front 58 = .ok (.invokestatic 154, 3) := by decide +kernel
theorem dX10_front_61 : decode cX10_front 61 = .ok (.aload_n 0, 1) := by decide +kernel
theorem dX10_front_62 : decode cX10_front 62 = .ok (.getfield 105, 3) := by decide +kernel
theorem dX10_front_65 : decode cX10_front 65 = .ok (.invokevirtual 256, 3) := by decide +kernel
theorem dX10_front_68 : decode cX10_front 68 = .ok (.iload_n 1, 1) := by decide +kernel
theorem dX10_front_69 : decode cX10_front 69 = .ok (.aload_n 0, 1) := by decide +kernel
theorem dX10_front_70 : decode cX10_front 70 = .ok (.getfield 73, 3) := by decide +kernel
theorem dX10_front_73 : decode cX10_front 73 = .ok (.getfield 260, 3) := by decide +kernel
theorem dX10_front_76 : decode cX10_front 76 = .ok (.if_icmp .lt 9, 3) := by decide +kernel
theorem dX10_front_79 : decode cX10_front 79 = .ok (.aload_n 0, 1) := by decide +kernel
theorem dX10_front_80 : decode cX10_front 80 = .ok (.iconst 1, 1) := by decide +kernel
theorem dX10_front_81 : decode cX10_front 81 = .ok (.invokevirtual 125, 3) := by decide +kernel
theorem dX10_front_84 : decode cX10_front 84 = .ok (.ireturn, 1) := by decide +kernel
theorem dX10_front_85 : decode cX10_front 85 = .ok (.aload_n 0, 1) := by decide +kernel
theorem dX10_front_86 : decode cX10_front 86 = .ok (.getfield 73, 3) := by decide +kernel
theorem dX10_front_89 : decode cX10_front 89 = .ok (.getfield 263, 3) := by decide +kernel
theorem dX10_front_92 : decode cX10_front 92 = .ok (.iload_n 1, 1) := by decide +kernel
theorem dX10_front_93 : decode cX10_front 93 = .ok (.invokestatic 154, 3) := by decide +kernel
theorem dX10_front_96 : decode cX10_front 96 = .ok (.istore_n 3, 1) := by decide +kernel
theorem dX10_front_97 : decode cX10_front 97 = .ok (.iload_n 2, 1) := by decide +kernel
theorem dX10_front_98 : decode cX10_front 98 = .ok (.ifCond .ne 16, 3) := by decide +kernel
theorem dX10_front_101 : decode cX10_front 101 = .ok (.aload_n 0, 1) := by decide +kernel
theorem dX10_front_102 : decode cX10_front 102 = .ok (.aload_n 0, 1) := by decide +kernel
theorem dX10_front_103 : decode cX10_front 103 = .ok (.getfield 64, 3) := by decide +kernel
theorem dX10_front_106 : decode cX10_front 106 = .ok (.iload_n 3, 1) := by decide +kernel
theorem dX10_front_107 : decode cX10_front 107 = .ok (.invokevirtual 239, 3) := by decide +kernel
theorem dX10_front_110 : decode cX10_front 110 = .ok (.invokevirtual 148, 3) := by decide +kernel
theorem dX10_front_113 : decode cX10_front 113 = .ok (.ireturn, 1) := by decide +kernel
theorem dX10_front_114 : decode cX10_front 114 = .ok (.iload_n 2, 1) := by decide +kernel
theorem dX10_front_115 : decode cX10_front 115 = .ok (.iconst 1, 1) := by decide +kernel
theorem dX10_front_116 : decode cX10_front 116 = .ok (.if_icmp .ne 16, 3) := by decide +kernel
theorem dX10_front_119 : decode cX10_front 119 = .ok (.aload_n 0, 1) := by decide +kernel
theorem dX10_front_120 : decode cX10_front 120 = .ok (.aload_n 0, 1) := by decide +kernel
theorem dX10_front_121 : decode cX10_front 121 = .ok (.getfield 64, 3) := by decide +kernel
theorem dX10_front_124 : decode cX10_front 124 = .ok (.iload_n 3, 1) := by decide +kernel
theorem dX10_front_125 : decode cX10_front 125 = .ok (.invokevirtual 266, 3) := by decide +kernel
theorem dX10_front_128 : decode cX10_front 128 = .ok (.invokevirtual 148, 3) := by decide +kernel
theorem dX10_front_131 : decode cX10_front 131 = .ok (.ireturn, 1) := by decide +kernel
theorem dX10_front_132 : decode cX10_front 132 = .ok (.aload_n 0, 1) := by decide +kernel
theorem dX10_front_133 : decode cX10_front 133 = .ok (.iload_n 2, 1) := by decide +kernel
theorem dX10_front_134 : decode cX10_front 134 = .ok (.iconst 2, 1) := by decide +kernel
theorem dX10_front_135 : decode cX10_front 135 = .ok (.isub, 1) := by decide +kernel
theorem dX10_front_136 : decode cX10_front 136 = .ok (.aload_n 0, 1) := by decide +kernel
theorem dX10_front_137 : decode cX10_front 137 = .ok (.getfield 90, 3) := by decide +kernel
theorem dX10_front_140 : decode cX10_front 140 = .ok (.getfield 145, 3) := by decide +kernel
theorem dX10_front_143 : decode cX10_front 143 = .ok (.if_icmp .ge 13, 3) := by decide +kernel
theorem dX10_front_146 : decode cX10_front 146 = .ok (.iload_n 3, 1) := by decide +kernel
theorem dX10_front_147 : decode cX10_front 147 = .ok (.iload_n 2, 1) := by decide +kernel
theorem dX10_front_148 : decode cX10_front 148 = .ok (.iconst 2, 1) := by decide +kernel
theorem dX10_front_149 : decode cX10_front 149 = .ok (.isub, 1) := by decide +kernel
theorem dX10_front_150 : decode cX10_front 150 = .ok (.invokestatic 242, 3) := by decide +kernel
theorem dX10_front_153 : decode cX10_front 153 = .ok (.goto 5, 3) := by decide +kernel
theorem dX10_front_156 : decode cX10_front 156 = .ok (.bipush (-2), 2) := by decide +kernel
theorem dX10_front_158 : decode cX10_front 158 = .ok (.invokevirtual 148, 3) := by decide +kernel
theorem dX10_front_161 : decode cX10_front 161 = .ok (.ireturn, 1) := by decide +kernel
theorem dX10_beaten_0 : decode cX10_beaten 0 = .ok (.aload_n 0, 1) := by decide +kernel
theorem dX10_beaten_1 : decode cX10_beaten 1 = .ok (.getfield 97, 3) := by decide +kernel
theorem dX10_beaten_4 : decode cX10_beaten 4 = .ok (.ifCond .ne 9, 3) := by decide +kernel
theorem dX10_beaten_7 : decode cX10_beaten 7 = .ok (.aload_n 0, 1) := by decide +kernel
theorem dX10_beaten_8 : decode cX10_beaten 8 = .ok (.iconst 1, 1) := by decide +kernel
theorem dX10_beaten_9 : decode cX10_beaten 9 = .ok (.invokevirtual 125, 3) := by decide +kernel
theorem dX10_beaten_12 : decode cX10_beaten 12 = .ok (.ireturn, 1) := by decide +kernel
theorem dX10_beaten_13 : decode cX10_beaten 13 = .ok (.aload_n 0, 1) := by decide +kernel
theorem dX10_beaten_14 : decode cX10_beaten 14 = .ok (.getfield 64, 3) := by decide +kernel
theorem dX10_beaten_17 : decode cX10_beaten 17 = .ok (.aload_n 0, 1) := by decide +kernel
theorem dX10_beaten_18 : decode cX10_beaten 18 = .ok (.getfield 90, 3) := by decide +kernel
theorem dX10_beaten_21 : decode cX10_beaten 21 = .ok (.aload_n 0, 1) := by decide +kernel
theorem dX10_beaten_22 : decode cX10_beaten 22 = .ok (.getfield 25, 3) := by decide +kernel
theorem dX10_beaten_25 : decode cX10_beaten 25 = .ok (.aload_n 0, 1) := by decide +kernel
theorem dX10_beaten_26 : decode cX10_beaten 26 = .ok (.getfield 35, 3) := by decide +kernel
theorem dX10_beaten_29 : decode cX10_beaten 29 = .ok (.invokevirtual 232, 3) := by decide +kernel
theorem dX10_beaten_32 : decode cX10_beaten 32 = .ok (.aload_n 0, 1) := by decide +kernel
theorem dX10_beaten_33 : decode cX10_beaten 33 = .ok (.getfield 73, 3) := by decide +kernel
theorem dX10_beaten_36 : decode cX10_beaten 36 = .ok (.aload_n 0, 1) := by decide +kernel
theorem dX10_beaten_37 : decode cX10_beaten 37 = .ok (.getfield 90, 3) := by decide +kernel
theorem dX10_beaten_40 : decode cX10_beaten 40 = .ok (.aload_n 0, 1) := by decide +kernel
theorem dX10_beaten_41 : decode cX10_beaten 41 = .ok (.getfield 25, 3) := by decide +kernel
theorem dX10_beaten_44 : decode cX10_beaten 44 = .ok (.iconst 0, 1) := by decide +kernel
theorem dX10_beaten_45 : decode cX10_beaten 45 = .ok (.invokestatic 154, 3) := by decide +kernel
theorem dX10_beaten_48 : decode cX10_beaten 48 = .ok (.aload_n 0, 1) := by decide +kernel
theorem dX10_beaten_49 : decode cX10_beaten 49 = .ok (.getfield 105, 3) := by decide +kernel
theorem dX10_beaten_52 : decode cX10_beaten 52 = .ok (.invokevirtual 256, 3) := by decide +kernel
theorem dX10_beaten_55 : decode cX10_beaten 55 = .ok (.aload_n 0, 1) := by decide +kernel
theorem dX10_beaten_56 : decode cX10_beaten 56 = .ok (.invokevirtual 180, 3) := by decide +kernel
theorem dX10_beaten_59 : decode cX10_beaten 59 = .ok (.aload_n 0, 1) := by decide +kernel
theorem dX10_beaten_60 : decode cX10_beaten 60 = .ok (.getfield 35, 3) := by decide +kernel
theorem dX10_beaten_63 : decode cX10_beaten 63 = .ok (.aload_n 0, 1) := by decide +kernel
theorem dX10_beaten_64 : decode cX10_beaten 64 = .ok (.getfield 90, 3) := by decide +kernel
theorem dX10_beaten_67 : decode cX10_beaten 67 = .ok (.aload_n 0, 1) := by decide +kernel
theorem dX10_beaten_68 : decode cX10_beaten 68 = .ok (.getfield 45, 3) := by decide +kernel
theorem dX10_beaten_71 : decode cX10_beaten 71 = .ok (.invokevirtual 210, 3) := by decide +kernel
theorem dX10_beaten_74 : decode cX10_beaten 74 = .ok (.iconst 0, 1) := by decide +kernel
theorem dX10_beaten_75 : decode cX10_beaten 75 = .ok (.istore_n 1, 1) := by decide +kernel
theorem dX10_beaten_76 : decode cX10_beaten 76 = .ok (.iload_n 1, 1) := by decide +kernel
theorem dX10_beaten_77 : decode cX10_beaten 77 = .ok (.aload_n 0, 1) := by decide +kernel
theorem dX10_beaten_78 : decode cX10_beaten 78 = .ok (.getfield 73, 3) := by decide +kernel
theorem dX10_beaten_81 : decode cX10_beaten 81 = .ok (.getfield 260, 3) := by decide +kernel
theorem dX10_beaten_84 : decode cX10_beaten 84 = .ok (.if_icmp .ge 114, 3) := by decide +kernel
theorem dX10_beaten_87 : decode cX10_beaten 87 = .ok (.aload_n 0, 1) := by decide +kernel
theorem dX10_beaten_88 : decode cX10_beaten 88 = .ok (.getfield 73, 3) := by decide +kernel
theorem dX10_beaten_91 : decode cX10_beaten 91 = .ok (.getfield 263, 3) := by decide +kernel
theorem dX10_beaten_94 : decode cX10_beaten 94 = .ok (.iload_n 1, 1) := by decide +kernel
theorem dX10_beaten_95 : decode cX10_beaten 95 = .ok (.invokestatic 154, 3) := by decide +kernel
theorem dX10_beaten_98 : decode cX10_beaten 98 = .ok (.istore_n 2, 1) := by decide +kernel
theorem dX10_beaten_99 : decode cX10_beaten 99 = .ok (.aload_n 0, 1) := by decide +kernel
theorem dX10_beaten_100 : decode cX10_beaten 100 = .ok (.getfield 35, 3) := by decide +kernel
theorem dX10_beaten_103 : decode cX10_beaten 103 = .ok (.getfield 200, 3) := by decide +kernel
theorem dX10_beaten_106 : decode cX10_beaten 106 = .ok (.aload_n 0, 1) := by decide +kernel
theorem dX10_beaten_107 : decode cX10_beaten 107 = .ok (.getfield 64, 3) := by decide +kernel
theorem dX10_beaten_110 : decode cX10_beaten 110 = .ok (.iload_n 2, 1) := by decide +kernel
theorem dX10_beaten_111 : decode cX10_beaten 111 = .ok (.invokevirtual 239, 3) := by decide +kernel
theorem dX10_beaten_114 : decode cX10_beaten 114 = .ok (.isub, 1) := by decide +kernel
theorem dX10_beaten_115 : decode cX10_beaten 115 = .ok (.istore_n 3, 1) := by decide +kernel
theorem dX10_beaten_116 : decode cX10_beaten 116 = .ok (.aload_n 0, 1) := by decide +kernel
theorem dX10_beaten_117 : decode cX10_beaten 117 = .ok (.getfield 39, 3) := by decide +kernel
theorem dX10_beaten_120 : decode cX10_beaten 120 = .ok (.aload_n 0, 1) := by decide +kernel
theorem dX10_beaten_121 : decode cX10_beaten 121 = .ok (.getfield 90, 3) := by decide +kernel
theorem dX10_beaten_124 : decode cX10_beaten 124 = .ok (.aload_n 0, 1) := by decide +kernel
theorem dX10_beaten_125 : decode cX10_beaten 125 = .ok (.getfield 25, 3) := by decide +kernel
theorem dX10_beaten_128 : decode cX10_beaten 128 = .ok (.iconst 0, 1) := by decide +kernel
theorem dX10_beaten_129 : decode cX10_beaten 129 = .ok (.invokestatic 154, 3) := by decide +kernel
theorem dX10_beaten_132 : decode cX10_beaten 132 = .ok (.iload_n 2, 1) := by decide +kernel
theorem dX10_beaten_133 : decode cX10_beaten 133 = .ok (.invokevirtual 269, 3) := by decide +kernel
theorem dX10_beaten_136 : decode cX10_beaten 136 = .ok (.aload_n 0, 1) := by decide +kernel
theorem dX10_beaten_137 : decode cX10_beaten 137 = .ok (.getfield 39, 3) := by decide +kernel
theorem dX10_beaten_140 : decode cX10_beaten 140 = .ok (.aload_n 0, 1) := by decide +kernel
theorem dX10_beaten_141 : decode cX10_beaten 141 = .ok (.getfield 90, 3) := by decide +kernel
theorem dX10_beaten_144 : decode cX10_beaten 144 = .ok (.aload_n 0, 1) := by decide +kernel
theorem dX10_beaten_145 : decode cX10_beaten 145 = .ok (.getfield 49, 3) := by decide +kernel
theorem dX10_beaten_148 : decode cX10_beaten 148 = .ok (.invokevirtual 210, 3) := by decide +kernel
theorem dX10_beaten_151 : decode cX10_beaten 151 = .ok (.aload_n 0, 1) := by decide +kernel
theorem dX10_beaten_152 : decode cX10_beaten 152 = .ok (.getfield 55, 3) := by decide +kernel
theorem dX10_beaten_155 : decode cX10_beaten 155 = .ok (.aload_n 0, 1) := by decide +kernel
theorem dX10_beaten_156 : decode cX10_beaten 156 = .ok (.getfield 49, 3) := by decide +kernel
theorem dX10_beaten_159 : decode cX10_beaten 159 = .ok (.aload_n 0, 1) := by decide +kernel
theorem dX10_beaten_160 : decode cX10_beaten 160 = .ok (.getfield 45, 3) := by decide +kernel
theorem dX10_beaten_163 : decode cX10_beaten 163 = .ok (.invokevirtual 228, 3) := by decide +kernel
theorem dX10_beaten_166 : decode cX10_beaten 166 = .ok (.istore 4, 2) := by decide +kernel
theorem dX10_beaten_168 : decode cX10_beaten 168 = .ok (.iload_n 3, 1) := by decide +kernel
theorem dX10_beaten_169 : decode cX10_beaten 169 = .ok (.ifCond .lt 23, 3) := by decide +kernel
theorem dX10_beaten_172 : decode cX10_beaten 172 = .ok (.iload 4, 2) := by decide +kernel
theorem dX10_beaten_174 : decode cX10_beaten 174 = .ok (.ifCond .lt 18, 3) := by decide +kernel
theorem dX10_beaten_177 : decode cX10_beaten 177 = .ok (.iload_n 3, 1) := by decide +kernel
theorem dX10_beaten_178 : decode cX10_beaten 178 = .ok (.ifCond .gt 8, 3) := by decide +kernel
theorem dX10_beaten_181 : decode cX10_beaten 181 = .ok (.iload 4, 2) := by decide +kernel
theorem dX10_beaten_183 : decode cX10_beaten 183 = .ok (.ifCond .le 9, 3) := by decide +kernel
theorem dX10_beaten_186 : decode cX10_beaten 186 = .ok (.aload_n 0, 1) := by decide +kernel
theorem dX10_beaten_187 : decode cX10_beaten 187 = .ok (.iconst 1, 1) := by decide +kernel
theorem dX10_beaten_188 : decode cX10_beaten 188 = .ok (.invokevirtual 148, 3) := by decide +kernel
theorem dX10_beaten_191 : decode cX10_beaten 191 = .ok (.ireturn, 1) := by decide +kernel
theorem dX10_beaten_192 : decode cX10_beaten 192 = .ok (.iinc 1 1, 3) := by decide +kernel
theorem dX10_beaten_195 : decode cX10_beaten 195 = .ok (.goto (-119), 3) := by decide +kernel
theorem dX10_beaten_198 : decode cX10_beaten 198 = .ok (.aload_n 0, 1) := by decide +kernel
theorem dX10_beaten_199 : decode cX10_beaten 199 = .ok (.iconst 0, 1) := by decide +kernel
theorem dX10_beaten_200 : decode cX10_beaten 200 = .ok (.invokevirtual 148, 3) := by decide +kernel
theorem dX10_beaten_203 : decode cX10_beaten 203 = .ok (.ireturn, 1) := by decide +kernel
theorem dX10_box_0 : decode cX10_box 0 = .ok (.aload_n 0, 1) := by decide +kernel
theorem dX10_box_1 : decode cX10_box 1 = .ok (.iload_n 1, 1) := by decide +kernel
theorem dX10_box_2 : decode cX10_box 2 = .ok (.invokevirtual 170, 3) := by decide +kernel
theorem dX10_box_5 : decode cX10_box 5 = .ok (.ifCond .ne 9, 3) := by decide +kernel
theorem dX10_box_8 : decode cX10_box 8 = .ok (.aload_n 0, 1) := by decide +kernel
theorem dX10_box_9 : decode cX10_box 9 = .ok (.iconst 1, 1) := by decide +kernel
theorem dX10_box_10 : decode cX10_box 10 = .ok (.invokevirtual 125, 3) := by decide +kernel
theorem dX10_box_13 : decode cX10_box 13 = .ok (.ireturn, 1) := by decide +kernel
theorem dX10_box_14 : decode cX10_box 14 = .ok (.aload_n 0, 1) := by decide +kernel
theorem dX10_box_15 : decode cX10_box 15 = .ok (.aload_n 0, 1) := by decide +kernel
theorem dX10_box_16 : decode cX10_box 16 = .ok (.getfield 25, 3) := by decide +kernel
theorem dX10_box_19 : decode cX10_box 19 = .ok (.iload_n 2, 1) := by decide +kernel
theorem dX10_box_20 : decode cX10_box 20 = .ok (.ifCond .eq 8, 3) := by decide +kernel
theorem dX10_box_23 : decode cX10_box 23 = .ok (.bipush 8, 2) := by decide +kernel
theorem dX10_box_25 : decode cX10_box 25 = .ok (.goto 4, 3) := by decide +kernel
theorem dX10_box_28 : decode cX10_box 28 = .ok (.iconst 5, 1) := by decide +kernel
theorem dX10_box_29 : decode cX10_box 29 = .ok (.iload_n 1, 1) := by decide +kernel
theorem dX10_box_30 : decode cX10_box 30 = .ok (.iadd, 1) := by decide +kernel
theorem dX10_box_31 : decode cX10_box 31 = .ok (.invokestatic 154, 3) := by decide +kernel
theorem dX10_box_34 : decode cX10_box 34 = .ok (.invokevirtual 148, 3) := by decide +kernel
theorem dX10_box_37 : decode cX10_box 37 = .ok (.ireturn, 1) := by decide +kernel
theorem dX10_range_0 : decode cX10_range 0 = .ok (.aload_n 0, 1) := by decide +kernel
theorem dX10_range_1 : decode cX10_range 1 = .ok (.iload_n 2, 1) := by decide +kernel
theorem dX10_range_2 : decode cX10_range 2 = .ok (.invokevirtual 170, 3) := by decide +kernel
theorem dX10_range_5 : decode cX10_range 5 = .ok (.ifCond .ne 9, 3) := by decide +kernel
theorem dX10_range_8 : decode cX10_range 8 = .ok (.aload_n 0, 1) := by decide +kernel
theorem dX10_range_9 : decode cX10_range 9 = .ok (.iconst 1, 1) := by decide +kernel
theorem dX10_range_10 : decode cX10_range 10 = .ok (.invokevirtual 125, 3) := by decide +kernel
theorem dX10_range_13 : decode cX10_range 13 = .ok (.ireturn, 1) := by decide +kernel
theorem dX10_range_14 : decode cX10_range 14 = .ok (.iload_n 1, 1) := by decide +kernel
theorem dX10_range_15 : decode cX10_range 15 = .ok (.invokestatic 203, 3) := by decide +kernel
theorem dX10_range_18 : decode cX10_range 18 = .ok (.ifCond .ne 9, 3) := by decide +kernel
theorem dX10_range_21 : decode cX10_range 21 = .ok (.aload_n 0, 1) := by decide +kernel
theorem dX10_range_22 : decode cX10_range 22 = .ok (.iconst 2, 1) := by decide +kernel
theorem dX10_range_23 : decode cX10_range 23 = .ok (.invokevirtual 125, 3) := by decide +kernel
theorem dX10_range_26 : decode cX10_range 26 = .ok (.ireturn, 1) := by decide +kernel
theorem dX10_range_27 : decode cX10_range 27 = .ok (.aload_n 0, 1) := by decide +kernel
theorem dX10_range_28 : decode cX10_range 28 = .ok (.getfield 64, 3) := by decide +kernel
theorem dX10_range_31 : decode cX10_range 31 = .ok (.aload_n 0, 1) := by decide +kernel
theorem dX10_range_32 : decode cX10_range 32 = .ok (.getfield 90, 3) := by decide +kernel
theorem dX10_range_35 : decode cX10_range 35 = .ok (.aload_n 0, 1) := by decide +kernel
theorem dX10_range_36 : decode cX10_range 36 = .ok (.getfield 25, 3) := by decide +kernel
theorem dX10_range_39 : decode cX10_range 39 = .ok (.aload_n 0, 1) := by decide +kernel
theorem dX10_range_40 : decode cX10_range 40 = .ok (.getfield 35, 3) := by decide +kernel
theorem dX10_range_43 : decode cX10_range 43 = .ok (.invokevirtual 232, 3) := by decide +kernel
theorem dX10_range_46 : decode cX10_range 46 = .ok (.aload_n 0, 1) := by decide +kernel
theorem dX10_range_47 : decode cX10_range 47 = .ok (.aload_n 0, 1) := by decide +kernel
theorem dX10_range_48 : decode cX10_range 48 = .ok (.getfield 64, 3) := by decide +kernel
theorem dX10_range_51 : decode cX10_range 51 = .ok (.iload_n 1, 1) := by decide +kernel
theorem dX10_range_52 : decode cX10_range 52 = .ok (.iload_n 2, 1) := by decide +kernel
theorem dX10_range_53 : decode cX10_range 53 = .ok (.iload_n 3, 1) := by decide +kernel
theorem dX10_range_54 : decode cX10_range 54 = .ok (.invokevirtual 272, 3) := by decide +kernel
theorem dX10_range_57 : decode cX10_range 57 = .ok (.invokevirtual 148, 3) := by decide +kernel
theorem dX10_range_60 : decode cX10_range 60 = .ok (.ireturn, 1) := by decide +kernel
theorem dX10_ways_0 : decode cX10_ways 0 = .ok (.aload_n 0, 1) := by decide +kernel
theorem dX10_ways_1 : decode cX10_ways 1 = .ok (.getfield 97, 3) := by decide +kernel
theorem dX10_ways_4 : decode cX10_ways 4 = .ok (.ifCond .ne 9, 3) := by decide +kernel
theorem dX10_ways_7 : decode cX10_ways 7 = .ok (.aload_n 0, 1) := by decide +kernel
theorem dX10_ways_8 : decode cX10_ways 8 = .ok (.iconst 1, 1) := by decide +kernel
theorem dX10_ways_9 : decode cX10_ways 9 = .ok (.invokevirtual 125, 3) := by decide +kernel
theorem dX10_ways_12 : decode cX10_ways 12 = .ok (.ireturn, 1) := by decide +kernel
theorem dX10_ways_13 : decode cX10_ways 13 = .ok (.iload_n 1, 1) := by decide +kernel
theorem dX10_ways_14 : decode cX10_ways 14 = .ok (.invokestatic 203, 3) := by decide +kernel
theorem dX10_ways_17 : decode cX10_ways 17 = .ok (.ifCond .ne 9, 3) := by decide +kernel
theorem dX10_ways_20 : decode cX10_ways 20 = .ok (.aload_n 0, 1) := by decide +kernel
theorem dX10_ways_21 : decode cX10_ways 21 = .ok (.iconst 2, 1) := by decide +kernel
theorem dX10_ways_22 : decode cX10_ways 22 = .ok (.invokevirtual 125, 3) := by decide +kernel
theorem dX10_ways_25 : decode cX10_ways 25 = .ok (.ireturn, 1) := by decide +kernel
theorem dX10_ways_26 : decode cX10_ways 26 = .ok (.aload_n 0, 1) := by decide +kernel
theorem dX10_ways_27 : decode cX10_ways 27 = .ok (.getfield 64, 3) := by decide +kernel
theorem dX10_ways_30 : decode cX10_ways 30 = .ok (.aload_n 0, 1) := by decide +kernel
theorem dX10_ways_31 : decode cX10_ways 31 = .ok (.getfield 90, 3) := by decide +kernel
theorem dX10_ways_34 : decode cX10_ways 34 = .ok (.aload_n 0, 1) := by decide +kernel
theorem dX10_ways_35 : decode cX10_ways 35 = .ok (.getfield 25, 3) := by decide +kernel
theorem dX10_ways_38 : decode cX10_ways 38 = .ok (.aload_n 0, 1) := by decide +kernel
theorem dX10_ways_39 : decode cX10_ways 39 = .ok (.getfield 35, 3) := by decide +kernel
theorem dX10_ways_42 : decode cX10_ways 42 = .ok (.invokevirtual 232, 3) := by decide +kernel
theorem dX10_ways_45 : decode cX10_ways 45 = .ok (.aload_n 0, 1) := by decide +kernel
theorem dX10_ways_46 : decode cX10_ways 46 = .ok (.aload_n 0, 1) := by decide +kernel
theorem dX10_ways_47 : decode cX10_ways 47 = .ok (.getfield 64, 3) := by decide +kernel
theorem dX10_ways_50 : decode cX10_ways 50 = .ok (.iload_n 1, 1) := by decide +kernel
theorem dX10_ways_51 : decode cX10_ways 51 = .ok (.invokevirtual 276, 3) := by decide +kernel
theorem dX10_ways_54 : decode cX10_ways 54 = .ok (.invokevirtual 148, 3) := by decide +kernel
theorem dX10_ways_57 : decode cX10_ways 57 = .ok (.ireturn, 1) := by decide +kernel
theorem dX10_flight_0 : decode cX10_flight 0 = .ok (.aload_n 0, 1) := by decide +kernel
theorem dX10_flight_1 : decode cX10_flight 1 = .ok (.getfield 97, 3) := by decide +kernel
theorem dX10_flight_4 : decode cX10_flight 4 = .ok (.ifCond .eq 12, 3) := by decide +kernel
theorem dX10_flight_7 : decode cX10_flight 7 = .ok (.iload_n 1, 1) := by decide +kernel
theorem dX10_flight_8 : decode cX10_flight 8 = .ok (.ifCond .lt 8, 3) := by decide +kernel
theorem dX10_flight_11 : decode cX10_flight 11 = .ok (.iload_n 1, 1) := by decide +kernel
theorem dX10_flight_12 : decode cX10_flight 12 = .ok (.iconst 5, 1) := by decide +kernel
theorem dX10_flight_13 : decode cX10_flight 13 = .ok (.if_icmp .le 9, 3) := by decide +kernel
theorem dX10_flight_16 : decode cX10_flight 16 = .ok (.aload_n 0, 1) := by decide +kernel
theorem dX10_flight_17 : decode cX10_flight 17 = .ok (.iconst 1, 1) := by decide +kernel
theorem dX10_flight_18 : decode cX10_flight 18 = .ok (.invokevirtual 125, 3) := by decide +kernel
theorem dX10_flight_21 : decode cX10_flight 21 = .ok (.ireturn, 1) := by decide +kernel
theorem dX10_flight_22 : decode cX10_flight 22 = .ok (.aload_n 0, 1) := by decide +kernel
theorem dX10_flight_23 : decode cX10_flight 23 = .ok (.invokevirtual 278, 3) := by decide +kernel
theorem dX10_flight_26 : decode cX10_flight 26 = .ok (.iload_n 1, 1) := by decide +kernel
theorem dX10_flight_27 : decode cX10_flight 27 = .ok (.tableswitch 93 0 4 #[33, 45, 57, 69, 81], 33) := by decide +kernel
theorem dX10_flight_60 : decode cX10_flight 60 = .ok (.aload_n 0, 1) := by decide +kernel
theorem dX10_flight_61 : decode cX10_flight 61 = .ok (.aload_n 0, 1) := by decide +kernel
theorem dX10_flight_62 : decode cX10_flight 62 = .ok (.getfield 80, 3) := by decide +kernel
theorem dX10_flight_65 : decode cX10_flight 65 = .ok (.getfield 281, 3) := by decide +kernel
theorem dX10_flight_68 : decode cX10_flight 68 = .ok (.invokevirtual 148, 3) := by decide +kernel
theorem dX10_flight_71 : decode cX10_flight 71 = .ok (.ireturn, 1) := by decide +kernel
theorem dX10_flight_72 : decode cX10_flight 72 = .ok (.aload_n 0, 1) := by decide +kernel
theorem dX10_flight_73 : decode cX10_flight 73 = .ok (.aload_n 0, 1) := by decide +kernel
theorem dX10_flight_74 : decode cX10_flight 74 = .ok (.getfield 80, 3) := by decide +kernel
theorem dX10_flight_77 : decode cX10_flight 77 = .ok (.invokevirtual 284, 3) := by decide +kernel
theorem dX10_flight_80 : decode cX10_flight 80 = .ok (.invokevirtual 148, 3) := by decide +kernel
theorem dX10_flight_83 : decode cX10_flight 83 = .ok (.ireturn, 1) := by decide +kernel
theorem dX10_flight_84 : decode cX10_flight 84 = .ok (.aload_n 0, 1) := by decide +kernel
theorem dX10_flight_85 : decode cX10_flight 85 = .ok (.aload_n 0, 1) := by decide +kernel
theorem dX10_flight_86 : decode cX10_flight 86 = .ok (.getfield 80, 3) := by decide +kernel
theorem dX10_flight_89 : decode cX10_flight 89 = .ok (.invokevirtual 287, 3) := by decide +kernel
theorem dX10_flight_92 : decode cX10_flight 92 = .ok (.invokevirtual 148, 3) := by decide +kernel
theorem dX10_flight_95 : decode cX10_flight 95 = .ok (.ireturn, 1) := by decide +kernel
theorem dX10_flight_96 : decode cX10_flight 96 = .ok (.aload_n 0, 1) := by decide +kernel
theorem dX10_flight_97 : decode cX10_flight 97 = .ok (.aload_n 0, 1) := by decide +kernel
theorem dX10_flight_98 : decode cX10_flight 98 = .ok (.getfield 80, 3) := by decide +kernel
theorem dX10_flight_101 : decode cX10_flight 101 = .ok (.getfield 290, 3) := by decide +kernel
theorem dX10_flight_104 : decode cX10_flight 104 = .ok (.invokevirtual 148, 3) := by decide +kernel
theorem dX10_flight_107 : decode cX10_flight 107 = .ok (.ireturn, 1) := by decide +kernel
theorem dX10_flight_108 : decode cX10_flight 108 = .ok (.aload_n 0, 1) := by decide +kernel
theorem dX10_flight_109 : decode cX10_flight 109 = .ok (.aload_n 0, 1) := by decide +kernel
theorem dX10_flight_110 : decode cX10_flight 110 = .ok (.getfield 80, 3) := by decide +kernel
theorem dX10_flight_113 : decode cX10_flight 113 = .ok (.getfield 293, 3) := by decide +kernel
theorem dX10_flight_116 : decode cX10_flight 116 = .ok (.invokevirtual 148, 3) := by decide +kernel
theorem dX10_flight_119 : decode cX10_flight 119 = .ok (.ireturn, 1) := by decide +kernel
theorem dX10_flight_120 : decode cX10_flight 120 = .ok (.aload_n 0, 1) := by decide +kernel
theorem dX10_flight_121 : decode cX10_flight 121 = .ok (.aload_n 0, 1) := by decide +kernel
theorem dX10_flight_122 : decode cX10_flight 122 = .ok (.aload_n 0, 1) := by decide +kernel
theorem dX10_flight_123 : decode cX10_flight 123 = .ok (.getfield 80, 3) := by decide +kernel
theorem dX10_flight_126 : decode cX10_flight 126 = .ok (.invokevirtual 296, 3) := by decide +kernel
theorem dX10_flight_129 : decode cX10_flight 129 = .ok (.invokevirtual 148, 3) := by decide +kernel
theorem dX10_flight_132 : decode cX10_flight 132 = .ok (.ireturn, 1) := by decide +kernel
theorem dX10_tick_0 : decode cX10_tick 0 = .ok (.aload_n 0, 1) := by decide +kernel
theorem dX10_tick_1 : decode cX10_tick 1 = .ok (.getfield 97, 3) := by decide +kernel
theorem dX10_tick_4 : decode cX10_tick 4 = .ok (.ifCond .eq 17, 3) := by decide +kernel
theorem dX10_tick_7 : decode cX10_tick 7 = .ok (.iload_n 1, 1) := by decide +kernel
theorem dX10_tick_8 : decode cX10_tick 8 = .ok (.iconst 1, 1) := by decide +kernel
theorem dX10_tick_9 : decode cX10_tick 9 = .ok (.if_icmp .lt 12, 3) := by decide +kernel
theorem dX10_tick_12 : decode cX10_tick 12 = .ok (.iload_n 2, 1) := by decide +kernel
theorem dX10_tick_13 : decode cX10_tick 13 = .ok (.ifCond .lt 8, 3) := by decide +kernel
theorem dX10_tick_16 : decode cX10_tick 16 = .ok (.iload_n 2, 1) := by decide +kernel
theorem dX10_tick_17 : decode cX10_tick 17 = .ok (.iconst 4, 1) := by decide +kernel
theorem dX10_tick_18 : decode cX10_tick 18 = .ok (.if_icmp .le 9, 3) := by decide +kernel
theorem dX10_tick_21 : decode cX10_tick 21 = .ok (.aload_n 0, 1) := by decide +kernel
theorem dX10_tick_22 : decode cX10_tick 22 = .ok (.iconst 1, 1) := by decide +kernel
theorem dX10_tick_23 : decode cX10_tick 23 = .ok (.invokevirtual 125, 3) := by decide +kernel
theorem dX10_tick_26 : decode cX10_tick 26 = .ok (.ireturn, 1) := by decide +kernel
theorem dX10_tick_27 : decode cX10_tick 27 = .ok (.aload_n 0, 1) := by decide +kernel
theorem dX10_tick_28 : decode cX10_tick 28 = .ok (.invokevirtual 278, 3) := by decide +kernel
theorem dX10_tick_31 : decode cX10_tick 31 = .ok (.iload_n 1, 1) := by decide +kernel
theorem dX10_tick_32 : decode cX10_tick 32 = .ok (.aload_n 0, 1) := by decide +kernel
theorem dX10_tick_33 : decode cX10_tick 33 = .ok (.getfield 80, 3) := by decide +kernel
theorem dX10_tick_36 : decode cX10_tick 36 = .ok (.getfield 281, 3) := by decide +kernel
theorem dX10_tick_39 : decode cX10_tick 39 = .ok (.if_icmp .le 9, 3) := by decide +kernel
theorem dX10_tick_42 : decode cX10_tick 42 = .ok (.aload_n 0, 1) := by decide +kernel
theorem dX10_tick_43 : decode cX10_tick 43 = .ok (.iconst 1, 1) := by decide +kernel
theorem dX10_tick_44 : decode cX10_tick 44 = .ok (.invokevirtual 125, 3) := by decide +kernel
theorem dX10_tick_47 : decode cX10_tick 47 = .ok (.ireturn, 1) := by decide +kernel
theorem dX10_tick_48 : decode cX10_tick 48 = .ok (.iload_n 2, 1) := by decide +kernel
theorem dX10_tick_49 : decode cX10_tick 49 = .ok (.tableswitch 103 0 3 #[31, 49, 67, 85], 31) := by decide +kernel
theorem dX10_tick_80 : decode cX10_tick 80 = .ok (.aload_n 0, 1) := by decide +kernel
theorem dX10_tick_81 : decode cX10_tick 81 = .ok (.aload_n 0, 1) := by decide +kernel
theorem dX10_tick_82 : decode cX10_tick 82 = .ok (.getfield 80, 3) := by decide +kernel
theorem dX10_tick_85 : decode cX10_tick 85 = .ok (.getfield 300, 3) := by decide +kernel
theorem dX10_tick_88 : decode cX10_tick 88 = .ok (.iload_n 1, 1) := by decide +kernel
theorem dX10_tick_89 : decode cX10_tick 89 = .ok (.iconst 1, 1) := by decide +kernel
theorem dX10_tick_90 : decode cX10_tick 90 = .ok (.isub, 1) := by decide +kernel
theorem dX10_tick_91 : decode cX10_tick 91 = .ok (.invokestatic 154, 3) := by decide +kernel
theorem dX10_tick_94 : decode cX10_tick 94 = .ok (.invokevirtual 148, 3) := by decide +kernel
theorem dX10_tick_97 : decode cX10_tick 97 = .ok (.ireturn, 1) := by decide +kernel
theorem dX10_tick_98 : decode cX10_tick 98 = .ok (.aload_n 0, 1) := by decide +kernel
theorem dX10_tick_99 : decode cX10_tick 99 = .ok (.aload_n 0, 1) := by decide +kernel
theorem dX10_tick_100 : decode cX10_tick 100 = .ok (.getfield 80, 3) := by decide +kernel
theorem dX10_tick_103 : decode cX10_tick 103 = .ok (.getfield 303, 3) := by decide +kernel
theorem dX10_tick_106 : decode cX10_tick 106 = .ok (.iload_n 1, 1) := by decide +kernel
theorem dX10_tick_107 : decode cX10_tick 107 = .ok (.iconst 1, 1) := by decide +kernel
theorem dX10_tick_108 : decode cX10_tick 108 = .ok (.isub, 1) := by decide +kernel
theorem dX10_tick_109 : decode cX10_tick 109 = .ok (.invokestatic 154, 3) := by decide +kernel
theorem dX10_tick_112 : decode cX10_tick 112 = .ok (.invokevirtual 148, 3) := by decide +kernel
theorem dX10_tick_115 : decode cX10_tick 115 = .ok (.ireturn, 1) := by decide +kernel
theorem dX10_tick_116 : decode cX10_tick 116 = .ok (.aload_n 0, 1) := by decide +kernel
theorem dX10_tick_117 : decode cX10_tick 117 = .ok (.aload_n 0, 1) := by decide +kernel
theorem dX10_tick_118 : decode cX10_tick 118 = .ok (.getfield 80, 3) := by decide +kernel
theorem dX10_tick_121 : decode cX10_tick 121 = .ok (.getfield 306, 3) := by decide +kernel
theorem dX10_tick_124 : decode cX10_tick 124 = .ok (.iload_n 1, 1) := by decide +kernel
theorem dX10_tick_125 : decode cX10_tick 125 = .ok (.iconst 1, 1) := by decide +kernel
theorem dX10_tick_126 : decode cX10_tick 126 = .ok (.isub, 1) := by decide +kernel
theorem dX10_tick_127 : decode cX10_tick 127 = .ok (.invokestatic 154, 3) := by decide +kernel
theorem dX10_tick_130 : decode cX10_tick 130 = .ok (.invokevirtual 148, 3) := by decide +kernel
theorem dX10_tick_133 : decode cX10_tick 133 = .ok (.ireturn, 1) := by decide +kernel
theorem dX10_tick_134 : decode cX10_tick 134 = .ok (.aload_n 0, 1) := by decide +kernel
theorem dX10_tick_135 : decode cX10_tick 135 = .ok (.aload_n 0, 1) := by decide +kernel
theorem dX10_tick_136 : decode cX10_tick 136 = .ok (.getfield 80, 3) := by decide +kernel
theorem dX10_tick_139 : decode cX10_tick 139 = .ok (.getfield 309, 3) := by decide +kernel
theorem dX10_tick_142 : decode cX10_tick 142 = .ok (.iload_n 1, 1) := by decide +kernel
theorem dX10_tick_143 : decode cX10_tick 143 = .ok (.iconst 1, 1) := by decide +kernel
theorem dX10_tick_144 : decode cX10_tick 144 = .ok (.isub, 1) := by decide +kernel
theorem dX10_tick_145 : decode cX10_tick 145 = .ok (.invokestatic 154, 3) := by decide +kernel
theorem dX10_tick_148 : decode cX10_tick 148 = .ok (.invokevirtual 148, 3) := by decide +kernel
theorem dX10_tick_151 : decode cX10_tick 151 = .ok (.ireturn, 1) := by decide +kernel
theorem dX10_tick_152 : decode cX10_tick 152 = .ok (.aload_n 0, 1) := by decide +kernel
theorem dX10_tick_153 : decode cX10_tick 153 = .ok (.aload_n 0, 1) := by decide +kernel
theorem dX10_tick_154 : decode cX10_tick 154 = .ok (.getfield 80, 3) := by decide +kernel
theorem dX10_tick_157 : decode cX10_tick 157 = .ok (.getfield 312, 3) := by decide +kernel
theorem dX10_tick_160 : decode cX10_tick 160 = .ok (.iload_n 1, 1) := by decide +kernel
theorem dX10_tick_161 : decode cX10_tick 161 = .ok (.iconst 1, 1) := by decide +kernel
theorem dX10_tick_162 : decode cX10_tick 162 = .ok (.isub, 1) := by decide +kernel
theorem dX10_tick_163 : decode cX10_tick 163 = .ok (.invokestatic 154, 3) := by decide +kernel
theorem dX10_tick_166 : decode cX10_tick 166 = .ok (.invokevirtual 148, 3) := by decide +kernel
theorem dX10_tick_169 : decode cX10_tick 169 = .ok (.ireturn, 1) := by decide +kernel
theorem dX10_risk_0 : decode cX10_risk 0 = .ok (.aload_n 0, 1) := by decide +kernel
theorem dX10_risk_1 : decode cX10_risk 1 = .ok (.iload_n 1, 1) := by decide +kernel
theorem dX10_risk_2 : decode cX10_risk 2 = .ok (.invokevirtual 170, 3) := by decide +kernel
theorem dX10_risk_5 : decode cX10_risk 5 = .ok (.ifCond .ne 9, 3) := by decide +kernel
theorem dX10_risk_8 : decode cX10_risk 8 = .ok (.aload_n 0, 1) := by decide +kernel
theorem dX10_risk_9 : decode cX10_risk 9 = .ok (.iconst 1, 1) := by decide +kernel
theorem dX10_risk_10 : decode cX10_risk 10 = .ok (.invokevirtual 125, 3) := by decide +kernel
theorem dX10_risk_13 : decode cX10_risk 13 = .ok (.ireturn, 1) := by decide +kernel
theorem dX10_risk_14 : decode cX10_risk 14 = .ok (.iload_n 2, 1) := by decide +kernel
theorem dX10_risk_15 : decode cX10_risk 15 = .ok (.iconst 1, 1) := by decide +kernel
theorem dX10_risk_16 : decode cX10_risk 16 = .ok (.if_icmp .lt 9, 3) := by decide +kernel
theorem dX10_risk_19 : decode cX10_risk 19 = .ok (.iload_n 2, 1) := by decide +kernel
theorem dX10_risk_20 : decode cX10_risk 20 = .ok (.bipush 99, 2) := by decide +kernel
theorem dX10_risk_22 : decode cX10_risk 22 = .ok (.if_icmp .le 9, 3) := by decide +kernel
theorem dX10_risk_25 : decode cX10_risk 25 = .ok (.aload_n 0, 1) := by decide +kernel
theorem dX10_risk_26 : decode cX10_risk 26 = .ok (.iconst 2, 1) := by decide +kernel
theorem dX10_risk_27 : decode cX10_risk 27 = .ok (.invokevirtual 125, 3) := by decide +kernel
theorem dX10_risk_30 : decode cX10_risk 30 = .ok (.ireturn, 1) := by decide +kernel
theorem dX10_risk_31 : decode cX10_risk 31 = .ok (.aload_n 0, 1) := by decide +kernel
theorem dX10_risk_32 : decode cX10_risk 32 = .ok (.invokevirtual 180, 3) := by decide +kernel
theorem dX10_risk_35 : decode cX10_risk 35 = .ok (.aload_n 0, 1) := by decide +kernel
theorem dX10_risk_36 : decode cX10_risk 36 = .ok (.aload_n 0, 1) := by decide +kernel
theorem dX10_risk_37 : decode cX10_risk 37 = .ok (.iload_n 1, 1) := by decide +kernel
theorem dX10_risk_38 : decode cX10_risk 38 = .ok (.iload_n 2, 1) := by decide +kernel
theorem dX10_risk_39 : decode cX10_risk 39 = .ok (.invokevirtual 315, 3) := by decide +kernel
theorem dX10_risk_42 : decode cX10_risk 42 = .ok (.invokevirtual 148, 3) := by decide +kernel
theorem dX10_risk_45 : decode cX10_risk 45 = .ok (.ireturn, 1) := by decide +kernel
theorem dX10_riskiest_0 : decode cX10_riskiest 0 = .ok (.aload_n 0, 1) := by decide +kernel
theorem dX10_riskiest_1 : decode cX10_riskiest 1 = .ok (.getfield 97, 3) := by decide +kernel
theorem dX10_riskiest_4 : decode cX10_riskiest 4 = .ok (.ifCond .ne 9, 3) := by decide +kernel
theorem dX10_riskiest_7 : decode cX10_riskiest 7 = .ok (.aload_n 0, 1) := by decide +kernel
theorem dX10_riskiest_8 : decode cX10_riskiest 8 = .ok (.iconst 1, 1) := by decide +kernel
theorem dX10_riskiest_9 : decode cX10_riskiest 9 = .ok (.invokevirtual 125, 3) := by decide +kernel
theorem dX10_riskiest_12 : decode cX10_riskiest 12 = .ok (.ireturn, 1) := by decide +kernel
theorem dX10_riskiest_13 : decode cX10_riskiest 13 = .ok (.aload_n 0, 1) := by decide +kernel
theorem dX10_riskiest_14 : decode cX10_riskiest 14 = .ok (.invokevirtual 278, 3) := by decide +kernel
theorem dX10_riskiest_17 : decode cX10_riskiest 17 = .ok (.bipush (-2), 2) := by decide +kernel
theorem dX10_riskiest_19 : decode cX10_riskiest 19 = .ok (.istore_n 1, 1) := by decide +kernel
theorem dX10_riskiest_20 : decode cX10_riskiest 20 = .ok (.bipush 41, 2) := by decide +kernel
theorem dX10_riskiest_22 : decode cX10_riskiest 22 = .ok (.istore_n 2, 1) := by decide +kernel
theorem dX10_riskiest_23 : decode cX10_riskiest 23 = .ok (.iconst 0, 1) := by decide +kernel
theorem dX10_riskiest_24 : decode cX10_riskiest 24 = .ok (.istore_n 3, 1) := by decide +kernel
theorem dX10_riskiest_25 : decode cX10_riskiest 25 = .ok (.iload_n 3, 1) := by decide +kernel
theorem dX10_riskiest_26 : decode cX10_riskiest 26 = .ok (.aload_n 0, 1) := by decide +kernel
theorem dX10_riskiest_27 : decode cX10_riskiest 27 = .ok (.getfield 80, 3) := by decide +kernel
theorem dX10_riskiest_30 : decode cX10_riskiest 30 = .ok (.getfield 281, 3) := by decide +kernel
theorem dX10_riskiest_33 : decode cX10_riskiest 33 = .ok (.if_icmp .ge 50, 3) := by decide +kernel
theorem dX10_riskiest_36 : decode cX10_riskiest 36 = .ok (.aload_n 0, 1) := by decide +kernel
theorem dX10_riskiest_37 : decode cX10_riskiest 37 = .ok (.aload_n 0, 1) := by decide +kernel
theorem dX10_riskiest_38 : decode cX10_riskiest 38 = .ok (.getfield 80, 3) := by decide +kernel
theorem dX10_riskiest_41 : decode cX10_riskiest 41 = .ok (.getfield 300, 3) := by decide +kernel
theorem dX10_riskiest_44 : decode cX10_riskiest 44 = .ok (.iload_n 3, 1) := by decide +kernel
theorem dX10_riskiest_45 : decode cX10_riskiest 45 = .ok (.invokestatic 154, 3) := by decide +kernel
theorem dX10_riskiest_48 : decode cX10_riskiest 48 = .ok (.aload_n 0, 1) := by decide +kernel
theorem dX10_riskiest_49 : decode cX10_riskiest 49 = .ok (.getfield 80, 3) := by decide +kernel
theorem dX10_riskiest_52 : decode cX10_riskiest 52 = .ok (.getfield 318, 3) := by decide +kernel
theorem dX10_riskiest_55 : decode cX10_riskiest 55 = .ok (.iload_n 3, 1) := by decide +kernel
theorem dX10_riskiest_56 : decode cX10_riskiest 56 = .ok (.invokestatic 154, 3) := by decide +kernel
theorem dX10_riskiest_59 : decode cX10_riskiest 59 = .ok (.invokevirtual 315, 3) := by decide +kernel
theorem dX10_riskiest_62 : decode cX10_riskiest 62 = .ok (.istore 4, 2) := by decide +kernel
theorem dX10_riskiest_64 : decode cX10_riskiest 64 = .ok (.iload 4, 2) := by decide +kernel
theorem dX10_riskiest_66 : decode cX10_riskiest 66 = .ok (.iload_n 2, 1) := by decide +kernel
theorem dX10_riskiest_67 : decode cX10_riskiest 67 = .ok (.if_icmp .ge 10, 3) := by decide +kernel
theorem dX10_riskiest_70 : decode cX10_riskiest 70 = .ok (.iload 4, 2) := by decide +kernel
theorem dX10_riskiest_72 : decode cX10_riskiest 72 = .ok (.istore_n 2, 1) := by decide +kernel
theorem dX10_riskiest_73 : decode cX10_riskiest 73 = .ok (.iload_n 3, 1) := by decide +kernel
theorem dX10_riskiest_74 : decode cX10_riskiest 74 = .ok (.iconst 1, 1) := by decide +kernel
theorem dX10_riskiest_75 : decode cX10_riskiest 75 = .ok (.iadd, 1) := by decide +kernel
theorem dX10_riskiest_76 : decode cX10_riskiest 76 = .ok (.istore_n 1, 1) := by decide +kernel
theorem dX10_riskiest_77 : decode cX10_riskiest 77 = .ok (.iinc 3 1, 3) := by decide +kernel
theorem dX10_riskiest_80 : decode cX10_riskiest 80 = .ok (.goto (-55), 3) := by decide +kernel
theorem dX10_riskiest_83 : decode cX10_riskiest 83 = .ok (.aload_n 0, 1) := by decide +kernel
theorem dX10_riskiest_84 : decode cX10_riskiest 84 = .ok (.iload_n 1, 1) := by decide +kernel
theorem dX10_riskiest_85 : decode cX10_riskiest 85 = .ok (.invokevirtual 148, 3) := by decide +kernel
theorem dX10_riskiest_88 : decode cX10_riskiest 88 = .ok (.ireturn, 1) := by decide +kernel
theorem dX10_arrives_0 : decode cX10_arrives 0 = .ok (.aload_n 0, 1) := by decide +kernel
theorem dX10_arrives_1 : decode cX10_arrives 1 = .ok (.getfield 97, 3) := by decide +kernel
theorem dX10_arrives_4 : decode cX10_arrives 4 = .ok (.ifCond .ne 9, 3) := by decide +kernel
theorem dX10_arrives_7 : decode cX10_arrives 7 = .ok (.aload_n 0, 1) := by decide +kernel
theorem dX10_arrives_8 : decode cX10_arrives 8 = .ok (.iconst 1, 1) := by decide +kernel
theorem dX10_arrives_9 : decode cX10_arrives 9 = .ok (.invokevirtual 125, 3) := by decide +kernel
theorem dX10_arrives_12 : decode cX10_arrives 12 = .ok (.ireturn, 1) := by decide +kernel
theorem dX10_arrives_13 : decode cX10_arrives 13 = .ok (.aload_n 0, 1) := by decide +kernel
theorem dX10_arrives_14 : decode cX10_arrives 14 = .ok (.invokevirtual 278, 3) := by decide +kernel
theorem dX10_arrives_17 : decode cX10_arrives 17 = .ok (.aload_n 0, 1) := by decide +kernel
theorem dX10_arrives_18 : decode cX10_arrives 18 = .ok (.aload_n 0, 1) := by decide +kernel
theorem dX10_arrives_19 : decode cX10_arrives 19 = .ok (.aload_n 0, 1) := by decide +kernel
theorem dX10_arrives_20 : decode cX10_arrives 20 = .ok (.getfield 80, 3) := by decide +kernel
theorem dX10_arrives_23 : decode cX10_arrives 23 = .ok (.invokevirtual 296, 3) := by decide +kernel
theorem dX10_arrives_26 : decode cX10_arrives 26 = .ok (.aload_n 0, 1) := by decide +kernel
theorem dX10_arrives_27 : decode cX10_arrives 27 = .ok (.getfield 25, 3) := by decide +kernel
theorem dX10_arrives_30 : decode cX10_arrives 30 = .ok (.iconst 1, 1) := by decide +kernel
theorem dX10_arrives_31 : decode cX10_arrives 31 = .ok (.invokestatic 154, 3) := by decide +kernel
theorem dX10_arrives_34 : decode cX10_arrives 34 = .ok (.if_icmp .lt 7, 3) := by decide +kernel
theorem dX10_arrives_37 : decode cX10_arrives 37 = .ok (.iconst 1, 1) := by decide +kernel
theorem dX10_arrives_38 : decode cX10_arrives 38 = .ok (.goto 4, 3) := by decide +kernel
theorem dX10_arrives_41 : decode cX10_arrives 41 = .ok (.iconst 0, 1) := by decide +kernel
theorem dX10_arrives_42 : decode cX10_arrives 42 = .ok (.invokevirtual 148, 3) := by decide +kernel
theorem dX10_arrives_45 : decode cX10_arrives 45 = .ok (.ireturn, 1) := by decide +kernel
theorem dX10_flown_0 : decode cX10_flown 0 = .ok (.aload_n 0, 1) := by decide +kernel
theorem dX10_flown_1 : decode cX10_flown 1 = .ok (.getfield 97, 3) := by decide +kernel
theorem dX10_flown_4 : decode cX10_flown 4 = .ok (.ifCond .ne 9, 3) := by decide +kernel
theorem dX10_flown_7 : decode cX10_flown 7 = .ok (.aload_n 0, 1) := by decide +kernel
theorem dX10_flown_8 : decode cX10_flown 8 = .ok (.iconst 1, 1) := by decide +kernel
theorem dX10_flown_9 : decode cX10_flown 9 = .ok (.invokevirtual 125, 3) := by decide +kernel
theorem dX10_flown_12 : decode cX10_flown 12 = .ok (.ireturn, 1) := by decide +kernel
theorem dX10_flown_13 : decode cX10_flown 13 = .ok (.aload_n 0, 1) := by decide +kernel
theorem dX10_flown_14 : decode cX10_flown 14 = .ok (.invokevirtual 278, 3) := by decide +kernel
theorem dX10_flown_17 : decode cX10_flown 17 = .ok (.aload_n 0, 1) := by decide +kernel
theorem dX10_flown_18 : decode cX10_flown 18 = .ok (.aload_n 0, 1) := by decide +kernel
theorem dX10_flown_19 : decode cX10_flown 19 = .ok (.getfield 80, 3) := by decide +kernel
theorem dX10_flown_22 : decode cX10_flown 22 = .ok (.getfield 321, 3) := by decide +kernel
theorem dX10_flown_25 : decode cX10_flown 25 = .ok (.iload_n 1, 1) := by decide +kernel
theorem dX10_flown_26 : decode cX10_flown 26 = .ok (.invokevirtual 214, 3) := by decide +kernel
theorem dX10_flown_29 : decode cX10_flown 29 = .ok (.invokevirtual 148, 3) := by decide +kernel
theorem dX10_flown_32 : decode cX10_flown 32 = .ok (.ireturn, 1) := by decide +kernel
theorem dX10_bounds_0 : decode cX10_bounds 0 = .ok (.aload_n 0, 1) := by decide +kernel
theorem dX10_bounds_1 : decode cX10_bounds 1 = .ok (.iload_n 1, 1) := by decide +kernel
theorem dX10_bounds_2 : decode cX10_bounds 2 = .ok (.invokevirtual 170, 3) := by decide +kernel
theorem dX10_bounds_5 : decode cX10_bounds 5 = .ok (.ifCond .ne 9, 3) := by decide +kernel
theorem dX10_bounds_8 : decode cX10_bounds 8 = .ok (.aload_n 0, 1) := by decide +kernel
theorem dX10_bounds_9 : decode cX10_bounds 9 = .ok (.iconst 1, 1) := by decide +kernel
theorem dX10_bounds_10 : decode cX10_bounds 10 = .ok (.invokevirtual 125, 3) := by decide +kernel
theorem dX10_bounds_13 : decode cX10_bounds 13 = .ok (.ireturn, 1) := by decide +kernel
theorem dX10_bounds_14 : decode cX10_bounds 14 = .ok (.iload_n 2, 1) := by decide +kernel
theorem dX10_bounds_15 : decode cX10_bounds 15 = .ok (.ifCond .lt 21, 3) := by decide +kernel
theorem dX10_bounds_18 : decode cX10_bounds 18 = .ok (.iload_n 2, 1) := by decide +kernel
theorem dX10_bounds_19 : decode cX10_bounds 19 = .ok (.iload_n 3, 1) := by decide +kernel
theorem dX10_bounds_20 : decode cX10_bounds 20 = .ok (.if_icmp .gt 16, 3) := by decide +kernel
theorem dX10_bounds_23 : decode cX10_bounds 23 = .ok (.iload_n 3, 1) := by decide +kernel
theorem dX10_bounds_24 : decode cX10_bounds 24 = .ok (.aload_n 0, 1) := by decide +kernel
theorem dX10_bounds_25 : decode cX10_bounds 25 = .ok (.getfield 90, 3) := by decide +kernel
theorem dX10_bounds_28 : decode cX10_bounds 28 = .ok (.iload_n 1, 1) := by decide +kernel
theorem dX10_bounds_29 : decode cX10_bounds 29 = .ok (.iconst 3, 1) := by decide +kernel
theorem dX10_bounds_30 : decode cX10_bounds 30 = .ok (.invokevirtual 177, 3) := by decide +kernel
theorem dX10_bounds_33 : decode cX10_bounds 33 = .ok (.if_icmp .le 9, 3) := by decide +kernel
theorem dX10_bounds_36 : decode cX10_bounds 36 = .ok (.aload_n 0, 1) := by decide +kernel
theorem dX10_bounds_37 : decode cX10_bounds 37 = .ok (.iconst 2, 1) := by decide +kernel
theorem dX10_bounds_38 : decode cX10_bounds 38 = .ok (.invokevirtual 125, 3) := by decide +kernel
theorem dX10_bounds_41 : decode cX10_bounds 41 = .ok (.ireturn, 1) := by decide +kernel
theorem dX10_bounds_42 : decode cX10_bounds 42 = .ok (.aload_n 0, 1) := by decide +kernel
theorem dX10_bounds_43 : decode cX10_bounds 43 = .ok (.getfield 25, 3) := by decide +kernel
theorem dX10_bounds_46 : decode cX10_bounds 46 = .ok (.bipush 8, 2) := by decide +kernel
theorem dX10_bounds_48 : decode cX10_bounds 48 = .ok (.iload_n 1, 1) := by decide +kernel
theorem dX10_bounds_49 : decode cX10_bounds 49 = .ok (.iadd, 1) := by decide +kernel
theorem dX10_bounds_50 : decode cX10_bounds 50 = .ok (.invokestatic 154, 3) := by decide +kernel
theorem dX10_bounds_53 : decode cX10_bounds 53 = .ok (.aload_n 0, 1) := by decide +kernel
theorem dX10_bounds_54 : decode cX10_bounds 54 = .ok (.getfield 25, 3) := by decide +kernel
theorem dX10_bounds_57 : decode cX10_bounds 57 = .ok (.iconst 5, 1) := by decide +kernel
theorem dX10_bounds_58 : decode cX10_bounds 58 = .ok (.iload_n 1, 1) := by decide +kernel
theorem dX10_bounds_59 : decode cX10_bounds 59 = .ok (.iadd, 1) := by decide +kernel
theorem dX10_bounds_60 : decode cX10_bounds 60 = .ok (.invokestatic 154, 3) := by decide +kernel
theorem dX10_bounds_63 : decode cX10_bounds 63 = .ok (.isub, 1) := by decide +kernel
theorem dX10_bounds_64 : decode cX10_bounds 64 = .ok (.istore 4, 2) := by decide +kernel
theorem dX10_bounds_66 : decode cX10_bounds 66 = .ok (.aload_n 0, 1) := by decide +kernel
theorem dX10_bounds_67 : decode cX10_bounds 67 = .ok (.invokevirtual 324, 3) := by decide +kernel
theorem dX10_bounds_70 : decode cX10_bounds 70 = .ok (.aload_n 0, 1) := by decide +kernel
theorem dX10_bounds_71 : decode cX10_bounds 71 = .ok (.getfield 25, 3) := by decide +kernel
theorem dX10_bounds_74 : decode cX10_bounds 74 = .ok (.iconst 5, 1) := by decide +kernel
theorem dX10_bounds_75 : decode cX10_bounds 75 = .ok (.iload_n 1, 1) := by decide +kernel
theorem dX10_bounds_76 : decode cX10_bounds 76 = .ok (.iadd, 1) := by decide +kernel
theorem dX10_bounds_77 : decode cX10_bounds 77 = .ok (.iload_n 2, 1) := by decide +kernel
theorem dX10_bounds_78 : decode cX10_bounds 78 = .ok (.invokestatic 327, 3) := by decide +kernel
theorem dX10_bounds_81 : decode cX10_bounds 81 = .ok (.aload_n 0, 1) := by decide +kernel
theorem dX10_bounds_82 : decode cX10_bounds 82 = .ok (.getfield 25, 3) := by decide +kernel
theorem dX10_bounds_85 : decode cX10_bounds 85 = .ok (.bipush 8, 2) := by decide +kernel
theorem dX10_bounds_87 : decode cX10_bounds 87 = .ok (.iload_n 1, 1) := by decide +kernel
theorem dX10_bounds_88 : decode cX10_bounds 88 = .ok (.iadd, 1) := by decide +kernel
theorem dX10_bounds_89 : decode cX10_bounds 89 = .ok (.iload_n 3, 1) := by decide +kernel
theorem dX10_bounds_90 : decode cX10_bounds 90 = .ok (.invokestatic 327, 3) := by decide +kernel
theorem dX10_bounds_93 : decode cX10_bounds 93 = .ok (.aload_n 0, 1) := by decide +kernel
theorem dX10_bounds_94 : decode cX10_bounds 94 = .ok (.iload 4, 2) := by decide +kernel
theorem dX10_bounds_96 : decode cX10_bounds 96 = .ok (.invokevirtual 148, 3) := by decide +kernel
theorem dX10_bounds_99 : decode cX10_bounds 99 = .ok (.ireturn, 1) := by decide +kernel
theorem dX10_load_0 : decode cX10_load 0 = .ok (.aload_n 0, 1) := by decide +kernel
theorem dX10_load_1 : decode cX10_load 1 = .ok (.iload_n 1, 1) := by decide +kernel
theorem dX10_load_2 : decode cX10_load 2 = .ok (.invokevirtual 170, 3) := by decide +kernel
theorem dX10_load_5 : decode cX10_load 5 = .ok (.ifCond .ne 9, 3) := by decide +kernel
theorem dX10_load_8 : decode cX10_load 8 = .ok (.aload_n 0, 1) := by decide +kernel
theorem dX10_load_9 : decode cX10_load 9 = .ok (.iconst 1, 1) := by decide +kernel
theorem dX10_load_10 : decode cX10_load 10 = .ok (.invokevirtual 125, 3) := by decide +kernel
theorem dX10_load_13 : decode cX10_load 13 = .ok (.ireturn, 1) := by decide +kernel
theorem dX10_load_14 : decode cX10_load 14 = .ok (.iload_n 2, 1) := by decide +kernel
theorem dX10_load_15 : decode cX10_load 15 = .ok (.ifCond .lt 16, 3) := by decide +kernel
theorem dX10_load_18 : decode cX10_load 18 = .ok (.iload_n 2, 1) := by decide +kernel
theorem dX10_load_19 : decode cX10_load 19 = .ok (.aload_n 0, 1) := by decide +kernel
theorem dX10_load_20 : decode cX10_load 20 = .ok (.getfield 90, 3) := by decide +kernel
theorem dX10_load_23 : decode cX10_load 23 = .ok (.iload_n 1, 1) := by decide +kernel
theorem dX10_load_24 : decode cX10_load 24 = .ok (.iconst 3, 1) := by decide +kernel
theorem dX10_load_25 : decode cX10_load 25 = .ok (.invokevirtual 177, 3) := by decide +kernel
theorem dX10_load_28 : decode cX10_load 28 = .ok (.if_icmp .le 9, 3) := by decide +kernel
theorem dX10_load_31 : decode cX10_load 31 = .ok (.aload_n 0, 1) := by decide +kernel
theorem dX10_load_32 : decode cX10_load 32 = .ok (.iconst 2, 1) := by decide +kernel
theorem dX10_load_33 : decode cX10_load 33 = .ok (.invokevirtual 125, 3) := by decide +kernel
theorem dX10_load_36 : decode cX10_load 36 = .ok (.ireturn, 1) := by decide +kernel
theorem dX10_load_37 : decode cX10_load 37 = .ok (.aload_n 0, 1) := by decide +kernel
theorem dX10_load_38 : decode cX10_load 38 = .ok (.aload_n 0, 1) := by decide +kernel
theorem dX10_load_39 : decode cX10_load 39 = .ok (.iconst 2, 1) := by decide +kernel
theorem dX10_load_40 : decode cX10_load 40 = .ok (.iload_n 1, 1) := by decide +kernel
theorem dX10_load_41 : decode cX10_load 41 = .ok (.iadd, 1) := by decide +kernel
theorem dX10_load_42 : decode cX10_load 42 = .ok (.iload_n 2, 1) := by decide +kernel
theorem dX10_load_43 : decode cX10_load 43 = .ok (.invokevirtual 331, 3) := by decide +kernel
theorem dX10_load_46 : decode cX10_load 46 = .ok (.invokevirtual 148, 3) := by decide +kernel
theorem dX10_load_49 : decode cX10_load 49 = .ok (.ireturn, 1) := by decide +kernel
theorem dX10_adopt_0 : decode cX10_adopt 0 = .ok (.aload_n 0, 1) := by decide +kernel
theorem dX10_adopt_1 : decode cX10_adopt 1 = .ok (.getfield 97, 3) := by decide +kernel
theorem dX10_adopt_4 : decode cX10_adopt 4 = .ok (.ifCond .ne 9, 3) := by decide +kernel
theorem dX10_adopt_7 : decode cX10_adopt 7 = .ok (.aload_n 0, 1) := by decide +kernel
theorem dX10_adopt_8 : decode cX10_adopt 8 = .ok (.iconst 1, 1) := by decide +kernel
theorem dX10_adopt_9 : decode cX10_adopt 9 = .ok (.invokevirtual 125, 3) := by decide +kernel
theorem dX10_adopt_12 : decode cX10_adopt 12 = .ok (.ireturn, 1) := by decide +kernel
theorem dX10_adopt_13 : decode cX10_adopt 13 = .ok (.aload_n 0, 1) := by decide +kernel
theorem dX10_adopt_14 : decode cX10_adopt 14 = .ok (.getfield 64, 3) := by decide +kernel
theorem dX10_adopt_17 : decode cX10_adopt 17 = .ok (.aload_n 0, 1) := by decide +kernel
theorem dX10_adopt_18 : decode cX10_adopt 18 = .ok (.getfield 90, 3) := by decide +kernel
theorem dX10_adopt_21 : decode cX10_adopt 21 = .ok (.aload_n 0, 1) := by decide +kernel
theorem dX10_adopt_22 : decode cX10_adopt 22 = .ok (.getfield 25, 3) := by decide +kernel
theorem dX10_adopt_25 : decode cX10_adopt 25 = .ok (.aload_n 0, 1) := by decide +kernel
theorem dX10_adopt_26 : decode cX10_adopt 26 = .ok (.getfield 35, 3) := by decide +kernel
theorem dX10_adopt_29 : decode cX10_adopt 29 = .ok (.invokevirtual 232, 3) := by decide +kernel
theorem dX10_adopt_32 : decode cX10_adopt 32 = .ok (.aload_n 0, 1) := by decide +kernel
theorem dX10_adopt_33 : decode cX10_adopt 33 = .ok (.getfield 64, 3) := by decide +kernel
theorem dX10_adopt_36 : decode cX10_adopt 36 = .ok (.aload_n 0, 1) := by decide +kernel
theorem dX10_adopt_37 : decode cX10_adopt 37 = .ok (.getfield 25, 3) := by decide +kernel
theorem dX10_adopt_40 : decode cX10_adopt 40 = .ok (.iconst 1, 1) := by decide +kernel
theorem dX10_adopt_41 : decode cX10_adopt 41 = .ok (.invokestatic 154, 3) := by decide +kernel
theorem dX10_adopt_44 : decode cX10_adopt 44 = .ok (.invokevirtual 236, 3) := by decide +kernel
theorem dX10_adopt_47 : decode cX10_adopt 47 = .ok (.istore_n 1, 1) := by decide +kernel
theorem dX10_adopt_48 : decode cX10_adopt 48 = .ok (.iload_n 1, 1) := by decide +kernel
theorem dX10_adopt_49 : decode cX10_adopt 49 = .ok (.ifCond .ge 9, 3) := by decide +kernel
theorem dX10_adopt_52 : decode cX10_adopt 52 = .ok (.aload_n 0, 1) := by decide +kernel
theorem dX10_adopt_53 : decode cX10_adopt 53 = .ok (.iconst 5, 1) := by decide +kernel
theorem dX10_adopt_54 : decode cX10_adopt 54 = .ok (.invokevirtual 125, 3) := by decide +kernel
theorem dX10_adopt_57 : decode cX10_adopt 57 = .ok (.ireturn, 1) := by decide +kernel
theorem dX10_adopt_58 : decode cX10_adopt 58 = .ok (.aload_n 0, 1) := by decide +kernel
theorem dX10_adopt_59 : decode cX10_adopt 59 = .ok (.invokevirtual 324, 3) := by decide +kernel
theorem dX10_adopt_62 : decode cX10_adopt 62 = .ok (.iconst 0, 1) := by decide +kernel
theorem dX10_adopt_63 : decode cX10_adopt 63 = .ok (.istore_n 2, 1) := by decide +kernel
theorem dX10_adopt_64 : decode cX10_adopt 64 = .ok (.iload_n 2, 1) := by decide +kernel
theorem dX10_adopt_65 : decode cX10_adopt 65 = .ok (.iconst 3, 1) := by decide +kernel
theorem dX10_adopt_66 : decode cX10_adopt 66 = .ok (.if_icmp .ge 24, 3) := by decide +kernel
theorem dX10_adopt_69 : decode cX10_adopt 69 = .ok (.aload_n 0, 1) := by decide +kernel
theorem dX10_adopt_70 : decode cX10_adopt 70 = .ok (.getfield 25, 3) := by decide +kernel
theorem dX10_adopt_73 : decode cX10_adopt 73 = .ok (.iconst 2, 1) := by decide +kernel
theorem dX10_adopt_74 : decode cX10_adopt 74 = .ok (.iload_n 2, 1) := by decide +kernel
theorem dX10_adopt_75 : decode cX10_adopt 75 = .ok (.iadd, 1) := by decide +kernel
theorem dX10_adopt_76 : decode cX10_adopt 76 = .ok (.iload_n 1, 1) := by decide +kernel
theorem dX10_adopt_77 : decode cX10_adopt 77 = .ok (.iload_n 2, 1) := by decide +kernel
theorem dX10_adopt_78 : decode cX10_adopt 78 = .ok (.invokestatic 242, 3) := by decide +kernel
theorem dX10_adopt_81 : decode cX10_adopt 81 = .ok (.invokestatic 327, 3) := by decide +kernel
theorem dX10_adopt_84 : decode cX10_adopt 84 = .ok (.iinc 2 1, 3) := by decide +kernel
theorem dX10_adopt_87 : decode cX10_adopt 87 = .ok (.goto (-23), 3) := by decide +kernel
theorem dX10_adopt_90 : decode cX10_adopt 90 = .ok (.aload_n 0, 1) := by decide +kernel
theorem dX10_adopt_91 : decode cX10_adopt 91 = .ok (.aload_n 0, 1) := by decide +kernel
theorem dX10_adopt_92 : decode cX10_adopt 92 = .ok (.getfield 64, 3) := by decide +kernel
theorem dX10_adopt_95 : decode cX10_adopt 95 = .ok (.iload_n 1, 1) := by decide +kernel
theorem dX10_adopt_96 : decode cX10_adopt 96 = .ok (.invokevirtual 239, 3) := by decide +kernel
theorem dX10_adopt_99 : decode cX10_adopt 99 = .ok (.invokevirtual 148, 3) := by decide +kernel
theorem dX10_adopt_102 : decode cX10_adopt 102 = .ok (.ireturn, 1) := by decide +kernel
theorem dX10_payload_0 : decode cX10_payload 0 = .ok (.aload_n 0, 1) := by decide +kernel
theorem dX10_payload_1 : decode cX10_payload 1 = .ok (.getfield 97, 3) := by decide +kernel
theorem dX10_payload_4 : decode cX10_payload 4 = .ok (.ifCond .ne 9, 3) := by decide +kernel
theorem dX10_payload_7 : decode cX10_payload 7 = .ok (.aload_n 0, 1) := by decide +kernel
theorem dX10_payload_8 : decode cX10_payload 8 = .ok (.iconst 1, 1) := by decide +kernel
theorem dX10_payload_9 : decode cX10_payload 9 = .ok (.invokevirtual 125, 3) := by decide +kernel
theorem dX10_payload_12 : decode cX10_payload 12 = .ok (.ireturn, 1) := by decide +kernel
theorem dX10_payload_13 : decode cX10_payload 13 = .ok (.iload_n 1, 1) := by decide +kernel
theorem dX10_payload_14 : decode cX10_payload 14 = .ok (.iconst 1, 1) := by decide +kernel
theorem dX10_payload_15 : decode cX10_payload 15 = .ok (.if_icmp .lt 9, 3) := by decide +kernel
theorem dX10_payload_18 : decode cX10_payload 18 = .ok (.iload_n 1, 1) := by decide +kernel
theorem dX10_payload_19 : decode cX10_payload 19 = .ok (.bipush 40, 2) := by decide +kernel
theorem dX10_payload_21 : decode cX10_payload 21 = .ok (.if_icmp .le 9, 3) := by decide +kernel
theorem dX10_payload_24 : decode cX10_payload 24 = .ok (.aload_n 0, 1) := by decide +kernel
theorem dX10_payload_25 : decode cX10_payload 25 = .ok (.iconst 2, 1) := by decide +kernel
theorem dX10_payload_26 : decode cX10_payload 26 = .ok (.invokevirtual 125, 3) := by decide +kernel
theorem dX10_payload_29 : decode cX10_payload 29 = .ok (.ireturn, 1) := by decide +kernel
theorem dX10_payload_30 : decode cX10_payload 30 = .ok (.aload_n 0, 1) := by decide +kernel
theorem dX10_payload_31 : decode cX10_payload 31 = .ok (.aload_n 0, 1) := by decide +kernel
theorem dX10_payload_32 : decode cX10_payload 32 = .ok (.iconst 0, 1) := by decide +kernel
theorem dX10_payload_33 : decode cX10_payload 33 = .ok (.iload_n 1, 1) := by decide +kernel
theorem dX10_payload_34 : decode cX10_payload 34 = .ok (.invokevirtual 331, 3) := by decide +kernel
theorem dX10_payload_37 : decode cX10_payload 37 = .ok (.invokevirtual 148, 3) := by decide +kernel
theorem dX10_payload_40 : decode cX10_payload 40 = .ok (.ireturn, 1) := by decide +kernel
theorem dX10_power_0 : decode cX10_power 0 = .ok (.aload_n 0, 1) := by decide +kernel
theorem dX10_power_1 : decode cX10_power 1 = .ok (.getfield 97, 3) := by decide +kernel
theorem dX10_power_4 : decode cX10_power 4 = .ok (.ifCond .ne 9, 3) := by decide +kernel
theorem dX10_power_7 : decode cX10_power 7 = .ok (.aload_n 0, 1) := by decide +kernel
theorem dX10_power_8 : decode cX10_power 8 = .ok (.iconst 1, 1) := by decide +kernel
theorem dX10_power_9 : decode cX10_power 9 = .ok (.invokevirtual 125, 3) := by decide +kernel
theorem dX10_power_12 : decode cX10_power 12 = .ok (.ireturn, 1) := by decide +kernel
theorem dX10_power_13 : decode cX10_power 13 = .ok (.iload_n 1, 1) := by decide +kernel
theorem dX10_power_14 : decode cX10_power 14 = .ok (.iconst 1, 1) := by decide +kernel
theorem dX10_power_15 : decode cX10_power 15 = .ok (.if_icmp .lt 9, 3) := by decide +kernel
theorem dX10_power_18 : decode cX10_power 18 = .ok (.iload_n 1, 1) := by decide +kernel
theorem dX10_power_19 : decode cX10_power 19 = .ok (.bipush 12, 2) := by decide +kernel
theorem dX10_power_21 : decode cX10_power 21 = .ok (.if_icmp .le 9, 3) := by decide +kernel
theorem dX10_power_24 : decode cX10_power 24 = .ok (.aload_n 0, 1) := by decide +kernel
theorem dX10_power_25 : decode cX10_power 25 = .ok (.iconst 2, 1) := by decide +kernel
theorem dX10_power_26 : decode cX10_power 26 = .ok (.invokevirtual 125, 3) := by decide +kernel
theorem dX10_power_29 : decode cX10_power 29 = .ok (.ireturn, 1) := by decide +kernel
theorem dX10_power_30 : decode cX10_power 30 = .ok (.aload_n 0, 1) := by decide +kernel
theorem dX10_power_31 : decode cX10_power 31 = .ok (.aload_n 0, 1) := by decide +kernel
theorem dX10_power_32 : decode cX10_power 32 = .ok (.iconst 1, 1) := by decide +kernel
theorem dX10_power_33 : decode cX10_power 33 = .ok (.iload_n 1, 1) := by decide +kernel
theorem dX10_power_34 : decode cX10_power 34 = .ok (.invokevirtual 331, 3) := by decide +kernel
theorem dX10_power_37 : decode cX10_power 37 = .ok (.invokevirtual 148, 3) := by decide +kernel
theorem dX10_power_40 : decode cX10_power 40 = .ok (.ireturn, 1) := by decide +kernel
theorem dX10_undo_0 : decode cX10_undo 0 = .ok (.aload_n 0, 1) := by decide +kernel
theorem dX10_undo_1 : decode cX10_undo 1 = .ok (.getfield 97, 3) := by decide +kernel
theorem dX10_undo_4 : decode cX10_undo 4 = .ok (.ifCond .eq 11, 3) := by decide +kernel
theorem dX10_undo_7 : decode cX10_undo 7 = .ok (.aload_n 0, 1) := by decide +kernel
theorem dX10_undo_8 : decode cX10_undo 8 = .ok (.getfield 101, 3) := by decide +kernel
theorem dX10_undo_11 : decode cX10_undo 11 = .ok (.iconst 1, 1) := by decide +kernel
theorem dX10_undo_12 : decode cX10_undo 12 = .ok (.if_icmp .ge 11, 3) := by decide +kernel
theorem dX10_undo_15 : decode cX10_undo 15 = .ok (.aload_n 0, 1) := by decide +kernel
theorem dX10_undo_16 : decode cX10_undo 16 = .ok (.iconst 1, 1) := by decide +kernel
theorem dX10_undo_17 : decode cX10_undo 17 = .ok (.invokevirtual 125, 3) := by decide +kernel
theorem dX10_undo_20 : decode cX10_undo 20 = .ok (.pop, 1) := by decide +kernel
theorem dX10_undo_21 : decode cX10_undo 21 = .ok (.iconst 0, 1) := by decide +kernel
theorem dX10_undo_22 : decode cX10_undo 22 = .ok (.ireturn, 1) := by decide +kernel
theorem dX10_undo_23 : decode cX10_undo 23 = .ok (.aload_n 0, 1) := by decide +kernel
theorem dX10_undo_24 : decode cX10_undo 24 = .ok (.dup, 1) := by decide +kernel
theorem dX10_undo_25 : decode cX10_undo 25 = .ok (.getfield 101, 3) := by decide +kernel
theorem dX10_undo_28 : decode cX10_undo 28 = .ok (.iconst 1, 1) := by decide +kernel
theorem dX10_undo_29 : decode cX10_undo 29 = .ok (.isub, 1) := by decide +kernel
theorem dX10_undo_30 : decode cX10_undo 30 = .ok (.putfield 101, 3) := by decide +kernel
theorem dX10_undo_33 : decode cX10_undo 33 = .ok (.aload_n 0, 1) := by decide +kernel
theorem dX10_undo_34 : decode cX10_undo 34 = .ok (.dup, 1) := by decide +kernel
theorem dX10_undo_35 : decode cX10_undo 35 = .ok (.getfield 105, 3) := by decide +kernel
theorem dX10_undo_38 : decode cX10_undo 38 = .ok (.iconst 1, 1) := by decide +kernel
theorem dX10_undo_39 : decode cX10_undo 39 = .ok (.iadd, 1) := by decide +kernel
theorem dX10_undo_40 : decode cX10_undo 40 = .ok (.putfield 105, 3) := by decide +kernel
theorem dX10_undo_43 : decode cX10_undo 43 = .ok (.iconst 0, 1) := by decide +kernel
theorem dX10_undo_44 : decode cX10_undo 44 = .ok (.istore_n 1, 1) := by decide +kernel
theorem dX10_undo_45 : decode cX10_undo 45 = .ok (.iload_n 1, 1) := by decide +kernel
theorem dX10_undo_46 : decode cX10_undo 46 = .ok (.bipush 11, 2) := by decide +kernel
theorem dX10_undo_48 : decode cX10_undo 48 = .ok (.if_icmp .ge 33, 3) := by decide +kernel
theorem dX10_undo_51 : decode cX10_undo 51 = .ok (.aload_n 0, 1) := by decide +kernel
theorem dX10_undo_52 : decode cX10_undo 52 = .ok (.getfield 25, 3) := by decide +kernel
theorem dX10_undo_55 : decode cX10_undo 55 = .ok (.iload_n 1, 1) := by decide +kernel
theorem dX10_undo_56 : decode cX10_undo 56 = .ok (.aload_n 0, 1) := by decide +kernel
theorem dX10_undo_57 : decode cX10_undo 57 = .ok (.getfield 29, 3) := by decide +kernel
theorem dX10_undo_60 : decode cX10_undo 60 = .ok (.aload_n 0, 1) := by decide +kernel
theorem dX10_undo_61 : decode cX10_undo 61 = .ok (.getfield 101, 3) := by decide +kernel
theorem dX10_undo_64 : decode cX10_undo 64 = .ok (.bipush 11, 2) := by decide +kernel
theorem dX10_undo_66 : decode cX10_undo 66 = .ok (.imul, 1) := by decide +kernel
theorem dX10_undo_67 : decode cX10_undo 67 = .ok (.iload_n 1, 1) := by decide +kernel
theorem dX10_undo_68 : decode cX10_undo 68 = .ok (.iadd, 1) := by decide +kernel
theorem dX10_undo_69 : decode cX10_undo 69 = .ok (.invokestatic 154, 3) := by decide +kernel
theorem dX10_undo_72 : decode cX10_undo 72 = .ok (.invokestatic 327, 3) := by decide +kernel
theorem dX10_undo_75 : decode cX10_undo 75 = .ok (.iinc 1 1, 3) := by decide +kernel
theorem dX10_undo_78 : decode cX10_undo 78 = .ok (.goto (-33), 3) := by decide +kernel
theorem dX10_undo_81 : decode cX10_undo 81 = .ok (.aload_n 0, 1) := by decide +kernel
theorem dX10_undo_82 : decode cX10_undo 82 = .ok (.iconst 0, 1) := by decide +kernel
theorem dX10_undo_83 : decode cX10_undo 83 = .ok (.invokevirtual 148, 3) := by decide +kernel
theorem dX10_undo_86 : decode cX10_undo 86 = .ok (.pop, 1) := by decide +kernel
theorem dX10_undo_87 : decode cX10_undo 87 = .ok (.iconst 1, 1) := by decide +kernel
theorem dX10_undo_88 : decode cX10_undo 88 = .ok (.ireturn, 1) := by decide +kernel
theorem dX10_weak_0 : decode cX10_weak 0 = .ok (.aload_n 0, 1) := by decide +kernel
theorem dX10_weak_1 : decode cX10_weak 1 = .ok (.iload_n 1, 1) := by decide +kernel
theorem dX10_weak_2 : decode cX10_weak 2 = .ok (.invokevirtual 334, 3) := by decide +kernel
theorem dX10_weak_5 : decode cX10_weak 5 = .ok (.istore_n 2, 1) := by decide +kernel
theorem dX10_weak_6 : decode cX10_weak 6 = .ok (.iload_n 2, 1) := by decide +kernel
theorem dX10_weak_7 : decode cX10_weak 7 = .ok (.ifCond .ge 11, 3) := by decide +kernel
theorem dX10_weak_10 : decode cX10_weak 10 = .ok (.new 337, 3) := by decide +kernel
theorem dX10_weak_13 : decode cX10_weak 13 = .ok (.dup, 1) := by decide +kernel
theorem dX10_weak_14 : decode cX10_weak 14 = .ok (.invokespecial 339, 3) := by decide +kernel
theorem dX10_weak_17 : decode cX10_weak 17 = .ok (.athrow, 1) := by decide +kernel
theorem dX10_weak_18 : decode cX10_weak 18 = .ok (.iload_n 2, 1) := by decide +kernel
theorem dX10_weak_19 : decode cX10_weak 19 = .ok (.ireturn, 1) := by decide +kernel
theorem dX10_size_0 : decode cX10_size 0 = .ok (.iload_n 1, 1) := by decide +kernel
theorem dX10_size_1 : decode cX10_size 1 = .ok (.ifCond .ne 11, 3) := by decide +kernel
theorem dX10_size_4 : decode cX10_size 4 = .ok (.aload_n 0, 1) := by decide +kernel
theorem dX10_size_5 : decode cX10_size 5 = .ok (.getfield 10, 3) := by decide +kernel
theorem dX10_size_8 : decode cX10_size 8 = .ok (.getfield 122, 3) := by decide +kernel
theorem dX10_size_11 : decode cX10_size 11 = .ok (.ireturn, 1) := by decide +kernel
theorem dX10_size_12 : decode cX10_size 12 = .ok (.iload_n 1, 1) := by decide +kernel
theorem dX10_size_13 : decode cX10_size 13 = .ok (.iconst 1, 1) := by decide +kernel
theorem dX10_size_14 : decode cX10_size 14 = .ok (.if_icmp .ne 10, 3) := by decide +kernel
theorem dX10_size_17 : decode cX10_size 17 = .ok (.aload_n 0, 1) := by decide +kernel
theorem dX10_size_18 : decode cX10_size 18 = .ok (.getfield 101, 3) := by decide +kernel
theorem dX10_size_21 : decode cX10_size 21 = .ok (.goto 4, 3) := by decide +kernel
theorem dX10_size_24 : decode cX10_size 24 = .ok (.iconst (-1), 1) := by decide +kernel
theorem dX10_size_25 : decode cX10_size 25 = .ok (.ireturn, 1) := by decide +kernel
theorem dX10_trouble_0 : decode cX10_trouble 0 = .ok (.aload_n 0, 1) := by decide +kernel
theorem dX10_trouble_1 : decode cX10_trouble 1 = .ok (.getfield 108, 3) := by decide +kernel
theorem dX10_trouble_4 : decode cX10_trouble 4 = .ok (.ireturn, 1) := by decide +kernel
theorem dX10_refuse_0 : decode cX10_refuse 0 = .ok (.aload_n 0, 1) := by decide +kernel
theorem dX10_refuse_1 : decode cX10_refuse 1 = .ok (.iload_n 1, 1) := by decide +kernel
theorem dX10_refuse_2 : decode cX10_refuse 2 = .ok (.putfield 108, 3) := by decide +kernel
theorem dX10_refuse_5 : decode cX10_refuse 5 = .ok (.iconst (-1), 1) := by decide +kernel
theorem dX10_refuse_6 : decode cX10_refuse 6 = .ok (.ireturn, 1) := by decide +kernel
theorem dX10_answer_0 : decode cX10_answer 0 = .ok (.aload_n 0, 1) := by decide +kernel
theorem dX10_answer_1 : decode cX10_answer 1 = .ok (.iconst 0, 1) := by decide +kernel
theorem dX10_answer_2 : decode cX10_answer 2 = .ok (.putfield 108, 3) := by decide +kernel
theorem dX10_answer_5 : decode cX10_answer 5 = .ok (.iload_n 1, 1) := by decide +kernel
theorem dX10_answer_6 : decode cX10_answer 6 = .ok (.ireturn, 1) := by decide +kernel
theorem dX10_has_0 : decode cX10_has 0 = .ok (.aload_n 0, 1) := by decide +kernel
theorem dX10_has_1 : decode cX10_has 1 = .ok (.getfield 97, 3) := by decide +kernel
theorem dX10_has_4 : decode cX10_has 4 = .ok (.ifCond .eq 22, 3) := by decide +kernel
theorem dX10_has_7 : decode cX10_has 7 = .ok (.iload_n 1, 1) := by decide +kernel
theorem dX10_has_8 : decode cX10_has 8 = .ok (.ifCond .lt 18, 3) := by decide +kernel
theorem dX10_has_11 : decode cX10_has 11 = .ok (.iload_n 1, 1) := by decide +kernel
theorem dX10_has_12 : decode cX10_has 12 = .ok (.aload_n 0, 1) := by decide +kernel
theorem dX10_has_13 : decode cX10_has 13 = .ok (.getfield 90, 3) := by decide +kernel
theorem dX10_has_16 : decode cX10_has 16 = .ok (.getfield 145, 3) := by decide +kernel
theorem dX10_has_19 : decode cX10_has 19 = .ok (.if_icmp .ge 7, 3) := by decide +kernel
theorem dX10_has_22 : decode cX10_has 22 = .ok (.iconst 1, 1) := by decide +kernel
theorem dX10_has_23 : decode cX10_has 23 = .ok (.goto 4, 3) := by decide +kernel
theorem dX10_has_26 : decode cX10_has 26 = .ok (.iconst 0, 1) := by decide +kernel
theorem dX10_has_27 : decode cX10_has 27 = .ok (.ireturn, 1) := by decide +kernel
theorem dX10_isPower_0 : decode cX10_isPower 0 = .ok (.iload_n 0, 1) := by decide +kernel
theorem dX10_isPower_1 : decode cX10_isPower 1 = .ok (.ifCond .lt 13, 3) := by decide +kernel
theorem dX10_isPower_4 : decode cX10_isPower 4 = .ok (.iload_n 0, 1) := by decide +kernel
theorem dX10_isPower_5 : decode cX10_isPower 5 = .ok (.bipush 40, 2) := by decide +kernel
theorem dX10_isPower_7 : decode cX10_isPower 7 = .ok (.if_icmp .gt 7, 3) := by decide +kernel
theorem dX10_isPower_10 : decode cX10_isPower 10 = .ok (.iconst 1, 1) := by decide +kernel
theorem dX10_isPower_11 : decode cX10_isPower 11 = .ok (.goto 4, 3) := by decide +kernel
theorem dX10_isPower_14 : decode cX10_isPower 14 = .ok (.iconst 0, 1) := by decide +kernel
theorem dX10_isPower_15 : decode cX10_isPower 15 = .ok (.ireturn, 1) := by decide +kernel
theorem dX10_isFull_0 : decode cX10_isFull 0 = .ok (.aload_n 0, 1) := by decide +kernel
theorem dX10_isFull_1 : decode cX10_isFull 1 = .ok (.getfield 25, 3) := by decide +kernel
theorem dX10_isFull_4 : decode cX10_isFull 4 = .ok (.iconst 2, 1) := by decide +kernel
theorem dX10_isFull_5 : decode cX10_isFull 5 = .ok (.iload_n 1, 1) := by decide +kernel
theorem dX10_isFull_6 : decode cX10_isFull 6 = .ok (.iadd, 1) := by decide +kernel
theorem dX10_isFull_7 : decode cX10_isFull 7 = .ok (.invokestatic 154, 3) := by decide +kernel
theorem dX10_isFull_10 : decode cX10_isFull 10 = .ok (.aload_n 0, 1) := by decide +kernel
theorem dX10_isFull_11 : decode cX10_isFull 11 = .ok (.getfield 90, 3) := by decide +kernel
theorem dX10_isFull_14 : decode cX10_isFull 14 = .ok (.iload_n 1, 1) := by decide +kernel
theorem dX10_isFull_15 : decode cX10_isFull 15 = .ok (.iconst 3, 1) := by decide +kernel
theorem dX10_isFull_16 : decode cX10_isFull 16 = .ok (.invokevirtual 177, 3) := by decide +kernel
theorem dX10_isFull_19 : decode cX10_isFull 19 = .ok (.if_icmp .lt 7, 3) := by decide +kernel
theorem dX10_isFull_22 : decode cX10_isFull 22 = .ok (.iconst 1, 1) := by decide +kernel
theorem dX10_isFull_23 : decode cX10_isFull 23 = .ok (.goto 4, 3) := by decide +kernel
theorem dX10_isFull_26 : decode cX10_isFull 26 = .ok (.iconst 0, 1) := by decide +kernel
theorem dX10_isFull_27 : decode cX10_isFull 27 = .ok (.ireturn, 1) := by decide +kernel
theorem dX10_layFirst_0 : decode cX10_layFirst 0 = .ok (.aload_n 0, 1) := by decide +kernel
theorem dX10_layFirst_1 : decode cX10_layFirst 1 = .ok (.dup, 1) := by decide +kernel
theorem dX10_layFirst_2 : decode cX10_layFirst 2 = .ok (.getfield 105, 3) := by decide +kernel
theorem dX10_layFirst_5 : decode cX10_layFirst 5 = .ok (.iconst 1, 1) := by decide +kernel
theorem dX10_layFirst_6 : decode cX10_layFirst 6 = .ok (.iadd, 1) := by decide +kernel
theorem dX10_layFirst_7 : decode cX10_layFirst 7 = .ok (.putfield 105, 3) := by decide +kernel
theorem dX10_layFirst_10 : decode cX10_layFirst 10 = .ok (.aload_n 0, 1) := by decide +kernel
theorem dX10_layFirst_11 : decode cX10_layFirst 11 = .ok (.getfield 25, 3) := by decide +kernel
theorem dX10_layFirst_14 : decode cX10_layFirst 14 = .ok (.iconst 0, 1) := by decide +kernel
theorem dX10_layFirst_15 : decode cX10_layFirst 15 = .ok (.aload_n 0, 1) := by decide +kernel
theorem dX10_layFirst_16 : decode cX10_layFirst 16 = .ok (.getfield 90, 3) := by decide +kernel
theorem dX10_layFirst_19 : decode cX10_layFirst 19 = .ok (.getfield 340, 3) := by decide +kernel
theorem dX10_layFirst_22 : decode cX10_layFirst 22 = .ok (.invokestatic 327, 3) := by decide +kernel
theorem dX10_layFirst_25 : decode cX10_layFirst 25 = .ok (.aload_n 0, 1) := by decide +kernel
theorem dX10_layFirst_26 : decode cX10_layFirst 26 = .ok (.getfield 25, 3) := by decide +kernel
theorem dX10_layFirst_29 : decode cX10_layFirst 29 = .ok (.iconst 1, 1) := by decide +kernel
theorem dX10_layFirst_30 : decode cX10_layFirst 30 = .ok (.aload_n 0, 1) := by decide +kernel
theorem dX10_layFirst_31 : decode cX10_layFirst 31 = .ok (.getfield 90, 3) := by decide +kernel
theorem dX10_layFirst_34 : decode cX10_layFirst 34 = .ok (.getfield 343, 3) := by decide +kernel
theorem dX10_layFirst_37 : decode cX10_layFirst 37 = .ok (.invokestatic 327, 3) := by decide +kernel
theorem dX10_layFirst_40 : decode cX10_layFirst 40 = .ok (.iconst 0, 1) := by decide +kernel
theorem dX10_layFirst_41 : decode cX10_layFirst 41 = .ok (.istore_n 1, 1) := by decide +kernel
theorem dX10_layFirst_42 : decode cX10_layFirst 42 = .ok (.iload_n 1, 1) := by decide +kernel
theorem dX10_layFirst_43 : decode cX10_layFirst 43 = .ok (.iconst 3, 1) := by decide +kernel
theorem dX10_layFirst_44 : decode cX10_layFirst 44 = .ok (.if_icmp .ge 68, 3) := by decide +kernel
theorem dX10_layFirst_47 : decode cX10_layFirst 47 = .ok (.iload_n 1, 1) := by decide +kernel
theorem dX10_layFirst_48 : decode cX10_layFirst 48 = .ok (.aload_n 0, 1) := by decide +kernel
theorem dX10_layFirst_49 : decode cX10_layFirst 49 = .ok (.getfield 90, 3) := by decide +kernel
theorem dX10_layFirst_52 : decode cX10_layFirst 52 = .ok (.getfield 145, 3) := by decide +kernel
theorem dX10_layFirst_55 : decode cX10_layFirst 55 = .ok (.if_icmp .ge 15, 3) := by decide +kernel
theorem dX10_layFirst_58 : decode cX10_layFirst 58 = .ok (.aload_n 0, 1) := by decide +kernel
theorem dX10_layFirst_59 : decode cX10_layFirst 59 = .ok (.getfield 90, 3) := by decide +kernel
theorem dX10_layFirst_62 : decode cX10_layFirst 62 = .ok (.iload_n 1, 1) := by decide +kernel
theorem dX10_layFirst_63 : decode cX10_layFirst 63 = .ok (.iconst 3, 1) := by decide +kernel
theorem dX10_layFirst_64 : decode cX10_layFirst 64 = .ok (.invokevirtual 177, 3) := by decide +kernel
theorem dX10_layFirst_67 : decode cX10_layFirst 67 = .ok (.goto 4, 3) := by decide +kernel
theorem dX10_layFirst_70 : decode cX10_layFirst 70 = .ok (.iconst 0, 1) := by decide +kernel
theorem dX10_layFirst_71 : decode cX10_layFirst 71 = .ok (.istore_n 2, 1) := by decide +kernel
theorem dX10_layFirst_72 : decode cX10_layFirst 72 = .ok (.aload_n 0, 1) := by decide +kernel
theorem dX10_layFirst_73 : decode cX10_layFirst 73 = .ok (.getfield 25, 3) := by decide +kernel
theorem dX10_layFirst_76 : decode cX10_layFirst 76 = .ok (.iconst 2, 1) := by decide +kernel
theorem dX10_layFirst_77 : decode cX10_layFirst 77 = .ok (.iload_n 1, 1) := by decide +kernel
theorem dX10_layFirst_78 : decode cX10_layFirst 78 = .ok (.iadd, 1) := by decide +kernel
theorem dX10_layFirst_79 : decode cX10_layFirst 79 = .ok (.iload_n 2, 1) := by decide +kernel
theorem dX10_layFirst_80 : decode cX10_layFirst 80 = .ok (.invokestatic 327, 3) := by decide +kernel
theorem dX10_layFirst_83 : decode cX10_layFirst 83 = .ok (.aload_n 0, 1) := by decide +kernel
theorem dX10_layFirst_84 : decode cX10_layFirst 84 = .ok (.getfield 25, 3) := by decide +kernel
theorem dX10_layFirst_87 : decode cX10_layFirst 87 = .ok (.iconst 5, 1) := by decide +kernel
theorem dX10_layFirst_88 : decode cX10_layFirst 88 = .ok (.iload_n 1, 1) := by decide +kernel
theorem dX10_layFirst_89 : decode cX10_layFirst 89 = .ok (.iadd, 1) := by decide +kernel
theorem dX10_layFirst_90 : decode cX10_layFirst 90 = .ok (.iconst 0, 1) := by decide +kernel
theorem dX10_layFirst_91 : decode cX10_layFirst 91 = .ok (.invokestatic 327, 3) := by decide +kernel
theorem dX10_layFirst_94 : decode cX10_layFirst 94 = .ok (.aload_n 0, 1) := by decide +kernel
theorem dX10_layFirst_95 : decode cX10_layFirst 95 = .ok (.getfield 25, 3) := by decide +kernel
theorem dX10_layFirst_98 : decode cX10_layFirst 98 = .ok (.bipush 8, 2) := by decide +kernel
theorem dX10_layFirst_100 : decode cX10_layFirst 100 = .ok (.iload_n 1, 1) := by decide +kernel
theorem dX10_layFirst_101 : decode cX10_layFirst 101 = .ok (.iadd, 1) := by decide +kernel
theorem dX10_layFirst_102 : decode cX10_layFirst 102 = .ok (.iload_n 2, 1) := by decide +kernel
theorem dX10_layFirst_103 : decode cX10_layFirst 103 = .ok (.invokestatic 327, 3) := by decide +kernel
theorem dX10_layFirst_106 : decode cX10_layFirst 106 = .ok (.iinc 1 1, 3) := by decide +kernel
theorem dX10_layFirst_109 : decode cX10_layFirst 109 = .ok (.goto (-67), 3) := by decide +kernel
theorem dX10_layFirst_112 : decode cX10_layFirst 112 = .ok (.return_, 1) := by decide +kernel
theorem dX10_keep_0 : decode cX10_keep 0 = .ok (.aload_n 0, 1) := by decide +kernel
theorem dX10_keep_1 : decode cX10_keep 1 = .ok (.getfield 101, 3) := by decide +kernel
theorem dX10_keep_4 : decode cX10_keep 4 = .ok (.bipush 10, 2) := by decide +kernel
theorem dX10_keep_6 : decode cX10_keep 6 = .ok (.if_icmp .lt 42, 3) := by decide +kernel
theorem dX10_keep_9 : decode cX10_keep 9 = .ok (.iconst 0, 1) := by decide +kernel
theorem dX10_keep_10 : decode cX10_keep 10 = .ok (.istore_n 1, 1) := by decide +kernel
theorem dX10_keep_11 : decode cX10_keep 11 = .ok (.iload_n 1, 1) := by decide +kernel
theorem dX10_keep_12 : decode cX10_keep 12 = .ok (.bipush 99, 2) := by decide +kernel
theorem dX10_keep_14 : decode cX10_keep 14 = .ok (.if_icmp .ge 28, 3) := by decide +kernel
theorem dX10_keep_17 : decode cX10_keep 17 = .ok (.aload_n 0, 1) := by decide +kernel
theorem dX10_keep_18 : decode cX10_keep 18 = .ok (.getfield 29, 3) := by decide +kernel
theorem dX10_keep_21 : decode cX10_keep 21 = .ok (.iload_n 1, 1) := by decide +kernel
theorem dX10_keep_22 : decode cX10_keep 22 = .ok (.aload_n 0, 1) := by decide +kernel
theorem dX10_keep_23 : decode cX10_keep 23 = .ok (.getfield 29, 3) := by decide +kernel
theorem dX10_keep_26 : decode cX10_keep 26 = .ok (.iload_n 1, 1) := by decide +kernel
theorem dX10_keep_27 : decode cX10_keep 27 = .ok (.bipush 11, 2) := by decide +kernel
theorem dX10_keep_29 : decode cX10_keep 29 = .ok (.iadd, 1) := by decide +kernel
theorem dX10_keep_30 : decode cX10_keep 30 = .ok (.invokestatic 154, 3) := by decide +kernel
theorem dX10_keep_33 : decode cX10_keep 33 = .ok (.invokestatic 327, 3) := by decide +kernel
theorem dX10_keep_36 : decode cX10_keep 36 = .ok (.iinc 1 1, 3) := by decide +kernel
theorem dX10_keep_39 : decode cX10_keep 39 = .ok (.goto (-28), 3) := by decide +kernel
theorem dX10_keep_42 : decode cX10_keep 42 = .ok (.aload_n 0, 1) := by decide +kernel
theorem dX10_keep_43 : decode cX10_keep 43 = .ok (.bipush 9, 2) := by decide +kernel
theorem dX10_keep_45 : decode cX10_keep 45 = .ok (.putfield 101, 3) := by decide +kernel
theorem dX10_keep_48 : decode cX10_keep 48 = .ok (.iconst 0, 1) := by decide +kernel
theorem dX10_keep_49 : decode cX10_keep 49 = .ok (.istore_n 1, 1) := by decide +kernel
theorem dX10_keep_50 : decode cX10_keep 50 = .ok (.iload_n 1, 1) := by decide +kernel
theorem dX10_keep_51 : decode cX10_keep 51 = .ok (.bipush 11, 2) := by decide +kernel
theorem dX10_keep_53 : decode cX10_keep 53 = .ok (.if_icmp .ge 33, 3) := by decide +kernel
theorem dX10_keep_56 : decode cX10_keep 56 = .ok (.aload_n 0, 1) := by decide +kernel
theorem dX10_keep_57 : decode cX10_keep 57 = .ok (.getfield 29, 3) := by decide +kernel
theorem dX10_keep_60 : decode cX10_keep 60 = .ok (.aload_n 0, 1) := by decide +kernel
theorem dX10_keep_61 : decode cX10_keep 61 = .ok (.getfield 101, 3) := by decide +kernel
theorem dX10_keep_64 : decode cX10_keep 64 = .ok (.bipush 11, 2) := by decide +kernel
theorem dX10_keep_66 : decode cX10_keep 66 = .ok (.imul, 1) := by decide +kernel
theorem dX10_keep_67 : decode cX10_keep 67 = .ok (.iload_n 1, 1) := by decide +kernel
theorem dX10_keep_68 : decode cX10_keep 68 = .ok (.iadd, 1) := by decide +kernel
theorem dX10_keep_69 : decode cX10_keep 69 = .ok (.aload_n 0, 1) := by decide +kernel
theorem dX10_keep_70 : decode cX10_keep 70 = .ok (.getfield 25, 3) := by decide +kernel
theorem dX10_keep_73 : decode cX10_keep 73 = .ok (.iload_n 1, 1) := by decide +kernel
theorem dX10_keep_74 : decode cX10_keep 74 = .ok (.invokestatic 154, 3) := by decide +kernel
theorem dX10_keep_77 : decode cX10_keep 77 = .ok (.invokestatic 327, 3) := by decide +kernel
theorem dX10_keep_80 : decode cX10_keep 80 = .ok (.iinc 1 1, 3) := by decide +kernel
theorem dX10_keep_83 : decode cX10_keep 83 = .ok (.goto (-33), 3) := by decide +kernel
theorem dX10_keep_86 : decode cX10_keep 86 = .ok (.aload_n 0, 1) := by decide +kernel
theorem dX10_keep_87 : decode cX10_keep 87 = .ok (.dup, 1) := by decide +kernel
theorem dX10_keep_88 : decode cX10_keep 88 = .ok (.getfield 101, 3) := by decide +kernel
theorem dX10_keep_91 : decode cX10_keep 91 = .ok (.iconst 1, 1) := by decide +kernel
theorem dX10_keep_92 : decode cX10_keep 92 = .ok (.iadd, 1) := by decide +kernel
theorem dX10_keep_93 : decode cX10_keep 93 = .ok (.putfield 101, 3) := by decide +kernel
theorem dX10_keep_96 : decode cX10_keep 96 = .ok (.aload_n 0, 1) := by decide +kernel
theorem dX10_keep_97 : decode cX10_keep 97 = .ok (.dup, 1) := by decide +kernel
theorem dX10_keep_98 : decode cX10_keep 98 = .ok (.getfield 105, 3) := by decide +kernel
theorem dX10_keep_101 : decode cX10_keep 101 = .ok (.iconst 1, 1) := by decide +kernel
theorem dX10_keep_102 : decode cX10_keep 102 = .ok (.iadd, 1) := by decide +kernel
theorem dX10_keep_103 : decode cX10_keep 103 = .ok (.putfield 105, 3) := by decide +kernel
theorem dX10_keep_106 : decode cX10_keep 106 = .ok (.return_, 1) := by decide +kernel
theorem dX10_change_0 : decode cX10_change 0 = .ok (.aload_n 0, 1) := by decide +kernel
theorem dX10_change_1 : decode cX10_change 1 = .ok (.getfield 25, 3) := by decide +kernel
theorem dX10_change_4 : decode cX10_change 4 = .ok (.iload_n 1, 1) := by decide +kernel
theorem dX10_change_5 : decode cX10_change 5 = .ok (.invokestatic 154, 3) := by decide +kernel
theorem dX10_change_8 : decode cX10_change 8 = .ok (.istore_n 3, 1) := by decide +kernel
theorem dX10_change_9 : decode cX10_change 9 = .ok (.aload_n 0, 1) := by decide +kernel
theorem dX10_change_10 : decode cX10_change 10 = .ok (.invokevirtual 324, 3) := by decide +kernel
theorem dX10_change_13 : decode cX10_change 13 = .ok (.aload_n 0, 1) := by decide +kernel
theorem dX10_change_14 : decode cX10_change 14 = .ok (.getfield 25, 3) := by decide +kernel
theorem dX10_change_17 : decode cX10_change 17 = .ok (.iload_n 1, 1) := by decide +kernel
theorem dX10_change_18 : decode cX10_change 18 = .ok (.iload_n 2, 1) := by decide +kernel
theorem dX10_change_19 : decode cX10_change 19 = .ok (.invokestatic 327, 3) := by decide +kernel
theorem dX10_change_22 : decode cX10_change 22 = .ok (.iload_n 3, 1) := by decide +kernel
theorem dX10_change_23 : decode cX10_change 23 = .ok (.ireturn, 1) := by decide +kernel
theorem dX10_layUnits_0 : decode cX10_layUnits 0 = .ok (.iconst 0, 1) := by decide +kernel
theorem dX10_layUnits_1 : decode cX10_layUnits 1 = .ok (.istore_n 1, 1) := by decide +kernel
theorem dX10_layUnits_2 : decode cX10_layUnits 2 = .ok (.iload_n 1, 1) := by decide +kernel
theorem dX10_layUnits_3 : decode cX10_layUnits 3 = .ok (.iconst 3, 1) := by decide +kernel
theorem dX10_layUnits_4 : decode cX10_layUnits 4 = .ok (.if_icmp .ge 30, 3) := by decide +kernel
theorem dX10_layUnits_7 : decode cX10_layUnits 7 = .ok (.aload_n 0, 1) := by decide +kernel
theorem dX10_layUnits_8 : decode cX10_layUnits 8 = .ok (.getfield 35, 3) := by decide +kernel
theorem dX10_layUnits_11 : decode cX10_layUnits 11 = .ok (.getfield 183, 3) := by decide +kernel
theorem dX10_layUnits_14 : decode cX10_layUnits 14 = .ok (.iload_n 1, 1) := by decide +kernel
theorem dX10_layUnits_15 : decode cX10_layUnits 15 = .ok (.aload_n 0, 1) := by decide +kernel
theorem dX10_layUnits_16 : decode cX10_layUnits 16 = .ok (.getfield 25, 3) := by decide +kernel
theorem dX10_layUnits_19 : decode cX10_layUnits 19 = .ok (.iconst 2, 1) := by decide +kernel
theorem dX10_layUnits_20 : decode cX10_layUnits 20 = .ok (.iload_n 1, 1) := by decide +kernel
theorem dX10_layUnits_21 : decode cX10_layUnits 21 = .ok (.iadd, 1) := by decide +kernel
theorem dX10_layUnits_22 : decode cX10_layUnits 22 = .ok (.invokestatic 154, 3) := by decide +kernel
theorem dX10_layUnits_25 : decode cX10_layUnits 25 = .ok (.invokestatic 327, 3) := by decide +kernel
theorem dX10_layUnits_28 : decode cX10_layUnits 28 = .ok (.iinc 1 1, 3) := by decide +kernel
theorem dX10_layUnits_31 : decode cX10_layUnits 31 = .ok (.goto (-29), 3) := by decide +kernel
theorem dX10_layUnits_34 : decode cX10_layUnits 34 = .ok (.return_, 1) := by decide +kernel
theorem dX10_weighAsItIs_0 : decode cX10_weighAsItIs 0 = .ok (.aload_n 0, 1) := by decide +kernel
theorem dX10_weighAsItIs_1 : decode cX10_weighAsItIs 1 = .ok (.invokevirtual 346, 3) := by decide +kernel
theorem dX10_weighAsItIs_4 : decode cX10_weighAsItIs 4 = .ok (.aload_n 0, 1) := by decide +kernel
theorem dX10_weighAsItIs_5 : decode cX10_weighAsItIs 5 = .ok (.getfield 35, 3) := by decide +kernel
theorem dX10_weighAsItIs_8 : decode cX10_weighAsItIs 8 = .ok (.aload_n 0, 1) := by decide +kernel
theorem dX10_weighAsItIs_9 : decode cX10_weighAsItIs 9 = .ok (.getfield 90, 3) := by decide +kernel
theorem dX10_weighAsItIs_12 : decode cX10_weighAsItIs 12 = .ok (.aload_n 0, 1) := by decide +kernel
theorem dX10_weighAsItIs_13 : decode cX10_weighAsItIs 13 = .ok (.getfield 25, 3) := by decide +kernel
theorem dX10_weighAsItIs_16 : decode cX10_weighAsItIs 16 = .ok (.iconst 0, 1) := by decide +kernel
theorem dX10_weighAsItIs_17 : decode cX10_weighAsItIs 17 = .ok (.invokestatic 154, 3) := by decide +kernel
theorem dX10_weighAsItIs_20 : decode cX10_weighAsItIs 20 = .ok (.invokevirtual 349, 3) := by decide +kernel
theorem dX10_weighAsItIs_23 : decode cX10_weighAsItIs 23 = .ok (.return_, 1) := by decide +kernel
theorem dX10_weighWithOneMore_0 : decode cX10_weighWithOneMore 0 = .ok (.aload_n 0, 1) := by decide +kernel
theorem dX10_weighWithOneMore_1 : decode cX10_weighWithOneMore 1 = .ok (.invokevirtual 346, 3) := by decide +kernel
theorem dX10_weighWithOneMore_4 : decode cX10_weighWithOneMore 4 = .ok (.aload_n 0, 1) := by decide +kernel
theorem dX10_weighWithOneMore_5 : decode cX10_weighWithOneMore 5 = .ok (.getfield 35, 3) := by decide +kernel
theorem dX10_weighWithOneMore_8 : decode cX10_weighWithOneMore 8 = .ok (.getfield 183, 3) := by decide +kernel
theorem dX10_weighWithOneMore_11 : decode cX10_weighWithOneMore 11 = .ok (.iload_n 1, 1) := by decide +kernel
theorem dX10_weighWithOneMore_12 : decode cX10_weighWithOneMore 12 = .ok (.aload_n 0, 1) := by decide +kernel
theorem dX10_weighWithOneMore_13 : decode cX10_weighWithOneMore 13 = .ok (.getfield 25, 3) := by decide +kernel
theorem dX10_weighWithOneMore_16 : decode cX10_weighWithOneMore 16 = .ok (.iconst 2, 1) := by decide +kernel
theorem dX10_weighWithOneMore_17 : decode cX10_weighWithOneMore 17 = .ok (.iload_n 1, 1) := by decide +kernel
theorem dX10_weighWithOneMore_18 : decode cX10_weighWithOneMore 18 = .ok (.iadd, 1) := by decide +kernel
theorem dX10_weighWithOneMore_19 : decode cX10_weighWithOneMore 19 = .ok (.invokestatic 154, 3) := by decide +kernel
theorem dX10_weighWithOneMore_22 : decode cX10_weighWithOneMore 22 = .ok (.iconst 1, 1) := by decide +kernel
theorem dX10_weighWithOneMore_23 : decode cX10_weighWithOneMore 23 = .ok (.iadd, 1) := by decide +kernel
theorem dX10_weighWithOneMore_24 : decode cX10_weighWithOneMore 24 = .ok (.invokestatic 327, 3) := by decide +kernel
theorem dX10_weighWithOneMore_27 : decode cX10_weighWithOneMore 27 = .ok (.aload_n 0, 1) := by decide +kernel
theorem dX10_weighWithOneMore_28 : decode cX10_weighWithOneMore 28 = .ok (.getfield 35, 3) := by decide +kernel
theorem dX10_weighWithOneMore_31 : decode cX10_weighWithOneMore 31 = .ok (.aload_n 0, 1) := by decide +kernel
theorem dX10_weighWithOneMore_32 : decode cX10_weighWithOneMore 32 = .ok (.getfield 90, 3) := by decide +kernel
theorem dX10_weighWithOneMore_35 : decode cX10_weighWithOneMore 35 = .ok (.aload_n 0, 1) := by decide +kernel
theorem dX10_weighWithOneMore_36 : decode cX10_weighWithOneMore 36 = .ok (.getfield 25, 3) := by decide +kernel
theorem dX10_weighWithOneMore_39 : decode cX10_weighWithOneMore 39 = .ok (.iconst 0, 1) := by decide +kernel
theorem dX10_weighWithOneMore_40 : decode cX10_weighWithOneMore 40 = .ok (.invokestatic 154, 3) := by decide +kernel
theorem dX10_weighWithOneMore_43 : decode cX10_weighWithOneMore 43 = .ok (.invokevirtual 349, 3) := by decide +kernel
theorem dX10_weighWithOneMore_46 : decode cX10_weighWithOneMore 46 = .ok (.return_, 1) := by decide +kernel
theorem dX10_powerAsItIs_0 : decode cX10_powerAsItIs 0 = .ok (.aload_n 0, 1) := by decide +kernel
theorem dX10_powerAsItIs_1 : decode cX10_powerAsItIs 1 = .ok (.invokevirtual 180, 3) := by decide +kernel
theorem dX10_powerAsItIs_4 : decode cX10_powerAsItIs 4 = .ok (.aload_n 0, 1) := by decide +kernel
theorem dX10_powerAsItIs_5 : decode cX10_powerAsItIs 5 = .ok (.getfield 35, 3) := by decide +kernel
theorem dX10_powerAsItIs_8 : decode cX10_powerAsItIs 8 = .ok (.aload_n 0, 1) := by decide +kernel
theorem dX10_powerAsItIs_9 : decode cX10_powerAsItIs 9 = .ok (.getfield 90, 3) := by decide +kernel
theorem dX10_powerAsItIs_12 : decode cX10_powerAsItIs 12 = .ok (.aload_n 0, 1) := by decide +kernel
theorem dX10_powerAsItIs_13 : decode cX10_powerAsItIs 13 = .ok (.getfield 45, 3) := by decide +kernel
theorem dX10_powerAsItIs_16 : decode cX10_powerAsItIs 16 = .ok (.invokevirtual 210, 3) := by decide +kernel
theorem dX10_powerAsItIs_19 : decode cX10_powerAsItIs 19 = .ok (.aload_n 0, 1) := by decide +kernel
theorem dX10_powerAsItIs_20 : decode cX10_powerAsItIs 20 = .ok (.getfield 55, 3) := by decide +kernel
theorem dX10_powerAsItIs_23 : decode cX10_powerAsItIs 23 = .ok (.aload_n 0, 1) := by decide +kernel
theorem dX10_powerAsItIs_24 : decode cX10_powerAsItIs 24 = .ok (.getfield 45, 3) := by decide +kernel
theorem dX10_powerAsItIs_27 : decode cX10_powerAsItIs 27 = .ok (.aload_n 0, 1) := by decide +kernel
theorem dX10_powerAsItIs_28 : decode cX10_powerAsItIs 28 = .ok (.getfield 90, 3) := by decide +kernel
theorem dX10_powerAsItIs_31 : decode cX10_powerAsItIs 31 = .ok (.getfield 158, 3) := by decide +kernel
theorem dX10_powerAsItIs_34 : decode cX10_powerAsItIs 34 = .ok (.aload_n 0, 1) := by decide +kernel
theorem dX10_powerAsItIs_35 : decode cX10_powerAsItIs 35 = .ok (.getfield 90, 3) := by decide +kernel
theorem dX10_powerAsItIs_38 : decode cX10_powerAsItIs 38 = .ok (.getfield 161, 3) := by decide +kernel
theorem dX10_powerAsItIs_41 : decode cX10_powerAsItIs 41 = .ok (.invokevirtual 353, 3) := by decide +kernel
theorem dX10_powerAsItIs_44 : decode cX10_powerAsItIs 44 = .ok (.ireturn, 1) := by decide +kernel
theorem dX10_flyAsItIs_0 : decode cX10_flyAsItIs 0 = .ok (.aload_n 0, 1) := by decide +kernel
theorem dX10_flyAsItIs_1 : decode cX10_flyAsItIs 1 = .ok (.invokevirtual 180, 3) := by decide +kernel
theorem dX10_flyAsItIs_4 : decode cX10_flyAsItIs 4 = .ok (.aload_n 0, 1) := by decide +kernel
theorem dX10_flyAsItIs_5 : decode cX10_flyAsItIs 5 = .ok (.getfield 80, 3) := by decide +kernel
theorem dX10_flyAsItIs_8 : decode cX10_flyAsItIs 8 = .ok (.aload_n 0, 1) := by decide +kernel
theorem dX10_flyAsItIs_9 : decode cX10_flyAsItIs 9 = .ok (.getfield 90, 3) := by decide +kernel
theorem dX10_flyAsItIs_12 : decode cX10_flyAsItIs 12 = .ok (.aload_n 0, 1) := by decide +kernel
theorem dX10_flyAsItIs_13 : decode cX10_flyAsItIs 13 = .ok (.getfield 35, 3) := by decide +kernel
theorem dX10_flyAsItIs_16 : decode cX10_flyAsItIs 16 = .ok (.iconst (-1), 1) := by decide +kernel
theorem dX10_flyAsItIs_17 : decode cX10_flyAsItIs 17 = .ok (.iconst 0, 1) := by decide +kernel
theorem dX10_flyAsItIs_18 : decode cX10_flyAsItIs 18 = .ok (.invokevirtual 356, 3) := by decide +kernel
theorem dX10_flyAsItIs_21 : decode cX10_flyAsItIs 21 = .ok (.return_, 1) := by decide +kernel
theorem dX10_powerFlown_0 : decode cX10_powerFlown 0 = .ok (.aload_n 0, 1) := by decide +kernel
theorem dX10_powerFlown_1 : decode cX10_powerFlown 1 = .ok (.getfield 55, 3) := by decide +kernel
theorem dX10_powerFlown_4 : decode cX10_powerFlown 4 = .ok (.aload_n 1, 1) := by decide +kernel
theorem dX10_powerFlown_5 : decode cX10_powerFlown 5 = .ok (.getfield 321, 3) := by decide +kernel
theorem dX10_powerFlown_8 : decode cX10_powerFlown 8 = .ok (.aload_n 0, 1) := by decide +kernel
theorem dX10_powerFlown_9 : decode cX10_powerFlown 9 = .ok (.getfield 90, 3) := by decide +kernel
theorem dX10_powerFlown_12 : decode cX10_powerFlown 12 = .ok (.getfield 158, 3) := by decide +kernel
theorem dX10_powerFlown_15 : decode cX10_powerFlown 15 = .ok (.aload_n 0, 1) := by decide +kernel
theorem dX10_powerFlown_16 : decode cX10_powerFlown 16 = .ok (.getfield 90, 3) := by decide +kernel
theorem dX10_powerFlown_19 : decode cX10_powerFlown 19 = .ok (.getfield 161, 3) := by decide +kernel
theorem dX10_powerFlown_22 : decode cX10_powerFlown 22 = .ok (.invokevirtual 353, 3) := by decide +kernel
theorem dX10_powerFlown_25 : decode cX10_powerFlown 25 = .ok (.ireturn, 1) := by decide +kernel
theorem dX10_powerAtRisk_0 : decode cX10_powerAtRisk 0 = .ok (.aload_n 0, 1) := by decide +kernel
theorem dX10_powerAtRisk_1 : decode cX10_powerAtRisk 1 = .ok (.getfield 84, 3) := by decide +kernel
theorem dX10_powerAtRisk_4 : decode cX10_powerAtRisk 4 = .ok (.aload_n 0, 1) := by decide +kernel
theorem dX10_powerAtRisk_5 : decode cX10_powerAtRisk 5 = .ok (.getfield 90, 3) := by decide +kernel
theorem dX10_powerAtRisk_8 : decode cX10_powerAtRisk 8 = .ok (.aload_n 0, 1) := by decide +kernel
theorem dX10_powerAtRisk_9 : decode cX10_powerAtRisk 9 = .ok (.getfield 35, 3) := by decide +kernel
theorem dX10_powerAtRisk_12 : decode cX10_powerAtRisk 12 = .ok (.iload_n 1, 1) := by decide +kernel
theorem dX10_powerAtRisk_13 : decode cX10_powerAtRisk 13 = .ok (.iload_n 2, 1) := by decide +kernel
theorem dX10_powerAtRisk_14 : decode cX10_powerAtRisk 14 = .ok (.invokevirtual 356, 3) := by decide +kernel
theorem dX10_powerAtRisk_17 : decode cX10_powerAtRisk 17 = .ok (.aload_n 0, 1) := by decide +kernel
theorem dX10_powerAtRisk_18 : decode cX10_powerAtRisk 18 = .ok (.aload_n 0, 1) := by decide +kernel
theorem dX10_powerAtRisk_19 : decode cX10_powerAtRisk 19 = .ok (.getfield 84, 3) := by decide +kernel
theorem dX10_powerAtRisk_22 : decode cX10_powerAtRisk 22 = .ok (.invokevirtual 296, 3) := by decide +kernel
theorem dX10_powerAtRisk_25 : decode cX10_powerAtRisk 25 = .ok (.ireturn, 1) := by decide +kernel
theorem dX10_weakest_0 : decode cX10_weakest 0 = .ok (.aload_n 0, 1) := by decide +kernel
theorem dX10_weakest_1 : decode cX10_weakest 1 = .ok (.getfield 97, 3) := by decide +kernel
theorem dX10_weakest_4 : decode cX10_weakest 4 = .ok (.ifCond .eq 7, 3) := by decide +kernel
theorem dX10_weakest_7 : decode cX10_weakest 7 = .ok (.iload_n 1, 1) := by decide +kernel
theorem dX10_weakest_8 : decode cX10_weakest 8 = .ok (.ifCond .ge 5, 3) := by decide +kernel
theorem dX10_weakest_11 : decode cX10_weakest 11 = .ok (.iconst (-1), 1) := by decide +kernel
theorem dX10_weakest_12 : decode cX10_weakest 12 = .ok (.ireturn, 1) := by decide +kernel
theorem dX10_weakest_13 : decode cX10_weakest 13 = .ok (.aload_n 0, 1) := by decide +kernel
theorem dX10_weakest_14 : decode cX10_weakest 14 = .ok (.invokevirtual 180, 3) := by decide +kernel
theorem dX10_weakest_17 : decode cX10_weakest 17 = .ok (.iload_n 1, 1) := by decide +kernel
theorem dX10_weakest_18 : decode cX10_weakest 18 = .ok (.istore_n 2, 1) := by decide +kernel
theorem dX10_weakest_19 : decode cX10_weakest 19 = .ok (.iconst 0, 1) := by decide +kernel
theorem dX10_weakest_20 : decode cX10_weakest 20 = .ok (.istore_n 3, 1) := by decide +kernel
theorem dX10_weakest_21 : decode cX10_weakest 21 = .ok (.iload_n 3, 1) := by decide +kernel
theorem dX10_weakest_22 : decode cX10_weakest 22 = .ok (.aload_n 0, 1) := by decide +kernel
theorem dX10_weakest_23 : decode cX10_weakest 23 = .ok (.getfield 90, 3) := by decide +kernel
theorem dX10_weakest_26 : decode cX10_weakest 26 = .ok (.getfield 145, 3) := by decide +kernel
theorem dX10_weakest_29 : decode cX10_weakest 29 = .ok (.if_icmp .ge 33, 3) := by decide +kernel
theorem dX10_weakest_32 : decode cX10_weakest 32 = .ok (.aload_n 0, 1) := by decide +kernel
theorem dX10_weakest_33 : decode cX10_weakest 33 = .ok (.getfield 35, 3) := by decide +kernel
theorem dX10_weakest_36 : decode cX10_weakest 36 = .ok (.aload_n 0, 1) := by decide +kernel
theorem dX10_weakest_37 : decode cX10_weakest 37 = .ok (.getfield 90, 3) := by decide +kernel
theorem dX10_weakest_40 : decode cX10_weakest 40 = .ok (.iload_n 3, 1) := by decide +kernel
theorem dX10_weakest_41 : decode cX10_weakest 41 = .ok (.invokevirtual 192, 3) := by decide +kernel
theorem dX10_weakest_44 : decode cX10_weakest 44 = .ok (.ifCond .ne 12, 3) := by decide +kernel
theorem dX10_weakest_47 : decode cX10_weakest 47 = .ok (.iload_n 2, 1) := by decide +kernel
theorem dX10_weakest_48 : decode cX10_weakest 48 = .ok (.ifCond .ne 5, 3) := by decide +kernel
theorem dX10_weakest_51 : decode cX10_weakest 51 = .ok (.iload_n 3, 1) := by decide +kernel
theorem dX10_weakest_52 : decode cX10_weakest 52 = .ok (.ireturn, 1) := by decide +kernel
theorem dX10_weakest_53 : decode cX10_weakest 53 = .ok (.iinc 2 (-1), 3) := by decide +kernel
theorem dX10_weakest_56 : decode cX10_weakest 56 = .ok (.iinc 3 1, 3) := by decide +kernel
theorem dX10_weakest_59 : decode cX10_weakest 59 = .ok (.goto (-38), 3) := by decide +kernel
theorem dX10_weakest_62 : decode cX10_weakest 62 = .ok (.iconst (-1), 1) := by decide +kernel
theorem dX10_weakest_63 : decode cX10_weakest 63 = .ok (.ireturn, 1) := by decide +kernel
theorem dX10_at_0 : decode cX10_at 0 = .ok (.aload_n 0, 1) := by decide +kernel
theorem dX10_at_1 : decode cX10_at 1 = .ok (.ifnull 19, 3) := by decide +kernel
theorem dX10_at_4 : decode cX10_at 4 = .ok (.iload_n 1, 1) := by decide +kernel
theorem dX10_at_5 : decode cX10_at 5 = .ok (.ifCond .lt 15, 3) := by decide +kernel
theorem dX10_at_8 : decode cX10_at 8 = .ok (.iload_n 1, 1) := by decide +kernel
theorem dX10_at_9 : decode cX10_at 9 = .ok (.aload_n 0, 1) := by decide +kernel
theorem dX10_at_10 : decode cX10_at 10 = .ok (.arraylength, 1) := by decide +kernel
theorem dX10_at_11 : decode cX10_at 11 = .ok (.if_icmp .ge 9, 3) := by decide +kernel
theorem dX10_at_14 : decode cX10_at 14 = .ok (.aload_n 0, 1) := by decide +kernel
theorem dX10_at_15 : decode cX10_at 15 = .ok (.iload_n 1, 1) := by decide +kernel
theorem dX10_at_16 : decode cX10_at 16 = .ok (.iaload, 1) := by decide +kernel
theorem dX10_at_17 : decode cX10_at 17 = .ok (.goto 4, 3) := by decide +kernel
theorem dX10_at_20 : decode cX10_at 20 = .ok (.iconst 0, 1) := by decide +kernel
theorem dX10_at_21 : decode cX10_at 21 = .ok (.ireturn, 1) := by decide +kernel
theorem dX10_put_0 : decode cX10_put 0 = .ok (.aload_n 0, 1) := by decide +kernel
theorem dX10_put_1 : decode cX10_put 1 = .ok (.ifnull 17, 3) := by decide +kernel
theorem dX10_put_4 : decode cX10_put 4 = .ok (.iload_n 1, 1) := by decide +kernel
theorem dX10_put_5 : decode cX10_put 5 = .ok (.ifCond .lt 13, 3) := by decide +kernel
theorem dX10_put_8 : decode cX10_put 8 = .ok (.iload_n 1, 1) := by decide +kernel
theorem dX10_put_9 : decode cX10_put 9 = .ok (.aload_n 0, 1) := by decide +kernel
theorem dX10_put_10 : decode cX10_put 10 = .ok (.arraylength, 1) := by decide +kernel
theorem dX10_put_11 : decode cX10_put 11 = .ok (.if_icmp .ge 7, 3) := by decide +kernel
theorem dX10_put_14 : decode cX10_put 14 = .ok (.aload_n 0, 1) := by decide +kernel
theorem dX10_put_15 : decode cX10_put 15 = .ok (.iload_n 1, 1) := by decide +kernel
theorem dX10_put_16 : decode cX10_put 16 = .ok (.iload_n 2, 1) := by decide +kernel
theorem dX10_put_17 : decode cX10_put 17 = .ok (.iastore, 1) := by decide +kernel
theorem dX10_put_18 : decode cX10_put 18 = .ok (.return_, 1) := by decide +kernel
theorem dL_weak_0 : decode cL_weak 0 = .ok (.aload_n 2, 1) := by decide +kernel
theorem dL_weak_1 : decode cL_weak 1 = .ok (.iconst 0, 1) := by decide +kernel
theorem dL_weak_2 : decode cL_weak 2 = .ok (.aload_n 0, 1) := by decide +kernel
theorem dL_weak_3 : decode cL_weak 3 = .ok (.iload_n 1, 1) := by decide +kernel
theorem dL_weak_4 : decode cL_weak 4 = .ok (.invokevirtual 7, 3) := by decide +kernel
theorem dL_weak_7 : decode cL_weak 7 = .ok (.i2l, 1) := by decide +kernel
theorem dL_weak_8 : decode cL_weak 8 = .ok (.lastore, 1) := by decide +kernel
theorem dL_weak_9 : decode cL_weak 9 = .ok (.goto 6, 3) := by decide +kernel
theorem dL_weak_12 : decode cL_weak 12 = .ok (.astore_n 3, 1) := by decide +kernel
theorem dL_weak_13 : decode cL_weak 13 = .ok (.iconst 1, 1) := by decide +kernel
theorem dL_weak_14 : decode cL_weak 14 = .ok (.ireturn, 1) := by decide +kernel
theorem dL_weak_15 : decode cL_weak 15 = .ok (.iconst 0, 1) := by decide +kernel
theorem dL_weak_16 : decode cL_weak 16 = .ok (.ireturn, 1) := by decide +kernel
theorem dL_law_0 : decode cL_law 0 = .ok (.new 8, 3) := by decide +kernel
theorem dL_law_3 : decode cL_law 3 = .ok (.dup, 1) := by decide +kernel
theorem dL_law_4 : decode cL_law 4 = .ok (.invokespecial 15, 3) := by decide +kernel
theorem dL_law_7 : decode cL_law 7 = .ok (.astore_n 1, 1) := by decide +kernel
theorem dL_law_8 : decode cL_law 8 = .ok (.new 16, 3) := by decide +kernel
theorem dL_law_11 : decode cL_law 11 = .ok (.dup, 1) := by decide +kernel
theorem dL_law_12 : decode cL_law 12 = .ok (.invokespecial 18, 3) := by decide +kernel
theorem dL_law_15 : decode cL_law 15 = .ok (.astore_n 2, 1) := by decide +kernel
theorem dL_law_16 : decode cL_law 16 = .ok (.iconst 1, 1) := by decide +kernel
theorem dL_law_17 : decode cL_law 17 = .ok (.newarray .long, 2) := by decide +kernel
theorem dL_law_19 : decode cL_law 19 = .ok (.astore_n 3, 1) := by decide +kernel
theorem dL_law_20 : decode cL_law 20 = .ok (.iconst 0, 1) := by decide +kernel
theorem dL_law_21 : decode cL_law 21 = .ok (.istore 4, 2) := by decide +kernel
theorem dL_law_23 : decode cL_law 23 = .ok (.iload 4, 2) := by decide +kernel
theorem dL_law_25 : decode cL_law 25 = .ok (.aload_n 0, 1) := by decide +kernel
theorem dL_law_26 : decode cL_law 26 = .ok (.arraylength, 1) := by decide +kernel
theorem dL_law_27 : decode cL_law 27 = .ok (.bipush 6, 2) := by decide +kernel
theorem dL_law_29 : decode cL_law 29 = .ok (.isub, 1) := by decide +kernel
theorem dL_law_30 : decode cL_law 30 = .ok (.if_icmp .gt 1364, 3) := by decide +kernel
theorem dL_law_33 : decode cL_law 33 = .ok (.aload_n 0, 1) := by decide +kernel
theorem dL_law_34 : decode cL_law 34 = .ok (.iload 4, 2) := by decide +kernel
theorem dL_law_36 : decode cL_law 36 = .ok (.iaload, 1) := by decide +kernel
theorem dL_law_37 : decode cL_law 37 = .ok (.bipush 63, 2) := by decide +kernel
theorem dL_law_39 : decode cL_law 39 = .ok (.iand, 1) := by decide +kernel
theorem dL_law_40 : decode cL_law 40 = .ok (.tableswitch 1348 0 40 #[180, 253, 278, 291, 304, 329, 366, 403, 440, 465, 478, 503, 516, 557, 570, 607, 632, 669, 682, 695, 720, 733, 770, 783, 836, 901, 926, 951, 988, 1025, 1038, 1051, 1092, 1141, 1178, 1191, 1216, 1241, 1254, 1310, 1335], 180) := by decide +kernel
theorem dL_law_220 : decode cL_law 220 = .ok (.aload_n 1, 1) := by decide +kernel
theorem dL_law_221 : decode cL_law 221 = .ok (.aload_n 0, 1) := by decide +kernel
theorem dL_law_222 : decode cL_law 222 = .ok (.iload 4, 2) := by decide +kernel
theorem dL_law_224 : decode cL_law 224 = .ok (.iconst 1, 1) := by decide +kernel
theorem dL_law_225 : decode cL_law 225 = .ok (.iadd, 1) := by decide +kernel
theorem dL_law_226 : decode cL_law 226 = .ok (.iaload, 1) := by decide +kernel
theorem dL_law_227 : decode cL_law 227 = .ok (.aload_n 0, 1) := by decide +kernel
theorem dL_law_228 : decode cL_law 228 = .ok (.iload 4, 2) := by decide +kernel
theorem dL_law_230 : decode cL_law 230 = .ok (.iconst 2, 1) := by decide +kernel
theorem dL_law_231 : decode cL_law 231 = .ok (.iadd, 1) := by decide +kernel
theorem dL_law_232 : decode cL_law 232 = .ok (.iaload, 1) := by decide +kernel
theorem dL_law_233 : decode cL_law 233 = .ok (.aload_n 0, 1) := by decide +kernel
theorem dL_law_234 : decode cL_law 234 = .ok (.iload 4, 2) := by decide +kernel
theorem dL_law_236 : decode cL_law 236 = .ok (.iconst 3, 1) := by decide +kernel
theorem dL_law_237 : decode cL_law 237 = .ok (.iadd, 1) := by decide +kernel
theorem dL_law_238 : decode cL_law 238 = .ok (.iaload, 1) := by decide +kernel
theorem dL_law_239 : decode cL_law 239 = .ok (.aload_n 0, 1) := by decide +kernel
theorem dL_law_240 : decode cL_law 240 = .ok (.iload 4, 2) := by decide +kernel
theorem dL_law_242 : decode cL_law 242 = .ok (.iconst 4, 1) := by decide +kernel
theorem dL_law_243 : decode cL_law 243 = .ok (.iadd, 1) := by decide +kernel
theorem dL_law_244 : decode cL_law 244 = .ok (.iaload, 1) := by decide +kernel
theorem dL_law_245 : decode cL_law 245 = .ok (.aload_n 0, 1) := by decide +kernel
theorem dL_law_246 : decode cL_law 246 = .ok (.iload 4, 2) := by decide +kernel
theorem dL_law_248 : decode cL_law 248 = .ok (.iconst 5, 1) := by decide +kernel
theorem dL_law_249 : decode cL_law 249 = .ok (.iadd, 1) := by decide +kernel
theorem dL_law_250 : decode cL_law 250 = .ok (.iaload, 1) := by decide +kernel
theorem dL_law_251 : decode cL_law 251 = .ok (.invokevirtual 19, 3) := by decide +kernel
theorem dL_law_254 : decode cL_law 254 = .ok (.aload_n 2, 1) := by decide +kernel
theorem dL_law_255 : decode cL_law 255 = .ok (.aload_n 0, 1) := by decide +kernel
theorem dL_law_256 : decode cL_law 256 = .ok (.iload 4, 2) := by decide +kernel
theorem dL_law_258 : decode cL_law 258 = .ok (.iconst 1, 1) := by decide +kernel
theorem dL_law_259 : decode cL_law 259 = .ok (.iadd, 1) := by decide +kernel
theorem dL_law_260 : decode cL_law 260 = .ok (.iaload, 1) := by decide +kernel
theorem dL_law_261 : decode cL_law 261 = .ok (.aload_n 0, 1) := by decide +kernel
theorem dL_law_262 : decode cL_law 262 = .ok (.iload 4, 2) := by decide +kernel
theorem dL_law_264 : decode cL_law 264 = .ok (.iconst 2, 1) := by decide +kernel
theorem dL_law_265 : decode cL_law 265 = .ok (.iadd, 1) := by decide +kernel
theorem dL_law_266 : decode cL_law 266 = .ok (.iaload, 1) := by decide +kernel
theorem dL_law_267 : decode cL_law 267 = .ok (.aload_n 0, 1) := by decide +kernel
theorem dL_law_268 : decode cL_law 268 = .ok (.iload 4, 2) := by decide +kernel
theorem dL_law_270 : decode cL_law 270 = .ok (.iconst 3, 1) := by decide +kernel
theorem dL_law_271 : decode cL_law 271 = .ok (.iadd, 1) := by decide +kernel
theorem dL_law_272 : decode cL_law 272 = .ok (.iaload, 1) := by decide +kernel
theorem dL_law_273 : decode cL_law 273 = .ok (.aload_n 0, 1) := by decide +kernel
theorem dL_law_274 : decode cL_law 274 = .ok (.iload 4, 2) := by decide +kernel
theorem dL_law_276 : decode cL_law 276 = .ok (.iconst 4, 1) := by decide +kernel
theorem dL_law_277 : decode cL_law 277 = .ok (.iadd, 1) := by decide +kernel
theorem dL_law_278 : decode cL_law 278 = .ok (.iaload, 1) := by decide +kernel
theorem dL_law_279 : decode cL_law 279 = .ok (.aload_n 0, 1) := by decide +kernel
theorem dL_law_280 : decode cL_law 280 = .ok (.iload 4, 2) := by decide +kernel
theorem dL_law_282 : decode cL_law 282 = .ok (.iconst 5, 1) := by decide +kernel
theorem dL_law_283 : decode cL_law 283 = .ok (.iadd, 1) := by decide +kernel
theorem dL_law_284 : decode cL_law 284 = .ok (.iaload, 1) := by decide +kernel
theorem dL_law_285 : decode cL_law 285 = .ok (.invokevirtual 23, 3) := by decide +kernel
theorem dL_law_288 : decode cL_law 288 = .ok (.if_icmp .eq 1100, 3) := by decide +kernel
theorem dL_law_291 : decode cL_law 291 = .ok (.iconst 0, 1) := by decide +kernel
theorem dL_law_292 : decode cL_law 292 = .ok (.ireturn, 1) := by decide +kernel
theorem dL_law_293 : decode cL_law 293 = .ok (.aload_n 1, 1) := by decide +kernel
theorem dL_law_294 : decode cL_law 294 = .ok (.aload_n 0, 1) := by decide +kernel
theorem dL_law_295 : decode cL_law 295 = .ok (.iload 4, 2) := by decide +kernel
theorem dL_law_297 : decode cL_law 297 = .ok (.iconst 1, 1) := by decide +kernel
theorem dL_law_298 : decode cL_law 298 = .ok (.iadd, 1) := by decide +kernel
theorem dL_law_299 : decode cL_law 299 = .ok (.iaload, 1) := by decide +kernel
theorem dL_law_300 : decode cL_law 300 = .ok (.invokevirtual 24, 3) := by decide +kernel
theorem dL_law_303 : decode cL_law 303 = .ok (.aload_n 2, 1) := by decide +kernel
theorem dL_law_304 : decode cL_law 304 = .ok (.aload_n 0, 1) := by decide +kernel
theorem dL_law_305 : decode cL_law 305 = .ok (.iload 4, 2) := by decide +kernel
theorem dL_law_307 : decode cL_law 307 = .ok (.iconst 1, 1) := by decide +kernel
theorem dL_law_308 : decode cL_law 308 = .ok (.iadd, 1) := by decide +kernel
theorem dL_law_309 : decode cL_law 309 = .ok (.iaload, 1) := by decide +kernel
theorem dL_law_310 : decode cL_law 310 = .ok (.invokevirtual 27, 3) := by decide +kernel
theorem dL_law_313 : decode cL_law 313 = .ok (.if_icmp .eq 1075, 3) := by decide +kernel
theorem dL_law_316 : decode cL_law 316 = .ok (.iconst 0, 1) := by decide +kernel
theorem dL_law_317 : decode cL_law 317 = .ok (.ireturn, 1) := by decide +kernel
theorem dL_law_318 : decode cL_law 318 = .ok (.aload_n 1, 1) := by decide +kernel
theorem dL_law_319 : decode cL_law 319 = .ok (.invokevirtual 28, 3) := by decide +kernel
theorem dL_law_322 : decode cL_law 322 = .ok (.aload_n 2, 1) := by decide +kernel
theorem dL_law_323 : decode cL_law 323 = .ok (.invokevirtual 32, 3) := by decide +kernel
theorem dL_law_326 : decode cL_law 326 = .ok (.if_icmp .eq 1062, 3) := by decide +kernel
theorem dL_law_329 : decode cL_law 329 = .ok (.iconst 0, 1) := by decide +kernel
theorem dL_law_330 : decode cL_law 330 = .ok (.ireturn, 1) := by decide +kernel
theorem dL_law_331 : decode cL_law 331 = .ok (.aload_n 1, 1) := by decide +kernel
theorem dL_law_332 : decode cL_law 332 = .ok (.invokevirtual 33, 3) := by decide +kernel
theorem dL_law_335 : decode cL_law 335 = .ok (.aload_n 2, 1) := by decide +kernel
theorem dL_law_336 : decode cL_law 336 = .ok (.invokevirtual 36, 3) := by decide +kernel
theorem dL_law_339 : decode cL_law 339 = .ok (.if_icmp .eq 1049, 3) := by decide +kernel
theorem dL_law_342 : decode cL_law 342 = .ok (.iconst 0, 1) := by decide +kernel
theorem dL_law_343 : decode cL_law 343 = .ok (.ireturn, 1) := by decide +kernel
theorem dL_law_344 : decode cL_law 344 = .ok (.aload_n 1, 1) := by decide +kernel
theorem dL_law_345 : decode cL_law 345 = .ok (.aload_n 0, 1) := by decide +kernel
theorem dL_law_346 : decode cL_law 346 = .ok (.iload 4, 2) := by decide +kernel
theorem dL_law_348 : decode cL_law 348 = .ok (.iconst 1, 1) := by decide +kernel
theorem dL_law_349 : decode cL_law 349 = .ok (.iadd, 1) := by decide +kernel
theorem dL_law_350 : decode cL_law 350 = .ok (.iaload, 1) := by decide +kernel
theorem dL_law_351 : decode cL_law 351 = .ok (.invokevirtual 37, 3) := by decide +kernel
theorem dL_law_354 : decode cL_law 354 = .ok (.aload_n 2, 1) := by decide +kernel
theorem dL_law_355 : decode cL_law 355 = .ok (.aload_n 0, 1) := by decide +kernel
theorem dL_law_356 : decode cL_law 356 = .ok (.iload 4, 2) := by decide +kernel
theorem dL_law_358 : decode cL_law 358 = .ok (.iconst 1, 1) := by decide +kernel
theorem dL_law_359 : decode cL_law 359 = .ok (.iadd, 1) := by decide +kernel
theorem dL_law_360 : decode cL_law 360 = .ok (.iaload, 1) := by decide +kernel
theorem dL_law_361 : decode cL_law 361 = .ok (.invokevirtual 40, 3) := by decide +kernel
theorem dL_law_364 : decode cL_law 364 = .ok (.if_icmp .eq 1024, 3) := by decide +kernel
theorem dL_law_367 : decode cL_law 367 = .ok (.iconst 0, 1) := by decide +kernel
theorem dL_law_368 : decode cL_law 368 = .ok (.ireturn, 1) := by decide +kernel
theorem dL_law_369 : decode cL_law 369 = .ok (.aload_n 1, 1) := by decide +kernel
theorem dL_law_370 : decode cL_law 370 = .ok (.aload_n 0, 1) := by decide +kernel
theorem dL_law_371 : decode cL_law 371 = .ok (.iload 4, 2) := by decide +kernel
theorem dL_law_373 : decode cL_law 373 = .ok (.iconst 1, 1) := by decide +kernel
theorem dL_law_374 : decode cL_law 374 = .ok (.iadd, 1) := by decide +kernel
theorem dL_law_375 : decode cL_law 375 = .ok (.iaload, 1) := by decide +kernel
theorem dL_law_376 : decode cL_law 376 = .ok (.aload_n 0, 1) := by decide +kernel
theorem dL_law_377 : decode cL_law 377 = .ok (.iload 4, 2) := by decide +kernel
theorem dL_law_379 : decode cL_law 379 = .ok (.iconst 2, 1) := by decide +kernel
theorem dL_law_380 : decode cL_law 380 = .ok (.iadd, 1) := by decide +kernel
theorem dL_law_381 : decode cL_law 381 = .ok (.iaload, 1) := by decide +kernel
theorem dL_law_382 : decode cL_law 382 = .ok (.invokevirtual 41, 3) := by decide +kernel
theorem dL_law_385 : decode cL_law 385 = .ok (.aload_n 2, 1) := by decide +kernel
theorem dL_law_386 : decode cL_law 386 = .ok (.aload_n 0, 1) := by decide +kernel
theorem dL_law_387 : decode cL_law 387 = .ok (.iload 4, 2) := by decide +kernel
theorem dL_law_389 : decode cL_law 389 = .ok (.iconst 1, 1) := by decide +kernel
theorem dL_law_390 : decode cL_law 390 = .ok (.iadd, 1) := by decide +kernel
theorem dL_law_391 : decode cL_law 391 = .ok (.iaload, 1) := by decide +kernel
theorem dL_law_392 : decode cL_law 392 = .ok (.aload_n 0, 1) := by decide +kernel
theorem dL_law_393 : decode cL_law 393 = .ok (.iload 4, 2) := by decide +kernel
theorem dL_law_395 : decode cL_law 395 = .ok (.iconst 2, 1) := by decide +kernel
theorem dL_law_396 : decode cL_law 396 = .ok (.iadd, 1) := by decide +kernel
theorem dL_law_397 : decode cL_law 397 = .ok (.iaload, 1) := by decide +kernel
theorem dL_law_398 : decode cL_law 398 = .ok (.invokevirtual 45, 3) := by decide +kernel
theorem dL_law_401 : decode cL_law 401 = .ok (.if_icmp .eq 987, 3) := by decide +kernel
theorem dL_law_404 : decode cL_law 404 = .ok (.iconst 0, 1) := by decide +kernel
theorem dL_law_405 : decode cL_law 405 = .ok (.ireturn, 1) := by decide +kernel
theorem dL_law_406 : decode cL_law 406 = .ok (.aload_n 1, 1) := by decide +kernel
theorem dL_law_407 : decode cL_law 407 = .ok (.aload_n 0, 1) := by decide +kernel
theorem dL_law_408 : decode cL_law 408 = .ok (.iload 4, 2) := by decide +kernel
theorem dL_law_410 : decode cL_law 410 = .ok (.iconst 1, 1) := by decide +kernel
theorem dL_law_411 : decode cL_law 411 = .ok (.iadd, 1) := by decide +kernel
theorem dL_law_412 : decode cL_law 412 = .ok (.iaload, 1) := by decide +kernel
theorem dL_law_413 : decode cL_law 413 = .ok (.aload_n 0, 1) := by decide +kernel
theorem dL_law_414 : decode cL_law 414 = .ok (.iload 4, 2) := by decide +kernel
theorem dL_law_416 : decode cL_law 416 = .ok (.iconst 2, 1) := by decide +kernel
theorem dL_law_417 : decode cL_law 417 = .ok (.iadd, 1) := by decide +kernel
theorem dL_law_418 : decode cL_law 418 = .ok (.iaload, 1) := by decide +kernel
theorem dL_law_419 : decode cL_law 419 = .ok (.invokevirtual 46, 3) := by decide +kernel
theorem dL_law_422 : decode cL_law 422 = .ok (.aload_n 2, 1) := by decide +kernel
theorem dL_law_423 : decode cL_law 423 = .ok (.aload_n 0, 1) := by decide +kernel
theorem dL_law_424 : decode cL_law 424 = .ok (.iload 4, 2) := by decide +kernel
theorem dL_law_426 : decode cL_law 426 = .ok (.iconst 1, 1) := by decide +kernel
theorem dL_law_427 : decode cL_law 427 = .ok (.iadd, 1) := by decide +kernel
theorem dL_law_428 : decode cL_law 428 = .ok (.iaload, 1) := by decide +kernel
theorem dL_law_429 : decode cL_law 429 = .ok (.aload_n 0, 1) := by decide +kernel
theorem dL_law_430 : decode cL_law 430 = .ok (.iload 4, 2) := by decide +kernel
theorem dL_law_432 : decode cL_law 432 = .ok (.iconst 2, 1) := by decide +kernel
theorem dL_law_433 : decode cL_law 433 = .ok (.iadd, 1) := by decide +kernel
theorem dL_law_434 : decode cL_law 434 = .ok (.iaload, 1) := by decide +kernel
theorem dL_law_435 : decode cL_law 435 = .ok (.invokevirtual 49, 3) := by decide +kernel
theorem dL_law_438 : decode cL_law 438 = .ok (.if_icmp .eq 950, 3) := by decide +kernel
theorem dL_law_441 : decode cL_law 441 = .ok (.iconst 0, 1) := by decide +kernel
theorem dL_law_442 : decode cL_law 442 = .ok (.ireturn, 1) := by decide +kernel
theorem dL_law_443 : decode cL_law 443 = .ok (.aload_n 1, 1) := by decide +kernel
theorem dL_law_444 : decode cL_law 444 = .ok (.aload_n 0, 1) := by decide +kernel
theorem dL_law_445 : decode cL_law 445 = .ok (.iload 4, 2) := by decide +kernel
theorem dL_law_447 : decode cL_law 447 = .ok (.iconst 1, 1) := by decide +kernel
theorem dL_law_448 : decode cL_law 448 = .ok (.iadd, 1) := by decide +kernel
theorem dL_law_449 : decode cL_law 449 = .ok (.iaload, 1) := by decide +kernel
theorem dL_law_450 : decode cL_law 450 = .ok (.aload_n 0, 1) := by decide +kernel
theorem dL_law_451 : decode cL_law 451 = .ok (.iload 4, 2) := by decide +kernel
theorem dL_law_453 : decode cL_law 453 = .ok (.iconst 2, 1) := by decide +kernel
theorem dL_law_454 : decode cL_law 454 = .ok (.iadd, 1) := by decide +kernel
theorem dL_law_455 : decode cL_law 455 = .ok (.iaload, 1) := by decide +kernel
theorem dL_law_456 : decode cL_law 456 = .ok (.invokevirtual 50, 3) := by decide +kernel
theorem dL_law_459 : decode cL_law 459 = .ok (.aload_n 2, 1) := by decide +kernel
theorem dL_law_460 : decode cL_law 460 = .ok (.aload_n 0, 1) := by decide +kernel
theorem dL_law_461 : decode cL_law 461 = .ok (.iload 4, 2) := by decide +kernel
theorem dL_law_463 : decode cL_law 463 = .ok (.iconst 1, 1) := by decide +kernel
theorem dL_law_464 : decode cL_law 464 = .ok (.iadd, 1) := by decide +kernel
theorem dL_law_465 : decode cL_law 465 = .ok (.iaload, 1) := by decide +kernel
theorem dL_law_466 : decode cL_law 466 = .ok (.aload_n 0, 1) := by decide +kernel
theorem dL_law_467 : decode cL_law 467 = .ok (.iload 4, 2) := by decide +kernel
theorem dL_law_469 : decode cL_law 469 = .ok (.iconst 2, 1) := by decide +kernel
theorem dL_law_470 : decode cL_law 470 = .ok (.iadd, 1) := by decide +kernel
theorem dL_law_471 : decode cL_law 471 = .ok (.iaload, 1) := by decide +kernel
theorem dL_law_472 : decode cL_law 472 = .ok (.invokevirtual 53, 3) := by decide +kernel
theorem dL_law_475 : decode cL_law 475 = .ok (.if_icmp .eq 913, 3) := by decide +kernel
theorem dL_law_478 : decode cL_law 478 = .ok (.iconst 0, 1) := by decide +kernel
theorem dL_law_479 : decode cL_law 479 = .ok (.ireturn, 1) := by decide +kernel
theorem dL_law_480 : decode cL_law 480 = .ok (.aload_n 1, 1) := by decide +kernel
theorem dL_law_481 : decode cL_law 481 = .ok (.aload_n 0, 1) := by decide +kernel
theorem dL_law_482 : decode cL_law 482 = .ok (.iload 4, 2) := by decide +kernel
theorem dL_law_484 : decode cL_law 484 = .ok (.iconst 1, 1) := by decide +kernel
theorem dL_law_485 : decode cL_law 485 = .ok (.iadd, 1) := by decide +kernel
theorem dL_law_486 : decode cL_law 486 = .ok (.iaload, 1) := by decide +kernel
theorem dL_law_487 : decode cL_law 487 = .ok (.invokevirtual 54, 3) := by decide +kernel
theorem dL_law_490 : decode cL_law 490 = .ok (.aload_n 2, 1) := by decide +kernel
theorem dL_law_491 : decode cL_law 491 = .ok (.aload_n 0, 1) := by decide +kernel
theorem dL_law_492 : decode cL_law 492 = .ok (.iload 4, 2) := by decide +kernel
theorem dL_law_494 : decode cL_law 494 = .ok (.iconst 1, 1) := by decide +kernel
theorem dL_law_495 : decode cL_law 495 = .ok (.iadd, 1) := by decide +kernel
theorem dL_law_496 : decode cL_law 496 = .ok (.iaload, 1) := by decide +kernel
theorem dL_law_497 : decode cL_law 497 = .ok (.invokevirtual 57, 3) := by decide +kernel
theorem dL_law_500 : decode cL_law 500 = .ok (.if_icmp .eq 888, 3) := by decide +kernel
theorem dL_law_503 : decode cL_law 503 = .ok (.iconst 0, 1) := by decide +kernel
theorem dL_law_504 : decode cL_law 504 = .ok (.ireturn, 1) := by decide +kernel
theorem dL_law_505 : decode cL_law 505 = .ok (.aload_n 1, 1) := by decide +kernel
theorem dL_law_506 : decode cL_law 506 = .ok (.invokevirtual 58, 3) := by decide +kernel
theorem dL_law_509 : decode cL_law 509 = .ok (.aload_n 2, 1) := by decide +kernel
theorem dL_law_510 : decode cL_law 510 = .ok (.invokevirtual 61, 3) := by decide +kernel
theorem dL_law_513 : decode cL_law 513 = .ok (.if_icmp .eq 875, 3) := by decide +kernel
theorem dL_law_516 : decode cL_law 516 = .ok (.iconst 0, 1) := by decide +kernel
theorem dL_law_517 : decode cL_law 517 = .ok (.ireturn, 1) := by decide +kernel
theorem dL_law_518 : decode cL_law 518 = .ok (.aload_n 1, 1) := by decide +kernel
theorem dL_law_519 : decode cL_law 519 = .ok (.aload_n 0, 1) := by decide +kernel
theorem dL_law_520 : decode cL_law 520 = .ok (.iload 4, 2) := by decide +kernel
theorem dL_law_522 : decode cL_law 522 = .ok (.iconst 1, 1) := by decide +kernel
theorem dL_law_523 : decode cL_law 523 = .ok (.iadd, 1) := by decide +kernel
theorem dL_law_524 : decode cL_law 524 = .ok (.iaload, 1) := by decide +kernel
theorem dL_law_525 : decode cL_law 525 = .ok (.invokevirtual 62, 3) := by decide +kernel
theorem dL_law_528 : decode cL_law 528 = .ok (.aload_n 2, 1) := by decide +kernel
theorem dL_law_529 : decode cL_law 529 = .ok (.aload_n 0, 1) := by decide +kernel
theorem dL_law_530 : decode cL_law 530 = .ok (.iload 4, 2) := by decide +kernel
theorem dL_law_532 : decode cL_law 532 = .ok (.iconst 1, 1) := by decide +kernel
theorem dL_law_533 : decode cL_law 533 = .ok (.iadd, 1) := by decide +kernel
theorem dL_law_534 : decode cL_law 534 = .ok (.iaload, 1) := by decide +kernel
theorem dL_law_535 : decode cL_law 535 = .ok (.invokevirtual 65, 3) := by decide +kernel
theorem dL_law_538 : decode cL_law 538 = .ok (.if_icmp .eq 850, 3) := by decide +kernel
theorem dL_law_541 : decode cL_law 541 = .ok (.iconst 0, 1) := by decide +kernel
theorem dL_law_542 : decode cL_law 542 = .ok (.ireturn, 1) := by decide +kernel
theorem dL_law_543 : decode cL_law 543 = .ok (.aload_n 1, 1) := by decide +kernel
theorem dL_law_544 : decode cL_law 544 = .ok (.invokevirtual 66, 3) := by decide +kernel
theorem dL_law_547 : decode cL_law 547 = .ok (.aload_n 2, 1) := by decide +kernel
theorem dL_law_548 : decode cL_law 548 = .ok (.invokevirtual 69, 3) := by decide +kernel
theorem dL_law_551 : decode cL_law 551 = .ok (.if_icmp .eq 837, 3) := by decide +kernel
theorem dL_law_554 : decode cL_law 554 = .ok (.iconst 0, 1) := by decide +kernel
theorem dL_law_555 : decode cL_law 555 = .ok (.ireturn, 1) := by decide +kernel
theorem dL_law_556 : decode cL_law 556 = .ok (.aload_n 1, 1) := by decide +kernel
theorem dL_law_557 : decode cL_law 557 = .ok (.aload_n 0, 1) := by decide +kernel
theorem dL_law_558 : decode cL_law 558 = .ok (.iload 4, 2) := by decide +kernel
theorem dL_law_560 : decode cL_law 560 = .ok (.iconst 1, 1) := by decide +kernel
theorem dL_law_561 : decode cL_law 561 = .ok (.iadd, 1) := by decide +kernel
theorem dL_law_562 : decode cL_law 562 = .ok (.iaload, 1) := by decide +kernel
theorem dL_law_563 : decode cL_law 563 = .ok (.ifCond .eq 7, 3) := by decide +kernel
theorem dL_law_566 : decode cL_law 566 = .ok (.iconst 1, 1) := by decide +kernel
theorem dL_law_567 : decode cL_law 567 = .ok (.goto 4, 3) := by decide +kernel
theorem dL_law_570 : decode cL_law 570 = .ok (.iconst 0, 1) := by decide +kernel
theorem dL_law_571 : decode cL_law 571 = .ok (.invokevirtual 70, 3) := by decide +kernel
theorem dL_law_574 : decode cL_law 574 = .ok (.aload_n 2, 1) := by decide +kernel
theorem dL_law_575 : decode cL_law 575 = .ok (.aload_n 0, 1) := by decide +kernel
theorem dL_law_576 : decode cL_law 576 = .ok (.iload 4, 2) := by decide +kernel
theorem dL_law_578 : decode cL_law 578 = .ok (.iconst 1, 1) := by decide +kernel
theorem dL_law_579 : decode cL_law 579 = .ok (.iadd, 1) := by decide +kernel
theorem dL_law_580 : decode cL_law 580 = .ok (.iaload, 1) := by decide +kernel
theorem dL_law_581 : decode cL_law 581 = .ok (.ifCond .eq 7, 3) := by decide +kernel
theorem dL_law_584 : decode cL_law 584 = .ok (.iconst 1, 1) := by decide +kernel
theorem dL_law_585 : decode cL_law 585 = .ok (.goto 4, 3) := by decide +kernel
theorem dL_law_588 : decode cL_law 588 = .ok (.iconst 0, 1) := by decide +kernel
theorem dL_law_589 : decode cL_law 589 = .ok (.invokevirtual 74, 3) := by decide +kernel
theorem dL_law_592 : decode cL_law 592 = .ok (.if_icmp .eq 796, 3) := by decide +kernel
theorem dL_law_595 : decode cL_law 595 = .ok (.iconst 0, 1) := by decide +kernel
theorem dL_law_596 : decode cL_law 596 = .ok (.ireturn, 1) := by decide +kernel
theorem dL_law_597 : decode cL_law 597 = .ok (.aload_n 1, 1) := by decide +kernel
theorem dL_law_598 : decode cL_law 598 = .ok (.invokevirtual 75, 3) := by decide +kernel
theorem dL_law_601 : decode cL_law 601 = .ok (.aload_n 2, 1) := by decide +kernel
theorem dL_law_602 : decode cL_law 602 = .ok (.invokevirtual 78, 3) := by decide +kernel
theorem dL_law_605 : decode cL_law 605 = .ok (.if_icmp .eq 783, 3) := by decide +kernel
theorem dL_law_608 : decode cL_law 608 = .ok (.iconst 0, 1) := by decide +kernel
theorem dL_law_609 : decode cL_law 609 = .ok (.ireturn, 1) := by decide +kernel
theorem dL_law_610 : decode cL_law 610 = .ok (.aload_n 1, 1) := by decide +kernel
theorem dL_law_611 : decode cL_law 611 = .ok (.aload_n 0, 1) := by decide +kernel
theorem dL_law_612 : decode cL_law 612 = .ok (.iload 4, 2) := by decide +kernel
theorem dL_law_614 : decode cL_law 614 = .ok (.iconst 1, 1) := by decide +kernel
theorem dL_law_615 : decode cL_law 615 = .ok (.iadd, 1) := by decide +kernel
theorem dL_law_616 : decode cL_law 616 = .ok (.iaload, 1) := by decide +kernel
theorem dL_law_617 : decode cL_law 617 = .ok (.aload_n 0, 1) := by decide +kernel
theorem dL_law_618 : decode cL_law 618 = .ok (.iload 4, 2) := by decide +kernel
theorem dL_law_620 : decode cL_law 620 = .ok (.iconst 2, 1) := by decide +kernel
theorem dL_law_621 : decode cL_law 621 = .ok (.iadd, 1) := by decide +kernel
theorem dL_law_622 : decode cL_law 622 = .ok (.iaload, 1) := by decide +kernel
theorem dL_law_623 : decode cL_law 623 = .ok (.invokevirtual 79, 3) := by decide +kernel
theorem dL_law_626 : decode cL_law 626 = .ok (.aload_n 2, 1) := by decide +kernel
theorem dL_law_627 : decode cL_law 627 = .ok (.aload_n 0, 1) := by decide +kernel
theorem dL_law_628 : decode cL_law 628 = .ok (.iload 4, 2) := by decide +kernel
theorem dL_law_630 : decode cL_law 630 = .ok (.iconst 1, 1) := by decide +kernel
theorem dL_law_631 : decode cL_law 631 = .ok (.iadd, 1) := by decide +kernel
theorem dL_law_632 : decode cL_law 632 = .ok (.iaload, 1) := by decide +kernel
theorem dL_law_633 : decode cL_law 633 = .ok (.aload_n 0, 1) := by decide +kernel
theorem dL_law_634 : decode cL_law 634 = .ok (.iload 4, 2) := by decide +kernel
theorem dL_law_636 : decode cL_law 636 = .ok (.iconst 2, 1) := by decide +kernel
theorem dL_law_637 : decode cL_law 637 = .ok (.iadd, 1) := by decide +kernel
theorem dL_law_638 : decode cL_law 638 = .ok (.iaload, 1) := by decide +kernel
theorem dL_law_639 : decode cL_law 639 = .ok (.invokevirtual 82, 3) := by decide +kernel
theorem dL_law_642 : decode cL_law 642 = .ok (.if_icmp .eq 746, 3) := by decide +kernel
theorem dL_law_645 : decode cL_law 645 = .ok (.iconst 0, 1) := by decide +kernel
theorem dL_law_646 : decode cL_law 646 = .ok (.ireturn, 1) := by decide +kernel
theorem dL_law_647 : decode cL_law 647 = .ok (.aload_n 1, 1) := by decide +kernel
theorem dL_law_648 : decode cL_law 648 = .ok (.aload_n 0, 1) := by decide +kernel
theorem dL_law_649 : decode cL_law 649 = .ok (.iload 4, 2) := by decide +kernel
theorem dL_law_651 : decode cL_law 651 = .ok (.iconst 1, 1) := by decide +kernel
theorem dL_law_652 : decode cL_law 652 = .ok (.iadd, 1) := by decide +kernel
theorem dL_law_653 : decode cL_law 653 = .ok (.iaload, 1) := by decide +kernel
theorem dL_law_654 : decode cL_law 654 = .ok (.invokevirtual 83, 3) := by decide +kernel
theorem dL_law_657 : decode cL_law 657 = .ok (.aload_n 2, 1) := by decide +kernel
theorem dL_law_658 : decode cL_law 658 = .ok (.aload_n 0, 1) := by decide +kernel
theorem dL_law_659 : decode cL_law 659 = .ok (.iload 4, 2) := by decide +kernel
theorem dL_law_661 : decode cL_law 661 = .ok (.iconst 1, 1) := by decide +kernel
theorem dL_law_662 : decode cL_law 662 = .ok (.iadd, 1) := by decide +kernel
theorem dL_law_663 : decode cL_law 663 = .ok (.iaload, 1) := by decide +kernel
theorem dL_law_664 : decode cL_law 664 = .ok (.invokevirtual 86, 3) := by decide +kernel
theorem dL_law_667 : decode cL_law 667 = .ok (.if_icmp .eq 721, 3) := by decide +kernel
theorem dL_law_670 : decode cL_law 670 = .ok (.iconst 0, 1) := by decide +kernel
theorem dL_law_671 : decode cL_law 671 = .ok (.ireturn, 1) := by decide +kernel
theorem dL_law_672 : decode cL_law 672 = .ok (.aload_n 1, 1) := by decide +kernel
theorem dL_law_673 : decode cL_law 673 = .ok (.aload_n 0, 1) := by decide +kernel
theorem dL_law_674 : decode cL_law 674 = .ok (.iload 4, 2) := by decide +kernel
theorem dL_law_676 : decode cL_law 676 = .ok (.iconst 1, 1) := by decide +kernel
theorem dL_law_677 : decode cL_law 677 = .ok (.iadd, 1) := by decide +kernel
theorem dL_law_678 : decode cL_law 678 = .ok (.iaload, 1) := by decide +kernel
theorem dL_law_679 : decode cL_law 679 = .ok (.aload_n 0, 1) := by decide +kernel
theorem dL_law_680 : decode cL_law 680 = .ok (.iload 4, 2) := by decide +kernel
theorem dL_law_682 : decode cL_law 682 = .ok (.iconst 2, 1) := by decide +kernel
theorem dL_law_683 : decode cL_law 683 = .ok (.iadd, 1) := by decide +kernel
theorem dL_law_684 : decode cL_law 684 = .ok (.iaload, 1) := by decide +kernel
theorem dL_law_685 : decode cL_law 685 = .ok (.invokevirtual 87, 3) := by decide +kernel
theorem dL_law_688 : decode cL_law 688 = .ok (.aload_n 2, 1) := by decide +kernel
theorem dL_law_689 : decode cL_law 689 = .ok (.aload_n 0, 1) := by decide +kernel
theorem dL_law_690 : decode cL_law 690 = .ok (.iload 4, 2) := by decide +kernel
theorem dL_law_692 : decode cL_law 692 = .ok (.iconst 1, 1) := by decide +kernel
theorem dL_law_693 : decode cL_law 693 = .ok (.iadd, 1) := by decide +kernel
theorem dL_law_694 : decode cL_law 694 = .ok (.iaload, 1) := by decide +kernel
theorem dL_law_695 : decode cL_law 695 = .ok (.aload_n 0, 1) := by decide +kernel
theorem dL_law_696 : decode cL_law 696 = .ok (.iload 4, 2) := by decide +kernel
theorem dL_law_698 : decode cL_law 698 = .ok (.iconst 2, 1) := by decide +kernel
theorem dL_law_699 : decode cL_law 699 = .ok (.iadd, 1) := by decide +kernel
theorem dL_law_700 : decode cL_law 700 = .ok (.iaload, 1) := by decide +kernel
theorem dL_law_701 : decode cL_law 701 = .ok (.invokevirtual 90, 3) := by decide +kernel
theorem dL_law_704 : decode cL_law 704 = .ok (.if_icmp .eq 684, 3) := by decide +kernel
theorem dL_law_707 : decode cL_law 707 = .ok (.iconst 0, 1) := by decide +kernel
theorem dL_law_708 : decode cL_law 708 = .ok (.ireturn, 1) := by decide +kernel
theorem dL_law_709 : decode cL_law 709 = .ok (.aload_n 1, 1) := by decide +kernel
theorem dL_law_710 : decode cL_law 710 = .ok (.invokevirtual 91, 3) := by decide +kernel
theorem dL_law_713 : decode cL_law 713 = .ok (.aload_n 2, 1) := by decide +kernel
theorem dL_law_714 : decode cL_law 714 = .ok (.invokevirtual 94, 3) := by decide +kernel
theorem dL_law_717 : decode cL_law 717 = .ok (.if_icmp .eq 671, 3) := by decide +kernel
theorem dL_law_720 : decode cL_law 720 = .ok (.iconst 0, 1) := by decide +kernel
theorem dL_law_721 : decode cL_law 721 = .ok (.ireturn, 1) := by decide +kernel
theorem dL_law_722 : decode cL_law 722 = .ok (.aload_n 1, 1) := by decide +kernel
theorem dL_law_723 : decode cL_law 723 = .ok (.invokevirtual 95, 3) := by decide +kernel
theorem dL_law_726 : decode cL_law 726 = .ok (.aload_n 2, 1) := by decide +kernel
theorem dL_law_727 : decode cL_law 727 = .ok (.invokevirtual 98, 3) := by decide +kernel
theorem dL_law_730 : decode cL_law 730 = .ok (.if_icmp .eq 658, 3) := by decide +kernel
theorem dL_law_733 : decode cL_law 733 = .ok (.iconst 0, 1) := by decide +kernel
theorem dL_law_734 : decode cL_law 734 = .ok (.ireturn, 1) := by decide +kernel
theorem dL_law_735 : decode cL_law 735 = .ok (.aload_n 1, 1) := by decide +kernel
theorem dL_law_736 : decode cL_law 736 = .ok (.aload_n 0, 1) := by decide +kernel
theorem dL_law_737 : decode cL_law 737 = .ok (.iload 4, 2) := by decide +kernel
theorem dL_law_739 : decode cL_law 739 = .ok (.iconst 1, 1) := by decide +kernel
theorem dL_law_740 : decode cL_law 740 = .ok (.iadd, 1) := by decide +kernel
theorem dL_law_741 : decode cL_law 741 = .ok (.iaload, 1) := by decide +kernel
theorem dL_law_742 : decode cL_law 742 = .ok (.invokevirtual 99, 3) := by decide +kernel
theorem dL_law_745 : decode cL_law 745 = .ok (.aload_n 2, 1) := by decide +kernel
theorem dL_law_746 : decode cL_law 746 = .ok (.aload_n 0, 1) := by decide +kernel
theorem dL_law_747 : decode cL_law 747 = .ok (.iload 4, 2) := by decide +kernel
theorem dL_law_749 : decode cL_law 749 = .ok (.iconst 1, 1) := by decide +kernel
theorem dL_law_750 : decode cL_law 750 = .ok (.iadd, 1) := by decide +kernel
theorem dL_law_751 : decode cL_law 751 = .ok (.iaload, 1) := by decide +kernel
theorem dL_law_752 : decode cL_law 752 = .ok (.invokevirtual 102, 3) := by decide +kernel
theorem dL_law_755 : decode cL_law 755 = .ok (.if_icmp .eq 633, 3) := by decide +kernel
theorem dL_law_758 : decode cL_law 758 = .ok (.iconst 0, 1) := by decide +kernel
theorem dL_law_759 : decode cL_law 759 = .ok (.ireturn, 1) := by decide +kernel
theorem dL_law_760 : decode cL_law 760 = .ok (.aload_n 1, 1) := by decide +kernel
theorem dL_law_761 : decode cL_law 761 = .ok (.invokevirtual 103, 3) := by decide +kernel
theorem dL_law_764 : decode cL_law 764 = .ok (.aload_n 2, 1) := by decide +kernel
theorem dL_law_765 : decode cL_law 765 = .ok (.invokevirtual 106, 3) := by decide +kernel
theorem dL_law_768 : decode cL_law 768 = .ok (.if_icmp .eq 620, 3) := by decide +kernel
theorem dL_law_771 : decode cL_law 771 = .ok (.iconst 0, 1) := by decide +kernel
theorem dL_law_772 : decode cL_law 772 = .ok (.ireturn, 1) := by decide +kernel
theorem dL_law_773 : decode cL_law 773 = .ok (.aload_n 1, 1) := by decide +kernel
theorem dL_law_774 : decode cL_law 774 = .ok (.aload_n 0, 1) := by decide +kernel
theorem dL_law_775 : decode cL_law 775 = .ok (.iload 4, 2) := by decide +kernel
theorem dL_law_777 : decode cL_law 777 = .ok (.iconst 1, 1) := by decide +kernel
theorem dL_law_778 : decode cL_law 778 = .ok (.iadd, 1) := by decide +kernel
theorem dL_law_779 : decode cL_law 779 = .ok (.iaload, 1) := by decide +kernel
theorem dL_law_780 : decode cL_law 780 = .ok (.aload_n 0, 1) := by decide +kernel
theorem dL_law_781 : decode cL_law 781 = .ok (.iload 4, 2) := by decide +kernel
theorem dL_law_783 : decode cL_law 783 = .ok (.iconst 2, 1) := by decide +kernel
theorem dL_law_784 : decode cL_law 784 = .ok (.iadd, 1) := by decide +kernel
theorem dL_law_785 : decode cL_law 785 = .ok (.iaload, 1) := by decide +kernel
theorem dL_law_786 : decode cL_law 786 = .ok (.invokevirtual 107, 3) := by decide +kernel
theorem dL_law_789 : decode cL_law 789 = .ok (.aload_n 2, 1) := by decide +kernel
theorem dL_law_790 : decode cL_law 790 = .ok (.aload_n 0, 1) := by decide +kernel
theorem dL_law_791 : decode cL_law 791 = .ok (.iload 4, 2) := by decide +kernel
theorem dL_law_793 : decode cL_law 793 = .ok (.iconst 1, 1) := by decide +kernel
theorem dL_law_794 : decode cL_law 794 = .ok (.iadd, 1) := by decide +kernel
theorem dL_law_795 : decode cL_law 795 = .ok (.iaload, 1) := by decide +kernel
theorem dL_law_796 : decode cL_law 796 = .ok (.aload_n 0, 1) := by decide +kernel
theorem dL_law_797 : decode cL_law 797 = .ok (.iload 4, 2) := by decide +kernel
theorem dL_law_799 : decode cL_law 799 = .ok (.iconst 2, 1) := by decide +kernel
theorem dL_law_800 : decode cL_law 800 = .ok (.iadd, 1) := by decide +kernel
theorem dL_law_801 : decode cL_law 801 = .ok (.iaload, 1) := by decide +kernel
theorem dL_law_802 : decode cL_law 802 = .ok (.invokevirtual 110, 3) := by decide +kernel
theorem dL_law_805 : decode cL_law 805 = .ok (.if_icmp .eq 583, 3) := by decide +kernel
theorem dL_law_808 : decode cL_law 808 = .ok (.iconst 0, 1) := by decide +kernel
theorem dL_law_809 : decode cL_law 809 = .ok (.ireturn, 1) := by decide +kernel
theorem dL_law_810 : decode cL_law 810 = .ok (.aload_n 1, 1) := by decide +kernel
theorem dL_law_811 : decode cL_law 811 = .ok (.invokevirtual 111, 3) := by decide +kernel
theorem dL_law_814 : decode cL_law 814 = .ok (.aload_n 2, 1) := by decide +kernel
theorem dL_law_815 : decode cL_law 815 = .ok (.invokevirtual 114, 3) := by decide +kernel
theorem dL_law_818 : decode cL_law 818 = .ok (.if_icmp .eq 570, 3) := by decide +kernel
theorem dL_law_821 : decode cL_law 821 = .ok (.iconst 0, 1) := by decide +kernel
theorem dL_law_822 : decode cL_law 822 = .ok (.ireturn, 1) := by decide +kernel
theorem dL_law_823 : decode cL_law 823 = .ok (.aload_n 1, 1) := by decide +kernel
theorem dL_law_824 : decode cL_law 824 = .ok (.aload_n 0, 1) := by decide +kernel
theorem dL_law_825 : decode cL_law 825 = .ok (.iload 4, 2) := by decide +kernel
theorem dL_law_827 : decode cL_law 827 = .ok (.iconst 1, 1) := by decide +kernel
theorem dL_law_828 : decode cL_law 828 = .ok (.iadd, 1) := by decide +kernel
theorem dL_law_829 : decode cL_law 829 = .ok (.iaload, 1) := by decide +kernel
theorem dL_law_830 : decode cL_law 830 = .ok (.aload_n 0, 1) := by decide +kernel
theorem dL_law_831 : decode cL_law 831 = .ok (.iload 4, 2) := by decide +kernel
theorem dL_law_833 : decode cL_law 833 = .ok (.iconst 2, 1) := by decide +kernel
theorem dL_law_834 : decode cL_law 834 = .ok (.iadd, 1) := by decide +kernel
theorem dL_law_835 : decode cL_law 835 = .ok (.iaload, 1) := by decide +kernel
theorem dL_law_836 : decode cL_law 836 = .ok (.ifCond .eq 7, 3) := by decide +kernel
theorem dL_law_839 : decode cL_law 839 = .ok (.iconst 1, 1) := by decide +kernel
theorem dL_law_840 : decode cL_law 840 = .ok (.goto 4, 3) := by decide +kernel
theorem dL_law_843 : decode cL_law 843 = .ok (.iconst 0, 1) := by decide +kernel
theorem dL_law_844 : decode cL_law 844 = .ok (.invokevirtual 115, 3) := by decide +kernel
theorem dL_law_847 : decode cL_law 847 = .ok (.aload_n 2, 1) := by decide +kernel
theorem dL_law_848 : decode cL_law 848 = .ok (.aload_n 0, 1) := by decide +kernel
theorem dL_law_849 : decode cL_law 849 = .ok (.iload 4, 2) := by decide +kernel
theorem dL_law_851 : decode cL_law 851 = .ok (.iconst 1, 1) := by decide +kernel
theorem dL_law_852 : decode cL_law 852 = .ok (.iadd, 1) := by decide +kernel
theorem dL_law_853 : decode cL_law 853 = .ok (.iaload, 1) := by decide +kernel
theorem dL_law_854 : decode cL_law 854 = .ok (.aload_n 0, 1) := by decide +kernel
theorem dL_law_855 : decode cL_law 855 = .ok (.iload 4, 2) := by decide +kernel
theorem dL_law_857 : decode cL_law 857 = .ok (.iconst 2, 1) := by decide +kernel
theorem dL_law_858 : decode cL_law 858 = .ok (.iadd, 1) := by decide +kernel
theorem dL_law_859 : decode cL_law 859 = .ok (.iaload, 1) := by decide +kernel
theorem dL_law_860 : decode cL_law 860 = .ok (.ifCond .eq 7, 3) := by decide +kernel
theorem dL_law_863 : decode cL_law 863 = .ok (.iconst 1, 1) := by decide +kernel
theorem dL_law_864 : decode cL_law 864 = .ok (.goto 4, 3) := by decide +kernel
theorem dL_law_867 : decode cL_law 867 = .ok (.iconst 0, 1) := by decide +kernel
theorem dL_law_868 : decode cL_law 868 = .ok (.invokevirtual 119, 3) := by decide +kernel
theorem dL_law_871 : decode cL_law 871 = .ok (.if_icmp .eq 517, 3) := by decide +kernel
theorem dL_law_874 : decode cL_law 874 = .ok (.iconst 0, 1) := by decide +kernel
theorem dL_law_875 : decode cL_law 875 = .ok (.ireturn, 1) := by decide +kernel
theorem dL_law_876 : decode cL_law 876 = .ok (.aload_n 1, 1) := by decide +kernel
theorem dL_law_877 : decode cL_law 877 = .ok (.aload_n 0, 1) := by decide +kernel
theorem dL_law_878 : decode cL_law 878 = .ok (.iload 4, 2) := by decide +kernel
theorem dL_law_880 : decode cL_law 880 = .ok (.iconst 1, 1) := by decide +kernel
theorem dL_law_881 : decode cL_law 881 = .ok (.iadd, 1) := by decide +kernel
theorem dL_law_882 : decode cL_law 882 = .ok (.iaload, 1) := by decide +kernel
theorem dL_law_883 : decode cL_law 883 = .ok (.aload_n 0, 1) := by decide +kernel
theorem dL_law_884 : decode cL_law 884 = .ok (.iload 4, 2) := by decide +kernel
theorem dL_law_886 : decode cL_law 886 = .ok (.iconst 2, 1) := by decide +kernel
theorem dL_law_887 : decode cL_law 887 = .ok (.iadd, 1) := by decide +kernel
theorem dL_law_888 : decode cL_law 888 = .ok (.iaload, 1) := by decide +kernel
theorem dL_law_889 : decode cL_law 889 = .ok (.aload_n 0, 1) := by decide +kernel
theorem dL_law_890 : decode cL_law 890 = .ok (.iload 4, 2) := by decide +kernel
theorem dL_law_892 : decode cL_law 892 = .ok (.iconst 3, 1) := by decide +kernel
theorem dL_law_893 : decode cL_law 893 = .ok (.iadd, 1) := by decide +kernel
theorem dL_law_894 : decode cL_law 894 = .ok (.iaload, 1) := by decide +kernel
theorem dL_law_895 : decode cL_law 895 = .ok (.ifCond .eq 7, 3) := by decide +kernel
theorem dL_law_898 : decode cL_law 898 = .ok (.iconst 1, 1) := by decide +kernel
theorem dL_law_899 : decode cL_law 899 = .ok (.goto 4, 3) := by decide +kernel
theorem dL_law_902 : decode cL_law 902 = .ok (.iconst 0, 1) := by decide +kernel
theorem dL_law_903 : decode cL_law 903 = .ok (.invokevirtual 120, 3) := by decide +kernel
theorem dL_law_906 : decode cL_law 906 = .ok (.aload_n 2, 1) := by decide +kernel
theorem dL_law_907 : decode cL_law 907 = .ok (.aload_n 0, 1) := by decide +kernel
theorem dL_law_908 : decode cL_law 908 = .ok (.iload 4, 2) := by decide +kernel
theorem dL_law_910 : decode cL_law 910 = .ok (.iconst 1, 1) := by decide +kernel
theorem dL_law_911 : decode cL_law 911 = .ok (.iadd, 1) := by decide +kernel
theorem dL_law_912 : decode cL_law 912 = .ok (.iaload, 1) := by decide +kernel
theorem dL_law_913 : decode cL_law 913 = .ok (.aload_n 0, 1) := by decide +kernel
theorem dL_law_914 : decode cL_law 914 = .ok (.iload 4, 2) := by decide +kernel
theorem dL_law_916 : decode cL_law 916 = .ok (.iconst 2, 1) := by decide +kernel
theorem dL_law_917 : decode cL_law 917 = .ok (.iadd, 1) := by decide +kernel
theorem dL_law_918 : decode cL_law 918 = .ok (.iaload, 1) := by decide +kernel
theorem dL_law_919 : decode cL_law 919 = .ok (.aload_n 0, 1) := by decide +kernel
theorem dL_law_920 : decode cL_law 920 = .ok (.iload 4, 2) := by decide +kernel
theorem dL_law_922 : decode cL_law 922 = .ok (.iconst 3, 1) := by decide +kernel
theorem dL_law_923 : decode cL_law 923 = .ok (.iadd, 1) := by decide +kernel
theorem dL_law_924 : decode cL_law 924 = .ok (.iaload, 1) := by decide +kernel
theorem dL_law_925 : decode cL_law 925 = .ok (.ifCond .eq 7, 3) := by decide +kernel
theorem dL_law_928 : decode cL_law 928 = .ok (.iconst 1, 1) := by decide +kernel
theorem dL_law_929 : decode cL_law 929 = .ok (.goto 4, 3) := by decide +kernel
theorem dL_law_932 : decode cL_law 932 = .ok (.iconst 0, 1) := by decide +kernel
theorem dL_law_933 : decode cL_law 933 = .ok (.invokevirtual 124, 3) := by decide +kernel
theorem dL_law_936 : decode cL_law 936 = .ok (.if_icmp .eq 452, 3) := by decide +kernel
theorem dL_law_939 : decode cL_law 939 = .ok (.iconst 0, 1) := by decide +kernel
theorem dL_law_940 : decode cL_law 940 = .ok (.ireturn, 1) := by decide +kernel
theorem dL_law_941 : decode cL_law 941 = .ok (.aload_n 1, 1) := by decide +kernel
theorem dL_law_942 : decode cL_law 942 = .ok (.aload_n 0, 1) := by decide +kernel
theorem dL_law_943 : decode cL_law 943 = .ok (.iload 4, 2) := by decide +kernel
theorem dL_law_945 : decode cL_law 945 = .ok (.iconst 1, 1) := by decide +kernel
theorem dL_law_946 : decode cL_law 946 = .ok (.iadd, 1) := by decide +kernel
theorem dL_law_947 : decode cL_law 947 = .ok (.iaload, 1) := by decide +kernel
theorem dL_law_948 : decode cL_law 948 = .ok (.invokevirtual 125, 3) := by decide +kernel
theorem dL_law_951 : decode cL_law 951 = .ok (.aload_n 2, 1) := by decide +kernel
theorem dL_law_952 : decode cL_law 952 = .ok (.aload_n 0, 1) := by decide +kernel
theorem dL_law_953 : decode cL_law 953 = .ok (.iload 4, 2) := by decide +kernel
theorem dL_law_955 : decode cL_law 955 = .ok (.iconst 1, 1) := by decide +kernel
theorem dL_law_956 : decode cL_law 956 = .ok (.iadd, 1) := by decide +kernel
theorem dL_law_957 : decode cL_law 957 = .ok (.iaload, 1) := by decide +kernel
theorem dL_law_958 : decode cL_law 958 = .ok (.invokevirtual 128, 3) := by decide +kernel
theorem dL_law_961 : decode cL_law 961 = .ok (.if_icmp .eq 427, 3) := by decide +kernel
theorem dL_law_964 : decode cL_law 964 = .ok (.iconst 0, 1) := by decide +kernel
theorem dL_law_965 : decode cL_law 965 = .ok (.ireturn, 1) := by decide +kernel
theorem dL_law_966 : decode cL_law 966 = .ok (.aload_n 1, 1) := by decide +kernel
theorem dL_law_967 : decode cL_law 967 = .ok (.aload_n 0, 1) := by decide +kernel
theorem dL_law_968 : decode cL_law 968 = .ok (.iload 4, 2) := by decide +kernel
theorem dL_law_970 : decode cL_law 970 = .ok (.iconst 1, 1) := by decide +kernel
theorem dL_law_971 : decode cL_law 971 = .ok (.iadd, 1) := by decide +kernel
theorem dL_law_972 : decode cL_law 972 = .ok (.iaload, 1) := by decide +kernel
theorem dL_law_973 : decode cL_law 973 = .ok (.invokevirtual 129, 3) := by decide +kernel
theorem dL_law_976 : decode cL_law 976 = .ok (.aload_n 2, 1) := by decide +kernel
theorem dL_law_977 : decode cL_law 977 = .ok (.aload_n 0, 1) := by decide +kernel
theorem dL_law_978 : decode cL_law 978 = .ok (.iload 4, 2) := by decide +kernel
theorem dL_law_980 : decode cL_law 980 = .ok (.iconst 1, 1) := by decide +kernel
theorem dL_law_981 : decode cL_law 981 = .ok (.iadd, 1) := by decide +kernel
theorem dL_law_982 : decode cL_law 982 = .ok (.iaload, 1) := by decide +kernel
theorem dL_law_983 : decode cL_law 983 = .ok (.invokevirtual 132, 3) := by decide +kernel
theorem dL_law_986 : decode cL_law 986 = .ok (.if_icmp .eq 402, 3) := by decide +kernel
theorem dL_law_989 : decode cL_law 989 = .ok (.iconst 0, 1) := by decide +kernel
theorem dL_law_990 : decode cL_law 990 = .ok (.ireturn, 1) := by decide +kernel
theorem dL_law_991 : decode cL_law 991 = .ok (.aload_n 1, 1) := by decide +kernel
theorem dL_law_992 : decode cL_law 992 = .ok (.aload_n 0, 1) := by decide +kernel
theorem dL_law_993 : decode cL_law 993 = .ok (.iload 4, 2) := by decide +kernel
theorem dL_law_995 : decode cL_law 995 = .ok (.iconst 1, 1) := by decide +kernel
theorem dL_law_996 : decode cL_law 996 = .ok (.iadd, 1) := by decide +kernel
theorem dL_law_997 : decode cL_law 997 = .ok (.iaload, 1) := by decide +kernel
theorem dL_law_998 : decode cL_law 998 = .ok (.aload_n 0, 1) := by decide +kernel
theorem dL_law_999 : decode cL_law 999 = .ok (.iload 4, 2) := by decide +kernel
theorem dL_law_1001 : decode cL_law 1001 = .ok (.iconst 2, 1) := by decide +kernel
theorem dL_law_1002 : decode cL_law 1002 = .ok (.iadd, 1) := by decide +kernel
theorem dL_law_1003 : decode cL_law 1003 = .ok (.iaload, 1) := by decide +kernel
theorem dL_law_1004 : decode cL_law 1004 = .ok (.invokevirtual 133, 3) := by decide +kernel
theorem dL_law_1007 : decode cL_law 1007 = .ok (.aload_n 2, 1) := by decide +kernel
theorem dL_law_1008 : decode cL_law 1008 = .ok (.aload_n 0, 1) := by decide +kernel
theorem dL_law_1009 : decode cL_law 1009 = .ok (.iload 4, 2) := by decide +kernel
theorem dL_law_1011 : decode cL_law 1011 = .ok (.iconst 1, 1) := by decide +kernel
theorem dL_law_1012 : decode cL_law 1012 = .ok (.iadd, 1) := by decide +kernel
theorem dL_law_1013 : decode cL_law 1013 = .ok (.iaload, 1) := by decide +kernel
theorem dL_law_1014 : decode cL_law 1014 = .ok (.aload_n 0, 1) := by decide +kernel
theorem dL_law_1015 : decode cL_law 1015 = .ok (.iload 4, 2) := by decide +kernel
theorem dL_law_1017 : decode cL_law 1017 = .ok (.iconst 2, 1) := by decide +kernel
theorem dL_law_1018 : decode cL_law 1018 = .ok (.iadd, 1) := by decide +kernel
theorem dL_law_1019 : decode cL_law 1019 = .ok (.iaload, 1) := by decide +kernel
theorem dL_law_1020 : decode cL_law 1020 = .ok (.invokevirtual 136, 3) := by decide +kernel
theorem dL_law_1023 : decode cL_law 1023 = .ok (.if_icmp .eq 365, 3) := by decide +kernel
theorem dL_law_1026 : decode cL_law 1026 = .ok (.iconst 0, 1) := by decide +kernel
theorem dL_law_1027 : decode cL_law 1027 = .ok (.ireturn, 1) := by decide +kernel
theorem dL_law_1028 : decode cL_law 1028 = .ok (.aload_n 1, 1) := by decide +kernel
theorem dL_law_1029 : decode cL_law 1029 = .ok (.aload_n 0, 1) := by decide +kernel
theorem dL_law_1030 : decode cL_law 1030 = .ok (.iload 4, 2) := by decide +kernel
theorem dL_law_1032 : decode cL_law 1032 = .ok (.iconst 1, 1) := by decide +kernel
theorem dL_law_1033 : decode cL_law 1033 = .ok (.iadd, 1) := by decide +kernel
theorem dL_law_1034 : decode cL_law 1034 = .ok (.iaload, 1) := by decide +kernel
theorem dL_law_1035 : decode cL_law 1035 = .ok (.aload_n 0, 1) := by decide +kernel
theorem dL_law_1036 : decode cL_law 1036 = .ok (.iload 4, 2) := by decide +kernel
theorem dL_law_1038 : decode cL_law 1038 = .ok (.iconst 2, 1) := by decide +kernel
theorem dL_law_1039 : decode cL_law 1039 = .ok (.iadd, 1) := by decide +kernel
theorem dL_law_1040 : decode cL_law 1040 = .ok (.iaload, 1) := by decide +kernel
theorem dL_law_1041 : decode cL_law 1041 = .ok (.invokevirtual 137, 3) := by decide +kernel
theorem dL_law_1044 : decode cL_law 1044 = .ok (.aload_n 2, 1) := by decide +kernel
theorem dL_law_1045 : decode cL_law 1045 = .ok (.aload_n 0, 1) := by decide +kernel
theorem dL_law_1046 : decode cL_law 1046 = .ok (.iload 4, 2) := by decide +kernel
theorem dL_law_1048 : decode cL_law 1048 = .ok (.iconst 1, 1) := by decide +kernel
theorem dL_law_1049 : decode cL_law 1049 = .ok (.iadd, 1) := by decide +kernel
theorem dL_law_1050 : decode cL_law 1050 = .ok (.iaload, 1) := by decide +kernel
theorem dL_law_1051 : decode cL_law 1051 = .ok (.aload_n 0, 1) := by decide +kernel
theorem dL_law_1052 : decode cL_law 1052 = .ok (.iload 4, 2) := by decide +kernel
theorem dL_law_1054 : decode cL_law 1054 = .ok (.iconst 2, 1) := by decide +kernel
theorem dL_law_1055 : decode cL_law 1055 = .ok (.iadd, 1) := by decide +kernel
theorem dL_law_1056 : decode cL_law 1056 = .ok (.iaload, 1) := by decide +kernel
theorem dL_law_1057 : decode cL_law 1057 = .ok (.invokevirtual 140, 3) := by decide +kernel
theorem dL_law_1060 : decode cL_law 1060 = .ok (.if_icmp .eq 328, 3) := by decide +kernel
theorem dL_law_1063 : decode cL_law 1063 = .ok (.iconst 0, 1) := by decide +kernel
theorem dL_law_1064 : decode cL_law 1064 = .ok (.ireturn, 1) := by decide +kernel
theorem dL_law_1065 : decode cL_law 1065 = .ok (.aload_n 1, 1) := by decide +kernel
theorem dL_law_1066 : decode cL_law 1066 = .ok (.invokevirtual 141, 3) := by decide +kernel
theorem dL_law_1069 : decode cL_law 1069 = .ok (.aload_n 2, 1) := by decide +kernel
theorem dL_law_1070 : decode cL_law 1070 = .ok (.invokevirtual 144, 3) := by decide +kernel
theorem dL_law_1073 : decode cL_law 1073 = .ok (.if_icmp .eq 315, 3) := by decide +kernel
theorem dL_law_1076 : decode cL_law 1076 = .ok (.iconst 0, 1) := by decide +kernel
theorem dL_law_1077 : decode cL_law 1077 = .ok (.ireturn, 1) := by decide +kernel
theorem dL_law_1078 : decode cL_law 1078 = .ok (.aload_n 1, 1) := by decide +kernel
theorem dL_law_1079 : decode cL_law 1079 = .ok (.invokevirtual 145, 3) := by decide +kernel
theorem dL_law_1082 : decode cL_law 1082 = .ok (.aload_n 2, 1) := by decide +kernel
theorem dL_law_1083 : decode cL_law 1083 = .ok (.invokevirtual 148, 3) := by decide +kernel
theorem dL_law_1086 : decode cL_law 1086 = .ok (.if_icmp .eq 302, 3) := by decide +kernel
theorem dL_law_1089 : decode cL_law 1089 = .ok (.iconst 0, 1) := by decide +kernel
theorem dL_law_1090 : decode cL_law 1090 = .ok (.ireturn, 1) := by decide +kernel
theorem dL_law_1091 : decode cL_law 1091 = .ok (.aload_n 1, 1) := by decide +kernel
theorem dL_law_1092 : decode cL_law 1092 = .ok (.aload_n 0, 1) := by decide +kernel
theorem dL_law_1093 : decode cL_law 1093 = .ok (.iload 4, 2) := by decide +kernel
theorem dL_law_1095 : decode cL_law 1095 = .ok (.iconst 1, 1) := by decide +kernel
theorem dL_law_1096 : decode cL_law 1096 = .ok (.iadd, 1) := by decide +kernel
theorem dL_law_1097 : decode cL_law 1097 = .ok (.iaload, 1) := by decide +kernel
theorem dL_law_1098 : decode cL_law 1098 = .ok (.ifCond .eq 7, 3) := by decide +kernel
theorem dL_law_1101 : decode cL_law 1101 = .ok (.iconst 1, 1) := by decide +kernel
theorem dL_law_1102 : decode cL_law 1102 = .ok (.goto 4, 3) := by decide +kernel
theorem dL_law_1105 : decode cL_law 1105 = .ok (.iconst 0, 1) := by decide +kernel
theorem dL_law_1106 : decode cL_law 1106 = .ok (.invokevirtual 149, 3) := by decide +kernel
theorem dL_law_1109 : decode cL_law 1109 = .ok (.aload_n 2, 1) := by decide +kernel
theorem dL_law_1110 : decode cL_law 1110 = .ok (.aload_n 0, 1) := by decide +kernel
theorem dL_law_1111 : decode cL_law 1111 = .ok (.iload 4, 2) := by decide +kernel
theorem dL_law_1113 : decode cL_law 1113 = .ok (.iconst 1, 1) := by decide +kernel
theorem dL_law_1114 : decode cL_law 1114 = .ok (.iadd, 1) := by decide +kernel
theorem dL_law_1115 : decode cL_law 1115 = .ok (.iaload, 1) := by decide +kernel
theorem dL_law_1116 : decode cL_law 1116 = .ok (.ifCond .eq 7, 3) := by decide +kernel
theorem dL_law_1119 : decode cL_law 1119 = .ok (.iconst 1, 1) := by decide +kernel
theorem dL_law_1120 : decode cL_law 1120 = .ok (.goto 4, 3) := by decide +kernel
theorem dL_law_1123 : decode cL_law 1123 = .ok (.iconst 0, 1) := by decide +kernel
theorem dL_law_1124 : decode cL_law 1124 = .ok (.invokevirtual 152, 3) := by decide +kernel
theorem dL_law_1127 : decode cL_law 1127 = .ok (.if_icmp .eq 261, 3) := by decide +kernel
theorem dL_law_1130 : decode cL_law 1130 = .ok (.iconst 0, 1) := by decide +kernel
theorem dL_law_1131 : decode cL_law 1131 = .ok (.ireturn, 1) := by decide +kernel
theorem dL_law_1132 : decode cL_law 1132 = .ok (.aload_n 1, 1) := by decide +kernel
theorem dL_law_1133 : decode cL_law 1133 = .ok (.aload_n 0, 1) := by decide +kernel
theorem dL_law_1134 : decode cL_law 1134 = .ok (.iload 4, 2) := by decide +kernel
theorem dL_law_1136 : decode cL_law 1136 = .ok (.iconst 1, 1) := by decide +kernel
theorem dL_law_1137 : decode cL_law 1137 = .ok (.iadd, 1) := by decide +kernel
theorem dL_law_1138 : decode cL_law 1138 = .ok (.iaload, 1) := by decide +kernel
theorem dL_law_1139 : decode cL_law 1139 = .ok (.aload_n 0, 1) := by decide +kernel
theorem dL_law_1140 : decode cL_law 1140 = .ok (.iload 4, 2) := by decide +kernel
theorem dL_law_1142 : decode cL_law 1142 = .ok (.iconst 2, 1) := by decide +kernel
theorem dL_law_1143 : decode cL_law 1143 = .ok (.iadd, 1) := by decide +kernel
theorem dL_law_1144 : decode cL_law 1144 = .ok (.iaload, 1) := by decide +kernel
theorem dL_law_1145 : decode cL_law 1145 = .ok (.aload_n 0, 1) := by decide +kernel
theorem dL_law_1146 : decode cL_law 1146 = .ok (.iload 4, 2) := by decide +kernel
theorem dL_law_1148 : decode cL_law 1148 = .ok (.iconst 3, 1) := by decide +kernel
theorem dL_law_1149 : decode cL_law 1149 = .ok (.iadd, 1) := by decide +kernel
theorem dL_law_1150 : decode cL_law 1150 = .ok (.iaload, 1) := by decide +kernel
theorem dL_law_1151 : decode cL_law 1151 = .ok (.invokevirtual 153, 3) := by decide +kernel
theorem dL_law_1154 : decode cL_law 1154 = .ok (.aload_n 2, 1) := by decide +kernel
theorem dL_law_1155 : decode cL_law 1155 = .ok (.aload_n 0, 1) := by decide +kernel
theorem dL_law_1156 : decode cL_law 1156 = .ok (.iload 4, 2) := by decide +kernel
theorem dL_law_1158 : decode cL_law 1158 = .ok (.iconst 1, 1) := by decide +kernel
theorem dL_law_1159 : decode cL_law 1159 = .ok (.iadd, 1) := by decide +kernel
theorem dL_law_1160 : decode cL_law 1160 = .ok (.iaload, 1) := by decide +kernel
theorem dL_law_1161 : decode cL_law 1161 = .ok (.aload_n 0, 1) := by decide +kernel
theorem dL_law_1162 : decode cL_law 1162 = .ok (.iload 4, 2) := by decide +kernel
theorem dL_law_1164 : decode cL_law 1164 = .ok (.iconst 2, 1) := by decide +kernel
theorem dL_law_1165 : decode cL_law 1165 = .ok (.iadd, 1) := by decide +kernel
theorem dL_law_1166 : decode cL_law 1166 = .ok (.iaload, 1) := by decide +kernel
theorem dL_law_1167 : decode cL_law 1167 = .ok (.aload_n 0, 1) := by decide +kernel
theorem dL_law_1168 : decode cL_law 1168 = .ok (.iload 4, 2) := by decide +kernel
theorem dL_law_1170 : decode cL_law 1170 = .ok (.iconst 3, 1) := by decide +kernel
theorem dL_law_1171 : decode cL_law 1171 = .ok (.iadd, 1) := by decide +kernel
theorem dL_law_1172 : decode cL_law 1172 = .ok (.iaload, 1) := by decide +kernel
theorem dL_law_1173 : decode cL_law 1173 = .ok (.invokevirtual 157, 3) := by decide +kernel
theorem dL_law_1176 : decode cL_law 1176 = .ok (.if_icmp .eq 212, 3) := by decide +kernel
theorem dL_law_1179 : decode cL_law 1179 = .ok (.iconst 0, 1) := by decide +kernel
theorem dL_law_1180 : decode cL_law 1180 = .ok (.ireturn, 1) := by decide +kernel
theorem dL_law_1181 : decode cL_law 1181 = .ok (.aload_n 1, 1) := by decide +kernel
theorem dL_law_1182 : decode cL_law 1182 = .ok (.aload_n 0, 1) := by decide +kernel
theorem dL_law_1183 : decode cL_law 1183 = .ok (.iload 4, 2) := by decide +kernel
theorem dL_law_1185 : decode cL_law 1185 = .ok (.iconst 1, 1) := by decide +kernel
theorem dL_law_1186 : decode cL_law 1186 = .ok (.iadd, 1) := by decide +kernel
theorem dL_law_1187 : decode cL_law 1187 = .ok (.iaload, 1) := by decide +kernel
theorem dL_law_1188 : decode cL_law 1188 = .ok (.aload_n 0, 1) := by decide +kernel
theorem dL_law_1189 : decode cL_law 1189 = .ok (.iload 4, 2) := by decide +kernel
theorem dL_law_1191 : decode cL_law 1191 = .ok (.iconst 2, 1) := by decide +kernel
theorem dL_law_1192 : decode cL_law 1192 = .ok (.iadd, 1) := by decide +kernel
theorem dL_law_1193 : decode cL_law 1193 = .ok (.iaload, 1) := by decide +kernel
theorem dL_law_1194 : decode cL_law 1194 = .ok (.invokevirtual 158, 3) := by decide +kernel
theorem dL_law_1197 : decode cL_law 1197 = .ok (.aload_n 2, 1) := by decide +kernel
theorem dL_law_1198 : decode cL_law 1198 = .ok (.aload_n 0, 1) := by decide +kernel
theorem dL_law_1199 : decode cL_law 1199 = .ok (.iload 4, 2) := by decide +kernel
theorem dL_law_1201 : decode cL_law 1201 = .ok (.iconst 1, 1) := by decide +kernel
theorem dL_law_1202 : decode cL_law 1202 = .ok (.iadd, 1) := by decide +kernel
theorem dL_law_1203 : decode cL_law 1203 = .ok (.iaload, 1) := by decide +kernel
theorem dL_law_1204 : decode cL_law 1204 = .ok (.aload_n 0, 1) := by decide +kernel
theorem dL_law_1205 : decode cL_law 1205 = .ok (.iload 4, 2) := by decide +kernel
theorem dL_law_1207 : decode cL_law 1207 = .ok (.iconst 2, 1) := by decide +kernel
theorem dL_law_1208 : decode cL_law 1208 = .ok (.iadd, 1) := by decide +kernel
theorem dL_law_1209 : decode cL_law 1209 = .ok (.iaload, 1) := by decide +kernel
theorem dL_law_1210 : decode cL_law 1210 = .ok (.invokevirtual 161, 3) := by decide +kernel
theorem dL_law_1213 : decode cL_law 1213 = .ok (.if_icmp .eq 175, 3) := by decide +kernel
theorem dL_law_1216 : decode cL_law 1216 = .ok (.iconst 0, 1) := by decide +kernel
theorem dL_law_1217 : decode cL_law 1217 = .ok (.ireturn, 1) := by decide +kernel
theorem dL_law_1218 : decode cL_law 1218 = .ok (.aload_n 1, 1) := by decide +kernel
theorem dL_law_1219 : decode cL_law 1219 = .ok (.invokevirtual 162, 3) := by decide +kernel
theorem dL_law_1222 : decode cL_law 1222 = .ok (.aload_n 2, 1) := by decide +kernel
theorem dL_law_1223 : decode cL_law 1223 = .ok (.invokevirtual 165, 3) := by decide +kernel
theorem dL_law_1226 : decode cL_law 1226 = .ok (.if_icmp .eq 162, 3) := by decide +kernel
theorem dL_law_1229 : decode cL_law 1229 = .ok (.iconst 0, 1) := by decide +kernel
theorem dL_law_1230 : decode cL_law 1230 = .ok (.ireturn, 1) := by decide +kernel
theorem dL_law_1231 : decode cL_law 1231 = .ok (.aload_n 1, 1) := by decide +kernel
theorem dL_law_1232 : decode cL_law 1232 = .ok (.aload_n 0, 1) := by decide +kernel
theorem dL_law_1233 : decode cL_law 1233 = .ok (.iload 4, 2) := by decide +kernel
theorem dL_law_1235 : decode cL_law 1235 = .ok (.iconst 1, 1) := by decide +kernel
theorem dL_law_1236 : decode cL_law 1236 = .ok (.iadd, 1) := by decide +kernel
theorem dL_law_1237 : decode cL_law 1237 = .ok (.iaload, 1) := by decide +kernel
theorem dL_law_1238 : decode cL_law 1238 = .ok (.invokevirtual 166, 3) := by decide +kernel
theorem dL_law_1241 : decode cL_law 1241 = .ok (.aload_n 2, 1) := by decide +kernel
theorem dL_law_1242 : decode cL_law 1242 = .ok (.aload_n 0, 1) := by decide +kernel
theorem dL_law_1243 : decode cL_law 1243 = .ok (.iload 4, 2) := by decide +kernel
theorem dL_law_1245 : decode cL_law 1245 = .ok (.iconst 1, 1) := by decide +kernel
theorem dL_law_1246 : decode cL_law 1246 = .ok (.iadd, 1) := by decide +kernel
theorem dL_law_1247 : decode cL_law 1247 = .ok (.iaload, 1) := by decide +kernel
theorem dL_law_1248 : decode cL_law 1248 = .ok (.invokevirtual 169, 3) := by decide +kernel
theorem dL_law_1251 : decode cL_law 1251 = .ok (.if_icmp .eq 137, 3) := by decide +kernel
theorem dL_law_1254 : decode cL_law 1254 = .ok (.iconst 0, 1) := by decide +kernel
theorem dL_law_1255 : decode cL_law 1255 = .ok (.ireturn, 1) := by decide +kernel
theorem dL_law_1256 : decode cL_law 1256 = .ok (.aload_n 1, 1) := by decide +kernel
theorem dL_law_1257 : decode cL_law 1257 = .ok (.aload_n 0, 1) := by decide +kernel
theorem dL_law_1258 : decode cL_law 1258 = .ok (.iload 4, 2) := by decide +kernel
theorem dL_law_1260 : decode cL_law 1260 = .ok (.iconst 1, 1) := by decide +kernel
theorem dL_law_1261 : decode cL_law 1261 = .ok (.iadd, 1) := by decide +kernel
theorem dL_law_1262 : decode cL_law 1262 = .ok (.iaload, 1) := by decide +kernel
theorem dL_law_1263 : decode cL_law 1263 = .ok (.invokevirtual 170, 3) := by decide +kernel
theorem dL_law_1266 : decode cL_law 1266 = .ok (.aload_n 2, 1) := by decide +kernel
theorem dL_law_1267 : decode cL_law 1267 = .ok (.aload_n 0, 1) := by decide +kernel
theorem dL_law_1268 : decode cL_law 1268 = .ok (.iload 4, 2) := by decide +kernel
theorem dL_law_1270 : decode cL_law 1270 = .ok (.iconst 1, 1) := by decide +kernel
theorem dL_law_1271 : decode cL_law 1271 = .ok (.iadd, 1) := by decide +kernel
theorem dL_law_1272 : decode cL_law 1272 = .ok (.iaload, 1) := by decide +kernel
theorem dL_law_1273 : decode cL_law 1273 = .ok (.invokevirtual 173, 3) := by decide +kernel
theorem dL_law_1276 : decode cL_law 1276 = .ok (.if_icmp .eq 112, 3) := by decide +kernel
theorem dL_law_1279 : decode cL_law 1279 = .ok (.iconst 0, 1) := by decide +kernel
theorem dL_law_1280 : decode cL_law 1280 = .ok (.ireturn, 1) := by decide +kernel
theorem dL_law_1281 : decode cL_law 1281 = .ok (.aload_n 1, 1) := by decide +kernel
theorem dL_law_1282 : decode cL_law 1282 = .ok (.invokevirtual 174, 3) := by decide +kernel
theorem dL_law_1285 : decode cL_law 1285 = .ok (.aload_n 2, 1) := by decide +kernel
theorem dL_law_1286 : decode cL_law 1286 = .ok (.invokevirtual 178, 3) := by decide +kernel
theorem dL_law_1289 : decode cL_law 1289 = .ok (.if_icmp .eq 99, 3) := by decide +kernel
theorem dL_law_1292 : decode cL_law 1292 = .ok (.iconst 0, 1) := by decide +kernel
theorem dL_law_1293 : decode cL_law 1293 = .ok (.ireturn, 1) := by decide +kernel
theorem dL_law_1294 : decode cL_law 1294 = .ok (.aload_n 1, 1) := by decide +kernel
theorem dL_law_1295 : decode cL_law 1295 = .ok (.aload_n 0, 1) := by decide +kernel
theorem dL_law_1296 : decode cL_law 1296 = .ok (.iload 4, 2) := by decide +kernel
theorem dL_law_1298 : decode cL_law 1298 = .ok (.iconst 1, 1) := by decide +kernel
theorem dL_law_1299 : decode cL_law 1299 = .ok (.iadd, 1) := by decide +kernel
theorem dL_law_1300 : decode cL_law 1300 = .ok (.iaload, 1) := by decide +kernel
theorem dL_law_1301 : decode cL_law 1301 = .ok (.aload_n 3, 1) := by decide +kernel
theorem dL_law_1302 : decode cL_law 1302 = .ok (.invokestatic 179, 3) := by decide +kernel
theorem dL_law_1305 : decode cL_law 1305 = .ok (.istore 5, 2) := by decide +kernel
theorem dL_law_1307 : decode cL_law 1307 = .ok (.aload_n 2, 1) := by decide +kernel
theorem dL_law_1308 : decode cL_law 1308 = .ok (.aload_n 0, 1) := by decide +kernel
theorem dL_law_1309 : decode cL_law 1309 = .ok (.iload 4, 2) := by decide +kernel
theorem dL_law_1311 : decode cL_law 1311 = .ok (.iconst 1, 1) := by decide +kernel
theorem dL_law_1312 : decode cL_law 1312 = .ok (.iadd, 1) := by decide +kernel
theorem dL_law_1313 : decode cL_law 1313 = .ok (.iaload, 1) := by decide +kernel
theorem dL_law_1314 : decode cL_law 1314 = .ok (.invokevirtual 184, 3) := by decide +kernel
theorem dL_law_1317 : decode cL_law 1317 = .ok (.istore 6, 2) := by decide +kernel
theorem dL_law_1319 : decode cL_law 1319 = .ok (.aload_n 2, 1) := by decide +kernel
theorem dL_law_1320 : decode cL_law 1320 = .ok (.invokevirtual 185, 3) := by decide +kernel
theorem dL_law_1323 : decode cL_law 1323 = .ok (.iload 5, 2) := by decide +kernel
theorem dL_law_1325 : decode cL_law 1325 = .ok (.if_icmp .eq 5, 3) := by decide +kernel
theorem dL_law_1328 : decode cL_law 1328 = .ok (.iconst 0, 1) := by decide +kernel
theorem dL_law_1329 : decode cL_law 1329 = .ok (.ireturn, 1) := by decide +kernel
theorem dL_law_1330 : decode cL_law 1330 = .ok (.iload 5, 2) := by decide +kernel
theorem dL_law_1332 : decode cL_law 1332 = .ok (.ifCond .ne 15, 3) := by decide +kernel
theorem dL_law_1335 : decode cL_law 1335 = .ok (.aload_n 3, 1) := by decide +kernel
theorem dL_law_1336 : decode cL_law 1336 = .ok (.iconst 0, 1) := by decide +kernel
theorem dL_law_1337 : decode cL_law 1337 = .ok (.laload, 1) := by decide +kernel
theorem dL_law_1338 : decode cL_law 1338 = .ok (.iload 6, 2) := by decide +kernel
theorem dL_law_1340 : decode cL_law 1340 = .ok (.i2l, 1) := by decide +kernel
theorem dL_law_1341 : decode cL_law 1341 = .ok (.lcmp, 1) := by decide +kernel
theorem dL_law_1342 : decode cL_law 1342 = .ok (.ifCond .eq 5, 3) := by decide +kernel
theorem dL_law_1345 : decode cL_law 1345 = .ok (.iconst 0, 1) := by decide +kernel
theorem dL_law_1346 : decode cL_law 1346 = .ok (.ireturn, 1) := by decide +kernel
theorem dL_law_1347 : decode cL_law 1347 = .ok (.goto 41, 3) := by decide +kernel
theorem dL_law_1350 : decode cL_law 1350 = .ok (.aload_n 1, 1) := by decide +kernel
theorem dL_law_1351 : decode cL_law 1351 = .ok (.aload_n 0, 1) := by decide +kernel
theorem dL_law_1352 : decode cL_law 1352 = .ok (.iload 4, 2) := by decide +kernel
theorem dL_law_1354 : decode cL_law 1354 = .ok (.iconst 1, 1) := by decide +kernel
theorem dL_law_1355 : decode cL_law 1355 = .ok (.iadd, 1) := by decide +kernel
theorem dL_law_1356 : decode cL_law 1356 = .ok (.iaload, 1) := by decide +kernel
theorem dL_law_1357 : decode cL_law 1357 = .ok (.invokevirtual 188, 3) := by decide +kernel
theorem dL_law_1360 : decode cL_law 1360 = .ok (.aload_n 2, 1) := by decide +kernel
theorem dL_law_1361 : decode cL_law 1361 = .ok (.aload_n 0, 1) := by decide +kernel
theorem dL_law_1362 : decode cL_law 1362 = .ok (.iload 4, 2) := by decide +kernel
theorem dL_law_1364 : decode cL_law 1364 = .ok (.iconst 1, 1) := by decide +kernel
theorem dL_law_1365 : decode cL_law 1365 = .ok (.iadd, 1) := by decide +kernel
theorem dL_law_1366 : decode cL_law 1366 = .ok (.iaload, 1) := by decide +kernel
theorem dL_law_1367 : decode cL_law 1367 = .ok (.invokevirtual 191, 3) := by decide +kernel
theorem dL_law_1370 : decode cL_law 1370 = .ok (.if_icmp .eq 18, 3) := by decide +kernel
theorem dL_law_1373 : decode cL_law 1373 = .ok (.iconst 0, 1) := by decide +kernel
theorem dL_law_1374 : decode cL_law 1374 = .ok (.ireturn, 1) := by decide +kernel
theorem dL_law_1375 : decode cL_law 1375 = .ok (.aload_n 1, 1) := by decide +kernel
theorem dL_law_1376 : decode cL_law 1376 = .ok (.invokevirtual 192, 3) := by decide +kernel
theorem dL_law_1379 : decode cL_law 1379 = .ok (.aload_n 2, 1) := by decide +kernel
theorem dL_law_1380 : decode cL_law 1380 = .ok (.invokevirtual 195, 3) := by decide +kernel
theorem dL_law_1383 : decode cL_law 1383 = .ok (.if_icmp .eq 5, 3) := by decide +kernel
theorem dL_law_1386 : decode cL_law 1386 = .ok (.iconst 0, 1) := by decide +kernel
theorem dL_law_1387 : decode cL_law 1387 = .ok (.ireturn, 1) := by decide +kernel
theorem dL_law_1388 : decode cL_law 1388 = .ok (.iinc 4 6, 3) := by decide +kernel
theorem dL_law_1391 : decode cL_law 1391 = .ok (.goto (-1368), 3) := by decide +kernel
theorem dL_law_1394 : decode cL_law 1394 = .ok (.iconst 1, 1) := by decide +kernel
theorem dL_law_1395 : decode cL_law 1395 = .ok (.ireturn, 1) := by decide +kernel
