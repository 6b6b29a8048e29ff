/-! each row of the data by its place -/
/-! X0 init -/
theorem c_0_0 : m_code 0 0 = some (.aload_n 0, 0, 0, 0, 0) := by decide +kernel
theorem c_0_1 : m_code 0 1 = some (.invokespecial 3, 0, 87, 7, 0) := by decide +kernel
theorem c_0_4 : m_code 0 4 = some (.aload_n 0, 0, 0, 0, 0) := by decide +kernel
theorem c_0_5 : m_code 0 5 = some (.bipush 9, 0, 0, 0, 0) := by decide +kernel
theorem c_0_7 : m_code 0 7 = some (.newarray .int, 0, 81, 0, 0) := by decide +kernel
theorem c_0_9 : m_code 0 9 = some (.putfield 9, 0, 0, 0, 90) := by decide +kernel
theorem c_0_12 : m_code 0 12 = some (.aload_n 0, 0, 0, 0, 0) := by decide +kernel
theorem c_0_13 : m_code 0 13 = some (.bipush 9, 0, 0, 0, 0) := by decide +kernel
theorem c_0_15 : m_code 0 15 = some (.putfield 15, 0, 1, 0, 91) := by decide +kernel
theorem c_0_18 : m_code 0 18 = some (.aload_n 0, 0, 0, 0, 0) := by decide +kernel
theorem c_0_19 : m_code 0 19 = some (.iconst 0, 0, 0, 0, 0) := by decide +kernel
theorem c_0_20 : m_code 0 20 = some (.putfield 19, 0, 2, 0, 92) := by decide +kernel
theorem c_0_23 : m_code 0 23 = some (.aload_n 0, 0, 0, 0, 0) := by decide +kernel
theorem c_0_24 : m_code 0 24 = some (.bipush 9, 0, 0, 0, 0) := by decide +kernel
theorem c_0_26 : m_code 0 26 = some (.newarray .int, 0, 81, 0, 0) := by decide +kernel
theorem c_0_28 : m_code 0 28 = some (.putfield 22, 0, 3, 0, 93) := by decide +kernel
theorem c_0_31 : m_code 0 31 = some (.aload_n 0, 0, 0, 0, 0) := by decide +kernel
theorem c_0_32 : m_code 0 32 = some (.new 25, 3, 88, 0, 0) := by decide +kernel
theorem c_0_35 : m_code 0 35 = some (.dup, 0, 0, 0, 0) := by decide +kernel
theorem c_0_36 : m_code 0 36 = some (.invokespecial 27, 30, 89, 2, 0) := by decide +kernel
theorem c_0_39 : m_code 0 39 = some (.putfield 28, 0, 4, 0, 94) := by decide +kernel
theorem c_0_42 : m_code 0 42 = some (.iconst 0, 0, 0, 0, 0) := by decide +kernel
theorem c_0_43 : m_code 0 43 = some (.istore_n 1, 0, 0, 0, 0) := by decide +kernel
theorem c_0_44 : m_code 0 44 = some (.iload_n 1, 0, 0, 0, 0) := by decide +kernel
theorem c_0_45 : m_code 0 45 = some (.bipush 9, 0, 0, 0, 0) := by decide +kernel
theorem c_0_47 : m_code 0 47 = some (.if_icmp .ge 16, 63, 0, 0, 0) := by decide +kernel
theorem c_0_50 : m_code 0 50 = some (.aload_n 0, 0, 0, 0, 0) := by decide +kernel
theorem c_0_51 : m_code 0 51 = some (.getfield 9, 0, 0, 0, 90) := by decide +kernel
theorem c_0_54 : m_code 0 54 = some (.iload_n 1, 0, 0, 0, 0) := by decide +kernel
theorem c_0_55 : m_code 0 55 = some (.iconst 1, 0, 0, 0, 0) := by decide +kernel
theorem c_0_56 : m_code 0 56 = some (.iastore, 0, 0, 0, 0) := by decide +kernel
theorem c_0_57 : m_code 0 57 = some (.iinc 1 1, 0, 0, 0, 0) := by decide +kernel
theorem c_0_60 : m_code 0 60 = some (.goto (-16), 44, 0, 0, 0) := by decide +kernel
theorem c_0_63 : m_code 0 63 = some (.return_, 0, 0, 0, 0) := by decide +kernel
/-! X0 run -/
theorem c_1_0 : m_code 1 0 = some (.iload_n 3, 0, 0, 0, 0) := by decide +kernel
theorem c_1_1 : m_code 1 1 = some (.bipush 7, 0, 0, 0, 0) := by decide +kernel
theorem c_1_3 : m_code 1 3 = some (.if_icmp .ne 26, 29, 0, 0, 0) := by decide +kernel
theorem c_1_6 : m_code 1 6 = some (.aload_n 0, 0, 0, 0, 0) := by decide +kernel
theorem c_1_7 : m_code 1 7 = some (.aload_n 1, 0, 0, 0, 0) := by decide +kernel
theorem c_1_8 : m_code 1 8 = some (.aload_n 0, 0, 0, 0, 0) := by decide +kernel
theorem c_1_9 : m_code 1 9 = some (.getfield 28, 0, 4, 0, 94) := by decide +kernel
theorem c_1_12 : m_code 1 12 = some (.iconst 3, 0, 0, 0, 0) := by decide +kernel
theorem c_1_13 : m_code 1 13 = some (.invokevirtual 32, 2, 409, 1, 0) := by decide +kernel
theorem c_1_16 : m_code 1 16 = some (.aload_n 0, 0, 0, 0, 0) := by decide +kernel
theorem c_1_17 : m_code 1 17 = some (.aload_n 0, 0, 0, 0, 0) := by decide +kernel
theorem c_1_18 : m_code 1 18 = some (.getfield 28, 0, 4, 0, 94) := by decide +kernel
theorem c_1_21 : m_code 1 21 = some (.aload_n 2, 0, 0, 0, 0) := by decide +kernel
theorem c_1_22 : m_code 1 22 = some (.iconst 5, 0, 0, 0, 0) := by decide +kernel
theorem c_1_23 : m_code 1 23 = some (.invokevirtual 32, 2, 409, 1, 0) := by decide +kernel
theorem c_1_26 : m_code 1 26 = some (.goto 39, 65, 0, 0, 0) := by decide +kernel
theorem c_1_29 : m_code 1 29 = some (.iload_n 3, 0, 0, 0, 0) := by decide +kernel
theorem c_1_30 : m_code 1 30 = some (.bipush 8, 0, 0, 0, 0) := by decide +kernel
theorem c_1_32 : m_code 1 32 = some (.if_icmp .ne 26, 58, 0, 0, 0) := by decide +kernel
theorem c_1_35 : m_code 1 35 = some (.aload_n 0, 0, 0, 0, 0) := by decide +kernel
theorem c_1_36 : m_code 1 36 = some (.aload_n 1, 0, 0, 0, 0) := by decide +kernel
theorem c_1_37 : m_code 1 37 = some (.aload_n 0, 0, 0, 0, 0) := by decide +kernel
theorem c_1_38 : m_code 1 38 = some (.getfield 28, 0, 4, 0, 94) := by decide +kernel
theorem c_1_41 : m_code 1 41 = some (.iconst 5, 0, 0, 0, 0) := by decide +kernel
theorem c_1_42 : m_code 1 42 = some (.invokevirtual 32, 2, 409, 1, 0) := by decide +kernel
theorem c_1_45 : m_code 1 45 = some (.aload_n 0, 0, 0, 0, 0) := by decide +kernel
theorem c_1_46 : m_code 1 46 = some (.aload_n 0, 0, 0, 0, 0) := by decide +kernel
theorem c_1_47 : m_code 1 47 = some (.getfield 28, 0, 4, 0, 94) := by decide +kernel
theorem c_1_50 : m_code 1 50 = some (.aload_n 2, 0, 0, 0, 0) := by decide +kernel
theorem c_1_51 : m_code 1 51 = some (.iconst 3, 0, 0, 0, 0) := by decide +kernel
theorem c_1_52 : m_code 1 52 = some (.invokevirtual 32, 2, 409, 1, 0) := by decide +kernel
theorem c_1_55 : m_code 1 55 = some (.goto 10, 65, 0, 0, 0) := by decide +kernel
theorem c_1_58 : m_code 1 58 = some (.aload_n 0, 0, 0, 0, 0) := by decide +kernel
theorem c_1_59 : m_code 1 59 = some (.aload_n 1, 0, 0, 0, 0) := by decide +kernel
theorem c_1_60 : m_code 1 60 = some (.aload_n 2, 0, 0, 0, 0) := by decide +kernel
theorem c_1_61 : m_code 1 61 = some (.iload_n 3, 0, 0, 0, 0) := by decide +kernel
theorem c_1_62 : m_code 1 62 = some (.invokevirtual 32, 2, 409, 1, 0) := by decide +kernel
theorem c_1_65 : m_code 1 65 = some (.return_, 0, 0, 0, 0) := by decide +kernel
/-! X0 pass -/
theorem c_2_0 : m_code 2 0 = some (.aload_n 2, 0, 0, 0, 0) := by decide +kernel
theorem c_2_1 : m_code 2 1 = some (.aload_n 1, 0, 0, 0, 0) := by decide +kernel
theorem c_2_2 : m_code 2 2 = some (.getfield 36, 3, 0, 0, 63) := by decide +kernel
theorem c_2_5 : m_code 2 5 = some (.aload_n 1, 0, 0, 0, 0) := by decide +kernel
theorem c_2_6 : m_code 2 6 = some (.getfield 39, 3, 1, 0, 68) := by decide +kernel
theorem c_2_9 : m_code 2 9 = some (.invokevirtual 42, 32, 413, 1, 0) := by decide +kernel
theorem c_2_12 : m_code 2 12 = some (.iconst 0, 0, 0, 0, 0) := by decide +kernel
theorem c_2_13 : m_code 2 13 = some (.istore 4, 0, 0, 0, 0) := by decide +kernel
theorem c_2_15 : m_code 2 15 = some (.iload 4, 0, 0, 0, 0) := by decide +kernel
theorem c_2_17 : m_code 2 17 = some (.aload_n 1, 0, 0, 0, 0) := by decide +kernel
theorem c_2_18 : m_code 2 18 = some (.getfield 39, 3, 1, 0, 68) := by decide +kernel
theorem c_2_21 : m_code 2 21 = some (.if_icmp .ge 49, 70, 0, 0, 0) := by decide +kernel
theorem c_2_24 : m_code 2 24 = some (.iconst 0, 0, 0, 0, 0) := by decide +kernel
theorem c_2_25 : m_code 2 25 = some (.istore 5, 0, 0, 0, 0) := by decide +kernel
theorem c_2_27 : m_code 2 27 = some (.iload 5, 0, 0, 0, 0) := by decide +kernel
theorem c_2_29 : m_code 2 29 = some (.aload_n 1, 0, 0, 0, 0) := by decide +kernel
theorem c_2_30 : m_code 2 30 = some (.getfield 36, 3, 0, 0, 63) := by decide +kernel
theorem c_2_33 : m_code 2 33 = some (.if_icmp .ge 31, 64, 0, 0, 0) := by decide +kernel
theorem c_2_36 : m_code 2 36 = some (.aload_n 0, 0, 0, 0, 0) := by decide +kernel
theorem c_2_37 : m_code 2 37 = some (.aload_n 1, 0, 0, 0, 0) := by decide +kernel
theorem c_2_38 : m_code 2 38 = some (.iload 5, 0, 0, 0, 0) := by decide +kernel
theorem c_2_40 : m_code 2 40 = some (.iload 4, 0, 0, 0, 0) := by decide +kernel
theorem c_2_42 : m_code 2 42 = some (.invokevirtual 46, 3, 414, 1, 0) := by decide +kernel
theorem c_2_45 : m_code 2 45 = some (.aload_n 2, 0, 0, 0, 0) := by decide +kernel
theorem c_2_46 : m_code 2 46 = some (.iload 5, 0, 0, 0, 0) := by decide +kernel
theorem c_2_48 : m_code 2 48 = some (.iload 4, 0, 0, 0, 0) := by decide +kernel
theorem c_2_50 : m_code 2 50 = some (.aload_n 0, 0, 0, 0, 0) := by decide +kernel
theorem c_2_51 : m_code 2 51 = some (.iload_n 3, 0, 0, 0, 0) := by decide +kernel
theorem c_2_52 : m_code 2 52 = some (.invokevirtual 50, 4, 419, 1, 0) := by decide +kernel
theorem c_2_55 : m_code 2 55 = some (.invokevirtual 54, 34, 451, 1, 0) := by decide +kernel
theorem c_2_58 : m_code 2 58 = some (.iinc 5 1, 0, 0, 0, 0) := by decide +kernel
theorem c_2_61 : m_code 2 61 = some (.goto (-34), 27, 0, 0, 0) := by decide +kernel
theorem c_2_64 : m_code 2 64 = some (.iinc 4 1, 0, 0, 0, 0) := by decide +kernel
theorem c_2_67 : m_code 2 67 = some (.goto (-52), 15, 0, 0, 0) := by decide +kernel
theorem c_2_70 : m_code 2 70 = some (.return_, 0, 0, 0, 0) := by decide +kernel
/-! X0 gatherNine -/
theorem c_3_0 : m_code 3 0 = some (.iconst 0, 0, 0, 0, 0) := by decide +kernel
theorem c_3_1 : m_code 3 1 = some (.istore 4, 0, 0, 0, 0) := by decide +kernel
theorem c_3_3 : m_code 3 3 = some (.iload 4, 0, 0, 0, 0) := by decide +kernel
theorem c_3_5 : m_code 3 5 = some (.bipush 9, 0, 0, 0, 0) := by decide +kernel
theorem c_3_7 : m_code 3 7 = some (.if_icmp .ge 36, 43, 0, 0, 0) := by decide +kernel
theorem c_3_10 : m_code 3 10 = some (.aload_n 0, 0, 0, 0, 0) := by decide +kernel
theorem c_3_11 : m_code 3 11 = some (.getfield 22, 0, 3, 0, 93) := by decide +kernel
theorem c_3_14 : m_code 3 14 = some (.iload 4, 0, 0, 0, 0) := by decide +kernel
theorem c_3_16 : m_code 3 16 = some (.aload_n 1, 0, 0, 0, 0) := by decide +kernel
theorem c_3_17 : m_code 3 17 = some (.iload_n 2, 0, 0, 0, 0) := by decide +kernel
theorem c_3_18 : m_code 3 18 = some (.iconst 1, 0, 0, 0, 0) := by decide +kernel
theorem c_3_19 : m_code 3 19 = some (.isub, 0, 0, 0, 0) := by decide +kernel
theorem c_3_20 : m_code 3 20 = some (.iload 4, 0, 0, 0, 0) := by decide +kernel
theorem c_3_22 : m_code 3 22 = some (.iconst 3, 0, 0, 0, 0) := by decide +kernel
theorem c_3_23 : m_code 3 23 = some (.irem, 0, 0, 0, 0) := by decide +kernel
theorem c_3_24 : m_code 3 24 = some (.iadd, 0, 0, 0, 0) := by decide +kernel
theorem c_3_25 : m_code 3 25 = some (.iload_n 3, 0, 0, 0, 0) := by decide +kernel
theorem c_3_26 : m_code 3 26 = some (.iconst 1, 0, 0, 0, 0) := by decide +kernel
theorem c_3_27 : m_code 3 27 = some (.isub, 0, 0, 0, 0) := by decide +kernel
theorem c_3_28 : m_code 3 28 = some (.iload 4, 0, 0, 0, 0) := by decide +kernel
theorem c_3_30 : m_code 3 30 = some (.iconst 3, 0, 0, 0, 0) := by decide +kernel
theorem c_3_31 : m_code 3 31 = some (.idiv, 0, 0, 0, 0) := by decide +kernel
theorem c_3_32 : m_code 3 32 = some (.iadd, 0, 0, 0, 0) := by decide +kernel
theorem c_3_33 : m_code 3 33 = some (.invokevirtual 58, 33, 418, 1, 0) := by decide +kernel
theorem c_3_36 : m_code 3 36 = some (.iastore, 0, 0, 0, 0) := by decide +kernel
theorem c_3_37 : m_code 3 37 = some (.iinc 4 1, 0, 0, 0, 0) := by decide +kernel
theorem c_3_40 : m_code 3 40 = some (.goto (-37), 3, 0, 0, 0) := by decide +kernel
theorem c_3_43 : m_code 3 43 = some (.return_, 0, 0, 0, 0) := by decide +kernel
/-! X0 resultOfNine -/
theorem c_4_0 : m_code 4 0 = some (.iload_n 1, 0, 0, 0, 0) := by decide +kernel
theorem c_4_1 : m_code 4 1 = some (.tableswitch 72 0 5 #[39, 44, 49, 54, 60, 66], 0, 0, 0, 39) := by decide +kernel
theorem c_4_40 : m_code 4 40 = some (.aload_n 0, 0, 0, 0, 0) := by decide +kernel
theorem c_4_41 : m_code 4 41 = some (.invokevirtual 62, 5, 423, 1, 0) := by decide +kernel
theorem c_4_44 : m_code 4 44 = some (.ireturn, 0, 0, 0, 0) := by decide +kernel
theorem c_4_45 : m_code 4 45 = some (.aload_n 0, 0, 0, 0, 0) := by decide +kernel
theorem c_4_46 : m_code 4 46 = some (.invokevirtual 66, 6, 427, 1, 0) := by decide +kernel
theorem c_4_49 : m_code 4 49 = some (.ireturn, 0, 0, 0, 0) := by decide +kernel
theorem c_4_50 : m_code 4 50 = some (.aload_n 0, 0, 0, 0, 0) := by decide +kernel
theorem c_4_51 : m_code 4 51 = some (.invokevirtual 69, 7, 431, 1, 0) := by decide +kernel
theorem c_4_54 : m_code 4 54 = some (.ireturn, 0, 0, 0, 0) := by decide +kernel
theorem c_4_55 : m_code 4 55 = some (.aload_n 0, 0, 0, 0, 0) := by decide +kernel
theorem c_4_56 : m_code 4 56 = some (.iconst 0, 0, 0, 0, 0) := by decide +kernel
theorem c_4_57 : m_code 4 57 = some (.invokevirtual 72, 8, 438, 1, 0) := by decide +kernel
theorem c_4_60 : m_code 4 60 = some (.ireturn, 0, 0, 0, 0) := by decide +kernel
theorem c_4_61 : m_code 4 61 = some (.aload_n 0, 0, 0, 0, 0) := by decide +kernel
theorem c_4_62 : m_code 4 62 = some (.iconst 1, 0, 0, 0, 0) := by decide +kernel
theorem c_4_63 : m_code 4 63 = some (.invokevirtual 72, 8, 438, 1, 0) := by decide +kernel
theorem c_4_66 : m_code 4 66 = some (.ireturn, 0, 0, 0, 0) := by decide +kernel
theorem c_4_67 : m_code 4 67 = some (.aload_n 0, 0, 0, 0, 0) := by decide +kernel
theorem c_4_68 : m_code 4 68 = some (.iconst 0, 0, 0, 0, 0) := by decide +kernel
theorem c_4_69 : m_code 4 69 = some (.invokevirtual 76, 9, 446, 1, 0) := by decide +kernel
theorem c_4_72 : m_code 4 72 = some (.ireturn, 0, 0, 0, 0) := by decide +kernel
theorem c_4_73 : m_code 4 73 = some (.aload_n 0, 0, 0, 0, 0) := by decide +kernel
theorem c_4_74 : m_code 4 74 = some (.iconst 1, 0, 0, 0, 0) := by decide +kernel
theorem c_4_75 : m_code 4 75 = some (.invokevirtual 76, 9, 446, 1, 0) := by decide +kernel
theorem c_4_78 : m_code 4 78 = some (.ireturn, 0, 0, 0, 0) := by decide +kernel
/-! X0 weighted -/
theorem c_5_0 : m_code 5 0 = some (.iconst 0, 0, 0, 0, 0) := by decide +kernel
theorem c_5_1 : m_code 5 1 = some (.istore_n 1, 0, 0, 0, 0) := by decide +kernel
theorem c_5_2 : m_code 5 2 = some (.iconst 0, 0, 0, 0, 0) := by decide +kernel
theorem c_5_3 : m_code 5 3 = some (.istore_n 2, 0, 0, 0, 0) := by decide +kernel
theorem c_5_4 : m_code 5 4 = some (.iload_n 2, 0, 0, 0, 0) := by decide +kernel
theorem c_5_5 : m_code 5 5 = some (.bipush 9, 0, 0, 0, 0) := by decide +kernel
theorem c_5_7 : m_code 5 7 = some (.if_icmp .ge 25, 32, 0, 0, 0) := by decide +kernel
theorem c_5_10 : m_code 5 10 = some (.iload_n 1, 0, 0, 0, 0) := by decide +kernel
theorem c_5_11 : m_code 5 11 = some (.aload_n 0, 0, 0, 0, 0) := by decide +kernel
theorem c_5_12 : m_code 5 12 = some (.getfield 9, 0, 0, 0, 90) := by decide +kernel
theorem c_5_15 : m_code 5 15 = some (.iload_n 2, 0, 0, 0, 0) := by decide +kernel
theorem c_5_16 : m_code 5 16 = some (.iaload, 0, 0, 0, 0) := by decide +kernel
theorem c_5_17 : m_code 5 17 = some (.aload_n 0, 0, 0, 0, 0) := by decide +kernel
theorem c_5_18 : m_code 5 18 = some (.getfield 22, 0, 3, 0, 93) := by decide +kernel
theorem c_5_21 : m_code 5 21 = some (.iload_n 2, 0, 0, 0, 0) := by decide +kernel
theorem c_5_22 : m_code 5 22 = some (.iaload, 0, 0, 0, 0) := by decide +kernel
theorem c_5_23 : m_code 5 23 = some (.imul, 0, 0, 0, 0) := by decide +kernel
theorem c_5_24 : m_code 5 24 = some (.iadd, 0, 0, 0, 0) := by decide +kernel
theorem c_5_25 : m_code 5 25 = some (.istore_n 1, 0, 0, 0, 0) := by decide +kernel
theorem c_5_26 : m_code 5 26 = some (.iinc 2 1, 0, 0, 0, 0) := by decide +kernel
theorem c_5_29 : m_code 5 29 = some (.goto (-25), 4, 0, 0, 0) := by decide +kernel
theorem c_5_32 : m_code 5 32 = some (.iload_n 1, 0, 0, 0, 0) := by decide +kernel
theorem c_5_33 : m_code 5 33 = some (.aload_n 0, 0, 0, 0, 0) := by decide +kernel
theorem c_5_34 : m_code 5 34 = some (.getfield 15, 0, 1, 0, 91) := by decide +kernel
theorem c_5_37 : m_code 5 37 = some (.idiv, 0, 0, 0, 0) := by decide +kernel
theorem c_5_38 : m_code 5 38 = some (.aload_n 0, 0, 0, 0, 0) := by decide +kernel
theorem c_5_39 : m_code 5 39 = some (.getfield 19, 0, 2, 0, 92) := by decide +kernel
theorem c_5_42 : m_code 5 42 = some (.iadd, 0, 0, 0, 0) := by decide +kernel
theorem c_5_43 : m_code 5 43 = some (.ireturn, 0, 0, 0, 0) := by decide +kernel
/-! X0 middle -/
theorem c_6_0 : m_code 6 0 = some (.iconst 1, 0, 0, 0, 0) := by decide +kernel
theorem c_6_1 : m_code 6 1 = some (.istore_n 1, 0, 0, 0, 0) := by decide +kernel
theorem c_6_2 : m_code 6 2 = some (.iload_n 1, 0, 0, 0, 0) := by decide +kernel
theorem c_6_3 : m_code 6 3 = some (.bipush 9, 0, 0, 0, 0) := by decide +kernel
theorem c_6_5 : m_code 6 5 = some (.if_icmp .ge 61, 66, 0, 0, 0) := by decide +kernel
theorem c_6_8 : m_code 6 8 = some (.aload_n 0, 0, 0, 0, 0) := by decide +kernel
theorem c_6_9 : m_code 6 9 = some (.getfield 22, 0, 3, 0, 93) := by decide +kernel
theorem c_6_12 : m_code 6 12 = some (.iload_n 1, 0, 0, 0, 0) := by decide +kernel
theorem c_6_13 : m_code 6 13 = some (.iaload, 0, 0, 0, 0) := by decide +kernel
theorem c_6_14 : m_code 6 14 = some (.istore_n 2, 0, 0, 0, 0) := by decide +kernel
theorem c_6_15 : m_code 6 15 = some (.iload_n 1, 0, 0, 0, 0) := by decide +kernel
theorem c_6_16 : m_code 6 16 = some (.istore_n 3, 0, 0, 0, 0) := by decide +kernel
theorem c_6_17 : m_code 6 17 = some (.iload_n 3, 0, 0, 0, 0) := by decide +kernel
theorem c_6_18 : m_code 6 18 = some (.ifCond .le 35, 53, 0, 0, 0) := by decide +kernel
theorem c_6_21 : m_code 6 21 = some (.aload_n 0, 0, 0, 0, 0) := by decide +kernel
theorem c_6_22 : m_code 6 22 = some (.getfield 22, 0, 3, 0, 93) := by decide +kernel
theorem c_6_25 : m_code 6 25 = some (.iload_n 3, 0, 0, 0, 0) := by decide +kernel
theorem c_6_26 : m_code 6 26 = some (.iconst 1, 0, 0, 0, 0) := by decide +kernel
theorem c_6_27 : m_code 6 27 = some (.isub, 0, 0, 0, 0) := by decide +kernel
theorem c_6_28 : m_code 6 28 = some (.iaload, 0, 0, 0, 0) := by decide +kernel
theorem c_6_29 : m_code 6 29 = some (.iload_n 2, 0, 0, 0, 0) := by decide +kernel
theorem c_6_30 : m_code 6 30 = some (.if_icmp .le 23, 53, 0, 0, 0) := by decide +kernel
theorem c_6_33 : m_code 6 33 = some (.aload_n 0, 0, 0, 0, 0) := by decide +kernel
theorem c_6_34 : m_code 6 34 = some (.getfield 22, 0, 3, 0, 93) := by decide +kernel
theorem c_6_37 : m_code 6 37 = some (.iload_n 3, 0, 0, 0, 0) := by decide +kernel
theorem c_6_38 : m_code 6 38 = some (.aload_n 0, 0, 0, 0, 0) := by decide +kernel
theorem c_6_39 : m_code 6 39 = some (.getfield 22, 0, 3, 0, 93) := by decide +kernel
theorem c_6_42 : m_code 6 42 = some (.iload_n 3, 0, 0, 0, 0) := by decide +kernel
theorem c_6_43 : m_code 6 43 = some (.iconst 1, 0, 0, 0, 0) := by decide +kernel
theorem c_6_44 : m_code 6 44 = some (.isub, 0, 0, 0, 0) := by decide +kernel
theorem c_6_45 : m_code 6 45 = some (.iaload, 0, 0, 0, 0) := by decide +kernel
theorem c_6_46 : m_code 6 46 = some (.iastore, 0, 0, 0, 0) := by decide +kernel
theorem c_6_47 : m_code 6 47 = some (.iinc 3 (-1), 0, 0, 0, 0) := by decide +kernel
theorem c_6_50 : m_code 6 50 = some (.goto (-33), 17, 0, 0, 0) := by decide +kernel
theorem c_6_53 : m_code 6 53 = some (.aload_n 0, 0, 0, 0, 0) := by decide +kernel
theorem c_6_54 : m_code 6 54 = some (.getfield 22, 0, 3, 0, 93) := by decide +kernel
theorem c_6_57 : m_code 6 57 = some (.iload_n 3, 0, 0, 0, 0) := by decide +kernel
theorem c_6_58 : m_code 6 58 = some (.iload_n 2, 0, 0, 0, 0) := by decide +kernel
theorem c_6_59 : m_code 6 59 = some (.iastore, 0, 0, 0, 0) := by decide +kernel
theorem c_6_60 : m_code 6 60 = some (.iinc 1 1, 0, 0, 0, 0) := by decide +kernel
theorem c_6_63 : m_code 6 63 = some (.goto (-61), 2, 0, 0, 0) := by decide +kernel
theorem c_6_66 : m_code 6 66 = some (.aload_n 0, 0, 0, 0, 0) := by decide +kernel
theorem c_6_67 : m_code 6 67 = some (.getfield 22, 0, 3, 0, 93) := by decide +kernel
theorem c_6_70 : m_code 6 70 = some (.iconst 4, 0, 0, 0, 0) := by decide +kernel
theorem c_6_71 : m_code 6 71 = some (.iaload, 0, 0, 0, 0) := by decide +kernel
theorem c_6_72 : m_code 6 72 = some (.ireturn, 0, 0, 0, 0) := by decide +kernel
/-! X0 edge -/
theorem c_7_0 : m_code 7 0 = some (.aload_n 0, 0, 0, 0, 0) := by decide +kernel
theorem c_7_1 : m_code 7 1 = some (.getfield 22, 0, 3, 0, 93) := by decide +kernel
theorem c_7_4 : m_code 7 4 = some (.iconst 2, 0, 0, 0, 0) := by decide +kernel
theorem c_7_5 : m_code 7 5 = some (.iaload, 0, 0, 0, 0) := by decide +kernel
theorem c_7_6 : m_code 7 6 = some (.iconst 2, 0, 0, 0, 0) := by decide +kernel
theorem c_7_7 : m_code 7 7 = some (.aload_n 0, 0, 0, 0, 0) := by decide +kernel
theorem c_7_8 : m_code 7 8 = some (.getfield 22, 0, 3, 0, 93) := by decide +kernel
theorem c_7_11 : m_code 7 11 = some (.iconst 5, 0, 0, 0, 0) := by decide +kernel
theorem c_7_12 : m_code 7 12 = some (.iaload, 0, 0, 0, 0) := by decide +kernel
theorem c_7_13 : m_code 7 13 = some (.imul, 0, 0, 0, 0) := by decide +kernel
theorem c_7_14 : m_code 7 14 = some (.iadd, 0, 0, 0, 0) := by decide +kernel
theorem c_7_15 : m_code 7 15 = some (.aload_n 0, 0, 0, 0, 0) := by decide +kernel
theorem c_7_16 : m_code 7 16 = some (.getfield 22, 0, 3, 0, 93) := by decide +kernel
theorem c_7_19 : m_code 7 19 = some (.bipush 8, 0, 0, 0, 0) := by decide +kernel
theorem c_7_21 : m_code 7 21 = some (.iaload, 0, 0, 0, 0) := by decide +kernel
theorem c_7_22 : m_code 7 22 = some (.iadd, 0, 0, 0, 0) := by decide +kernel
theorem c_7_23 : m_code 7 23 = some (.aload_n 0, 0, 0, 0, 0) := by decide +kernel
theorem c_7_24 : m_code 7 24 = some (.getfield 22, 0, 3, 0, 93) := by decide +kernel
theorem c_7_27 : m_code 7 27 = some (.iconst 0, 0, 0, 0, 0) := by decide +kernel
theorem c_7_28 : m_code 7 28 = some (.iaload, 0, 0, 0, 0) := by decide +kernel
theorem c_7_29 : m_code 7 29 = some (.isub, 0, 0, 0, 0) := by decide +kernel
theorem c_7_30 : m_code 7 30 = some (.iconst 2, 0, 0, 0, 0) := by decide +kernel
theorem c_7_31 : m_code 7 31 = some (.aload_n 0, 0, 0, 0, 0) := by decide +kernel
theorem c_7_32 : m_code 7 32 = some (.getfield 22, 0, 3, 0, 93) := by decide +kernel
theorem c_7_35 : m_code 7 35 = some (.iconst 3, 0, 0, 0, 0) := by decide +kernel
theorem c_7_36 : m_code 7 36 = some (.iaload, 0, 0, 0, 0) := by decide +kernel
theorem c_7_37 : m_code 7 37 = some (.imul, 0, 0, 0, 0) := by decide +kernel
theorem c_7_38 : m_code 7 38 = some (.isub, 0, 0, 0, 0) := by decide +kernel
theorem c_7_39 : m_code 7 39 = some (.aload_n 0, 0, 0, 0, 0) := by decide +kernel
theorem c_7_40 : m_code 7 40 = some (.getfield 22, 0, 3, 0, 93) := by decide +kernel
theorem c_7_43 : m_code 7 43 = some (.bipush 6, 0, 0, 0, 0) := by decide +kernel
theorem c_7_45 : m_code 7 45 = some (.iaload, 0, 0, 0, 0) := by decide +kernel
theorem c_7_46 : m_code 7 46 = some (.isub, 0, 0, 0, 0) := by decide +kernel
theorem c_7_47 : m_code 7 47 = some (.istore_n 1, 0, 0, 0, 0) := by decide +kernel
theorem c_7_48 : m_code 7 48 = some (.aload_n 0, 0, 0, 0, 0) := by decide +kernel
theorem c_7_49 : m_code 7 49 = some (.getfield 22, 0, 3, 0, 93) := by decide +kernel
theorem c_7_52 : m_code 7 52 = some (.bipush 6, 0, 0, 0, 0) := by decide +kernel
theorem c_7_54 : m_code 7 54 = some (.iaload, 0, 0, 0, 0) := by decide +kernel
theorem c_7_55 : m_code 7 55 = some (.iconst 2, 0, 0, 0, 0) := by decide +kernel
theorem c_7_56 : m_code 7 56 = some (.aload_n 0, 0, 0, 0, 0) := by decide +kernel
theorem c_7_57 : m_code 7 57 = some (.getfield 22, 0, 3, 0, 93) := by decide +kernel
theorem c_7_60 : m_code 7 60 = some (.bipush 7, 0, 0, 0, 0) := by decide +kernel
theorem c_7_62 : m_code 7 62 = some (.iaload, 0, 0, 0, 0) := by decide +kernel
theorem c_7_63 : m_code 7 63 = some (.imul, 0, 0, 0, 0) := by decide +kernel
theorem c_7_64 : m_code 7 64 = some (.iadd, 0, 0, 0, 0) := by decide +kernel
theorem c_7_65 : m_code 7 65 = some (.aload_n 0, 0, 0, 0, 0) := by decide +kernel
theorem c_7_66 : m_code 7 66 = some (.getfield 22, 0, 3, 0, 93) := by decide +kernel
theorem c_7_69 : m_code 7 69 = some (.bipush 8, 0, 0, 0, 0) := by decide +kernel
theorem c_7_71 : m_code 7 71 = some (.iaload, 0, 0, 0, 0) := by decide +kernel
theorem c_7_72 : m_code 7 72 = some (.iadd, 0, 0, 0, 0) := by decide +kernel
theorem c_7_73 : m_code 7 73 = some (.aload_n 0, 0, 0, 0, 0) := by decide +kernel
theorem c_7_74 : m_code 7 74 = some (.getfield 22, 0, 3, 0, 93) := by decide +kernel
theorem c_7_77 : m_code 7 77 = some (.iconst 0, 0, 0, 0, 0) := by decide +kernel
theorem c_7_78 : m_code 7 78 = some (.iaload, 0, 0, 0, 0) := by decide +kernel
theorem c_7_79 : m_code 7 79 = some (.isub, 0, 0, 0, 0) := by decide +kernel
theorem c_7_80 : m_code 7 80 = some (.iconst 2, 0, 0, 0, 0) := by decide +kernel
theorem c_7_81 : m_code 7 81 = some (.aload_n 0, 0, 0, 0, 0) := by decide +kernel
theorem c_7_82 : m_code 7 82 = some (.getfield 22, 0, 3, 0, 93) := by decide +kernel
theorem c_7_85 : m_code 7 85 = some (.iconst 1, 0, 0, 0, 0) := by decide +kernel
theorem c_7_86 : m_code 7 86 = some (.iaload, 0, 0, 0, 0) := by decide +kernel
theorem c_7_87 : m_code 7 87 = some (.imul, 0, 0, 0, 0) := by decide +kernel
theorem c_7_88 : m_code 7 88 = some (.isub, 0, 0, 0, 0) := by decide +kernel
theorem c_7_89 : m_code 7 89 = some (.aload_n 0, 0, 0, 0, 0) := by decide +kernel
theorem c_7_90 : m_code 7 90 = some (.getfield 22, 0, 3, 0, 93) := by decide +kernel
theorem c_7_93 : m_code 7 93 = some (.iconst 2, 0, 0, 0, 0) := by decide +kernel
theorem c_7_94 : m_code 7 94 = some (.iaload, 0, 0, 0, 0) := by decide +kernel
theorem c_7_95 : m_code 7 95 = some (.isub, 0, 0, 0, 0) := by decide +kernel
theorem c_7_96 : m_code 7 96 = some (.istore_n 2, 0, 0, 0, 0) := by decide +kernel
theorem c_7_97 : m_code 7 97 = some (.iload_n 1, 0, 0, 0, 0) := by decide +kernel
theorem c_7_98 : m_code 7 98 = some (.invokestatic 79, 0, 435, 5, 0) := by decide +kernel
theorem c_7_101 : m_code 7 101 = some (.iload_n 2, 0, 0, 0, 0) := by decide +kernel
theorem c_7_102 : m_code 7 102 = some (.invokestatic 79, 0, 435, 5, 0) := by decide +kernel
theorem c_7_105 : m_code 7 105 = some (.iadd, 0, 0, 0, 0) := by decide +kernel
theorem c_7_106 : m_code 7 106 = some (.iconst 4, 0, 0, 0, 0) := by decide +kernel
theorem c_7_107 : m_code 7 107 = some (.idiv, 0, 0, 0, 0) := by decide +kernel
theorem c_7_108 : m_code 7 108 = some (.ireturn, 0, 0, 0, 0) := by decide +kernel
/-! X0 least -/
theorem c_8_0 : m_code 8 0 = some (.aload_n 0, 0, 0, 0, 0) := by decide +kernel
theorem c_8_1 : m_code 8 1 = some (.getfield 22, 0, 3, 0, 93) := by decide +kernel
theorem c_8_4 : m_code 8 4 = some (.iconst 4, 0, 0, 0, 0) := by decide +kernel
theorem c_8_5 : m_code 8 5 = some (.iaload, 0, 0, 0, 0) := by decide +kernel
theorem c_8_6 : m_code 8 6 = some (.istore_n 2, 0, 0, 0, 0) := by decide +kernel
theorem c_8_7 : m_code 8 7 = some (.iconst 0, 0, 0, 0, 0) := by decide +kernel
theorem c_8_8 : m_code 8 8 = some (.istore_n 3, 0, 0, 0, 0) := by decide +kernel
theorem c_8_9 : m_code 8 9 = some (.iload_n 3, 0, 0, 0, 0) := by decide +kernel
theorem c_8_10 : m_code 8 10 = some (.bipush 9, 0, 0, 0, 0) := by decide +kernel
theorem c_8_12 : m_code 8 12 = some (.if_icmp .ge 31, 43, 0, 0, 0) := by decide +kernel
theorem c_8_15 : m_code 8 15 = some (.iload_n 1, 0, 0, 0, 0) := by decide +kernel
theorem c_8_16 : m_code 8 16 = some (.ifCond .eq 10, 26, 0, 0, 0) := by decide +kernel
theorem c_8_19 : m_code 8 19 = some (.iload_n 3, 0, 0, 0, 0) := by decide +kernel
theorem c_8_20 : m_code 8 20 = some (.invokestatic 84, 10, 442, 1, 0) := by decide +kernel
theorem c_8_23 : m_code 8 23 = some (.ifCond .eq 14, 37, 0, 0, 0) := by decide +kernel
theorem c_8_26 : m_code 8 26 = some (.iload_n 2, 0, 0, 0, 0) := by decide +kernel
theorem c_8_27 : m_code 8 27 = some (.aload_n 0, 0, 0, 0, 0) := by decide +kernel
theorem c_8_28 : m_code 8 28 = some (.getfield 22, 0, 3, 0, 93) := by decide +kernel
theorem c_8_31 : m_code 8 31 = some (.iload_n 3, 0, 0, 0, 0) := by decide +kernel
theorem c_8_32 : m_code 8 32 = some (.iaload, 0, 0, 0, 0) := by decide +kernel
theorem c_8_33 : m_code 8 33 = some (.invokestatic 88, 0, 445, 4, 0) := by decide +kernel
theorem c_8_36 : m_code 8 36 = some (.istore_n 2, 0, 0, 0, 0) := by decide +kernel
theorem c_8_37 : m_code 8 37 = some (.iinc 3 1, 0, 0, 0, 0) := by decide +kernel
theorem c_8_40 : m_code 8 40 = some (.goto (-31), 9, 0, 0, 0) := by decide +kernel
theorem c_8_43 : m_code 8 43 = some (.iload_n 2, 0, 0, 0, 0) := by decide +kernel
theorem c_8_44 : m_code 8 44 = some (.ireturn, 0, 0, 0, 0) := by decide +kernel
/-! X0 greatest -/
theorem c_9_0 : m_code 9 0 = some (.aload_n 0, 0, 0, 0, 0) := by decide +kernel
theorem c_9_1 : m_code 9 1 = some (.getfield 22, 0, 3, 0, 93) := by decide +kernel
theorem c_9_4 : m_code 9 4 = some (.iconst 4, 0, 0, 0, 0) := by decide +kernel
theorem c_9_5 : m_code 9 5 = some (.iaload, 0, 0, 0, 0) := by decide +kernel
theorem c_9_6 : m_code 9 6 = some (.istore_n 2, 0, 0, 0, 0) := by decide +kernel
theorem c_9_7 : m_code 9 7 = some (.iconst 0, 0, 0, 0, 0) := by decide +kernel
theorem c_9_8 : m_code 9 8 = some (.istore_n 3, 0, 0, 0, 0) := by decide +kernel
theorem c_9_9 : m_code 9 9 = some (.iload_n 3, 0, 0, 0, 0) := by decide +kernel
theorem c_9_10 : m_code 9 10 = some (.bipush 9, 0, 0, 0, 0) := by decide +kernel
theorem c_9_12 : m_code 9 12 = some (.if_icmp .ge 31, 43, 0, 0, 0) := by decide +kernel
theorem c_9_15 : m_code 9 15 = some (.iload_n 1, 0, 0, 0, 0) := by decide +kernel
theorem c_9_16 : m_code 9 16 = some (.ifCond .eq 10, 26, 0, 0, 0) := by decide +kernel
theorem c_9_19 : m_code 9 19 = some (.iload_n 3, 0, 0, 0, 0) := by decide +kernel
theorem c_9_20 : m_code 9 20 = some (.invokestatic 84, 10, 442, 1, 0) := by decide +kernel
theorem c_9_23 : m_code 9 23 = some (.ifCond .eq 14, 37, 0, 0, 0) := by decide +kernel
theorem c_9_26 : m_code 9 26 = some (.iload_n 2, 0, 0, 0, 0) := by decide +kernel
theorem c_9_27 : m_code 9 27 = some (.aload_n 0, 0, 0, 0, 0) := by decide +kernel
theorem c_9_28 : m_code 9 28 = some (.getfield 22, 0, 3, 0, 93) := by decide +kernel
theorem c_9_31 : m_code 9 31 = some (.iload_n 3, 0, 0, 0, 0) := by decide +kernel
theorem c_9_32 : m_code 9 32 = some (.iaload, 0, 0, 0, 0) := by decide +kernel
theorem c_9_33 : m_code 9 33 = some (.invokestatic 91, 0, 450, 3, 0) := by decide +kernel
theorem c_9_36 : m_code 9 36 = some (.istore_n 2, 0, 0, 0, 0) := by decide +kernel
theorem c_9_37 : m_code 9 37 = some (.iinc 3 1, 0, 0, 0, 0) := by decide +kernel
theorem c_9_40 : m_code 9 40 = some (.goto (-31), 9, 0, 0, 0) := by decide +kernel
theorem c_9_43 : m_code 9 43 = some (.iload_n 2, 0, 0, 0, 0) := by decide +kernel
theorem c_9_44 : m_code 9 44 = some (.ireturn, 0, 0, 0, 0) := by decide +kernel
/-! X0 isInCross -/
theorem c_10_0 : m_code 10 0 = some (.iload_n 0, 0, 0, 0, 0) := by decide +kernel
theorem c_10_1 : m_code 10 1 = some (.iconst 4, 0, 0, 0, 0) := by decide +kernel
theorem c_10_2 : m_code 10 2 = some (.if_icmp .eq 10, 12, 0, 0, 0) := by decide +kernel
theorem c_10_5 : m_code 10 5 = some (.iload_n 0, 0, 0, 0, 0) := by decide +kernel
theorem c_10_6 : m_code 10 6 = some (.iconst 2, 0, 0, 0, 0) := by decide +kernel
theorem c_10_7 : m_code 10 7 = some (.irem, 0, 0, 0, 0) := by decide +kernel
theorem c_10_8 : m_code 10 8 = some (.iconst 1, 0, 0, 0, 0) := by decide +kernel
theorem c_10_9 : m_code 10 9 = some (.if_icmp .ne 7, 16, 0, 0, 0) := by decide +kernel
theorem c_10_12 : m_code 10 12 = some (.iconst 1, 0, 0, 0, 0) := by decide +kernel
theorem c_10_13 : m_code 10 13 = some (.goto 4, 17, 0, 0, 0) := by decide +kernel
theorem c_10_16 : m_code 10 16 = some (.iconst 0, 0, 0, 0, 0) := by decide +kernel
theorem c_10_17 : m_code 10 17 = some (.ireturn, 0, 0, 0, 0) := by decide +kernel
/-! X1 init -/
theorem c_11_0 : m_code 11 0 = some (.aload_n 0, 0, 0, 0, 0) := by decide +kernel
theorem c_11_1 : m_code 11 1 = some (.invokespecial 3, 0, 127, 7, 0) := by decide +kernel
theorem c_11_4 : m_code 11 4 = some (.aload_n 0, 0, 0, 0, 0) := by decide +kernel
theorem c_11_5 : m_code 11 5 = some (.iconst 0, 0, 0, 0, 0) := by decide +kernel
theorem c_11_6 : m_code 11 6 = some (.putfield 9, 1, 0, 0, 128) := by decide +kernel
theorem c_11_9 : m_code 11 9 = some (.aload_n 0, 0, 0, 0, 0) := by decide +kernel
theorem c_11_10 : m_code 11 10 = some (.sipush 256, 0, 0, 0, 0) := by decide +kernel
theorem c_11_13 : m_code 11 13 = some (.newarray .int, 0, 81, 0, 0) := by decide +kernel
theorem c_11_15 : m_code 11 15 = some (.putfield 15, 1, 1, 0, 130) := by decide +kernel
theorem c_11_18 : m_code 11 18 = some (.aload_n 0, 0, 0, 0, 0) := by decide +kernel
theorem c_11_19 : m_code 11 19 = some (.sipush 256, 0, 0, 0, 0) := by decide +kernel
theorem c_11_22 : m_code 11 22 = some (.newarray .int, 0, 81, 0, 0) := by decide +kernel
theorem c_11_24 : m_code 11 24 = some (.putfield 19, 1, 2, 0, 131) := by decide +kernel
theorem c_11_27 : m_code 11 27 = some (.aload_n 0, 0, 0, 0, 0) := by decide +kernel
theorem c_11_28 : m_code 11 28 = some (.iconst 0, 0, 0, 0, 0) := by decide +kernel
theorem c_11_29 : m_code 11 29 = some (.putfield 22, 1, 3, 0, 132) := by decide +kernel
theorem c_11_32 : m_code 11 32 = some (.aload_n 0, 0, 0, 0, 0) := by decide +kernel
theorem c_11_33 : m_code 11 33 = some (.sipush 256, 0, 0, 0, 0) := by decide +kernel
theorem c_11_36 : m_code 11 36 = some (.newarray .int, 0, 81, 0, 0) := by decide +kernel
theorem c_11_38 : m_code 11 38 = some (.putfield 25, 1, 4, 0, 133) := by decide +kernel
theorem c_11_41 : m_code 11 41 = some (.aload_n 0, 0, 0, 0, 0) := by decide +kernel
theorem c_11_42 : m_code 11 42 = some (.sipush 256, 0, 0, 0, 0) := by decide +kernel
theorem c_11_45 : m_code 11 45 = some (.newarray .boolean, 1, 154, 0, 0) := by decide +kernel
theorem c_11_47 : m_code 11 47 = some (.putfield 28, 1, 5, 0, 134) := by decide +kernel
theorem c_11_50 : m_code 11 50 = some (.aload_n 0, 0, 0, 0, 0) := by decide +kernel
theorem c_11_51 : m_code 11 51 = some (.iconst 0, 0, 0, 0, 0) := by decide +kernel
theorem c_11_52 : m_code 11 52 = some (.putfield 32, 1, 6, 0, 135) := by decide +kernel
theorem c_11_55 : m_code 11 55 = some (.aload_n 0, 0, 0, 0, 0) := by decide +kernel
theorem c_11_56 : m_code 11 56 = some (.iconst 0, 0, 0, 0, 0) := by decide +kernel
theorem c_11_57 : m_code 11 57 = some (.putfield 35, 1, 7, 0, 136) := by decide +kernel
theorem c_11_60 : m_code 11 60 = some (.return_, 0, 0, 0, 0) := by decide +kernel
/-! X1 find -/
theorem c_12_0 : m_code 12 0 = some (.aload_n 0, 0, 0, 0, 0) := by decide +kernel
theorem c_12_1 : m_code 12 1 = some (.aload_n 1, 0, 0, 0, 0) := by decide +kernel
theorem c_12_2 : m_code 12 2 = some (.getfield 38, 3, 0, 0, 61) := by decide +kernel
theorem c_12_5 : m_code 12 5 = some (.putfield 32, 1, 6, 0, 135) := by decide +kernel
theorem c_12_8 : m_code 12 8 = some (.aload_n 0, 0, 0, 0, 0) := by decide +kernel
theorem c_12_9 : m_code 12 9 = some (.aload_n 1, 0, 0, 0, 0) := by decide +kernel
theorem c_12_10 : m_code 12 10 = some (.getfield 41, 3, 1, 0, 67) := by decide +kernel
theorem c_12_13 : m_code 12 13 = some (.putfield 35, 1, 7, 0, 136) := by decide +kernel
theorem c_12_16 : m_code 12 16 = some (.aload_n 0, 0, 0, 0, 0) := by decide +kernel
theorem c_12_17 : m_code 12 17 = some (.iconst 0, 0, 0, 0, 0) := by decide +kernel
theorem c_12_18 : m_code 12 18 = some (.putfield 9, 1, 0, 0, 128) := by decide +kernel
theorem c_12_21 : m_code 12 21 = some (.aload_n 0, 0, 0, 0, 0) := by decide +kernel
theorem c_12_22 : m_code 12 22 = some (.aload_n 1, 0, 0, 0, 0) := by decide +kernel
theorem c_12_23 : m_code 12 23 = some (.iload_n 3, 0, 0, 0, 0) := by decide +kernel
theorem c_12_24 : m_code 12 24 = some (.iload 4, 0, 0, 0, 0) := by decide +kernel
theorem c_12_26 : m_code 12 26 = some (.invokevirtual 42, 13, 546, 1, 0) := by decide +kernel
theorem c_12_29 : m_code 12 29 = some (.iconst 0, 0, 0, 0, 0) := by decide +kernel
theorem c_12_30 : m_code 12 30 = some (.istore 5, 0, 0, 0, 0) := by decide +kernel
theorem c_12_32 : m_code 12 32 = some (.iload 5, 0, 0, 0, 0) := by decide +kernel
theorem c_12_34 : m_code 12 34 = some (.aload_n 0, 0, 0, 0, 0) := by decide +kernel
theorem c_12_35 : m_code 12 35 = some (.getfield 35, 1, 7, 0, 136) := by decide +kernel
theorem c_12_38 : m_code 12 38 = some (.if_icmp .ge 60, 98, 0, 0, 0) := by decide +kernel
theorem c_12_41 : m_code 12 41 = some (.iconst 0, 0, 0, 0, 0) := by decide +kernel
theorem c_12_42 : m_code 12 42 = some (.istore 6, 0, 0, 0, 0) := by decide +kernel
theorem c_12_44 : m_code 12 44 = some (.iload 6, 0, 0, 0, 0) := by decide +kernel
theorem c_12_46 : m_code 12 46 = some (.aload_n 0, 0, 0, 0, 0) := by decide +kernel
theorem c_12_47 : m_code 12 47 = some (.getfield 32, 1, 6, 0, 135) := by decide +kernel
theorem c_12_50 : m_code 12 50 = some (.if_icmp .ge 42, 92, 0, 0, 0) := by decide +kernel
theorem c_12_53 : m_code 12 53 = some (.aload_n 0, 0, 0, 0, 0) := by decide +kernel
theorem c_12_54 : m_code 12 54 = some (.iload 6, 0, 0, 0, 0) := by decide +kernel
theorem c_12_56 : m_code 12 56 = some (.iload 5, 0, 0, 0, 0) := by decide +kernel
theorem c_12_58 : m_code 12 58 = some (.invokevirtual 46, 17, 550, 1, 0) := by decide +kernel
theorem c_12_61 : m_code 12 61 = some (.sipush 256, 0, 0, 0, 0) := by decide +kernel
theorem c_12_64 : m_code 12 64 = some (.if_icmp .ne 22, 86, 0, 0, 0) := by decide +kernel
theorem c_12_67 : m_code 12 67 = some (.aload_n 0, 0, 0, 0, 0) := by decide +kernel
theorem c_12_68 : m_code 12 68 = some (.iload 6, 0, 0, 0, 0) := by decide +kernel
theorem c_12_70 : m_code 12 70 = some (.iload 5, 0, 0, 0, 0) := by decide +kernel
theorem c_12_72 : m_code 12 72 = some (.iload_n 2, 0, 0, 0, 0) := by decide +kernel
theorem c_12_73 : m_code 12 73 = some (.invokevirtual 50, 14, 554, 1, 0) := by decide +kernel
theorem c_12_76 : m_code 12 76 = some (.aload_n 0, 0, 0, 0, 0) := by decide +kernel
theorem c_12_77 : m_code 12 77 = some (.dup, 0, 0, 0, 0) := by decide +kernel
theorem c_12_78 : m_code 12 78 = some (.getfield 9, 1, 0, 0, 128) := by decide +kernel
theorem c_12_81 : m_code 12 81 = some (.iconst 1, 0, 0, 0, 0) := by decide +kernel
theorem c_12_82 : m_code 12 82 = some (.iadd, 0, 0, 0, 0) := by decide +kernel
theorem c_12_83 : m_code 12 83 = some (.putfield 9, 1, 0, 0, 128) := by decide +kernel
theorem c_12_86 : m_code 12 86 = some (.iinc 6 1, 0, 0, 0, 0) := by decide +kernel
theorem c_12_89 : m_code 12 89 = some (.goto (-45), 44, 0, 0, 0) := by decide +kernel
theorem c_12_92 : m_code 12 92 = some (.iinc 5 1, 0, 0, 0, 0) := by decide +kernel
theorem c_12_95 : m_code 12 95 = some (.goto (-63), 32, 0, 0, 0) := by decide +kernel
theorem c_12_98 : m_code 12 98 = some (.return_, 0, 0, 0, 0) := by decide +kernel
/-! X1 markMembers -/
theorem c_13_0 : m_code 13 0 = some (.iconst 0, 0, 0, 0, 0) := by decide +kernel
theorem c_13_1 : m_code 13 1 = some (.istore 4, 0, 0, 0, 0) := by decide +kernel
theorem c_13_3 : m_code 13 3 = some (.iload 4, 0, 0, 0, 0) := by decide +kernel
theorem c_13_5 : m_code 13 5 = some (.aload_n 0, 0, 0, 0, 0) := by decide +kernel
theorem c_13_6 : m_code 13 6 = some (.getfield 32, 1, 6, 0, 135) := by decide +kernel
theorem c_13_9 : m_code 13 9 = some (.aload_n 0, 0, 0, 0, 0) := by decide +kernel
theorem c_13_10 : m_code 13 10 = some (.getfield 35, 1, 7, 0, 136) := by decide +kernel
theorem c_13_13 : m_code 13 13 = some (.imul, 0, 0, 0, 0) := by decide +kernel
theorem c_13_14 : m_code 13 14 = some (.if_icmp .ge 55, 69, 0, 0, 0) := by decide +kernel
theorem c_13_17 : m_code 13 17 = some (.aload_n 1, 0, 0, 0, 0) := by decide +kernel
theorem c_13_18 : m_code 13 18 = some (.getfield 54, 3, 2, 0, 73) := by decide +kernel
theorem c_13_21 : m_code 13 21 = some (.iload 4, 0, 0, 0, 0) := by decide +kernel
theorem c_13_23 : m_code 13 23 = some (.iaload, 0, 0, 0, 0) := by decide +kernel
theorem c_13_24 : m_code 13 24 = some (.iload_n 2, 0, 0, 0, 0) := by decide +kernel
theorem c_13_25 : m_code 13 25 = some (.if_icmp .lt 7, 32, 0, 0, 0) := by decide +kernel
theorem c_13_28 : m_code 13 28 = some (.iconst 1, 0, 0, 0, 0) := by decide +kernel
theorem c_13_29 : m_code 13 29 = some (.goto 4, 33, 0, 0, 0) := by decide +kernel
theorem c_13_32 : m_code 13 32 = some (.iconst 0, 0, 0, 0, 0) := by decide +kernel
theorem c_13_33 : m_code 13 33 = some (.iload_n 3, 0, 0, 0, 0) := by decide +kernel
theorem c_13_34 : m_code 13 34 = some (.if_icmp .ne 7, 41, 0, 0, 0) := by decide +kernel
theorem c_13_37 : m_code 13 37 = some (.iconst 1, 0, 0, 0, 0) := by decide +kernel
theorem c_13_38 : m_code 13 38 = some (.goto 4, 42, 0, 0, 0) := by decide +kernel
theorem c_13_41 : m_code 13 41 = some (.iconst 0, 0, 0, 0, 0) := by decide +kernel
theorem c_13_42 : m_code 13 42 = some (.istore 5, 0, 0, 0, 0) := by decide +kernel
theorem c_13_44 : m_code 13 44 = some (.aload_n 0, 0, 0, 0, 0) := by decide +kernel
theorem c_13_45 : m_code 13 45 = some (.getfield 15, 1, 1, 0, 130) := by decide +kernel
theorem c_13_48 : m_code 13 48 = some (.iload 4, 0, 0, 0, 0) := by decide +kernel
theorem c_13_50 : m_code 13 50 = some (.iload 5, 0, 0, 0, 0) := by decide +kernel
theorem c_13_52 : m_code 13 52 = some (.ifCond .eq 9, 61, 0, 0, 0) := by decide +kernel
theorem c_13_55 : m_code 13 55 = some (.sipush 256, 0, 0, 0, 0) := by decide +kernel
theorem c_13_58 : m_code 13 58 = some (.goto 4, 62, 0, 0, 0) := by decide +kernel
theorem c_13_61 : m_code 13 61 = some (.iconst (-1), 0, 0, 0, 0) := by decide +kernel
theorem c_13_62 : m_code 13 62 = some (.iastore, 0, 0, 0, 0) := by decide +kernel
theorem c_13_63 : m_code 13 63 = some (.iinc 4 1, 0, 0, 0, 0) := by decide +kernel
theorem c_13_66 : m_code 13 66 = some (.goto (-63), 3, 0, 0, 0) := by decide +kernel
theorem c_13_69 : m_code 13 69 = some (.return_, 0, 0, 0, 0) := by decide +kernel
/-! X1 gather -/
theorem c_14_0 : m_code 14 0 = some (.aload_n 0, 0, 0, 0, 0) := by decide +kernel
theorem c_14_1 : m_code 14 1 = some (.getfield 25, 1, 4, 0, 133) := by decide +kernel
theorem c_14_4 : m_code 14 4 = some (.aload_n 0, 0, 0, 0, 0) := by decide +kernel
theorem c_14_5 : m_code 14 5 = some (.getfield 9, 1, 0, 0, 128) := by decide +kernel
theorem c_14_8 : m_code 14 8 = some (.iconst 0, 0, 0, 0, 0) := by decide +kernel
theorem c_14_9 : m_code 14 9 = some (.iastore, 0, 0, 0, 0) := by decide +kernel
theorem c_14_10 : m_code 14 10 = some (.aload_n 0, 0, 0, 0, 0) := by decide +kernel
theorem c_14_11 : m_code 14 11 = some (.getfield 28, 1, 5, 0, 134) := by decide +kernel
theorem c_14_14 : m_code 14 14 = some (.aload_n 0, 0, 0, 0, 0) := by decide +kernel
theorem c_14_15 : m_code 14 15 = some (.getfield 9, 1, 0, 0, 128) := by decide +kernel
theorem c_14_18 : m_code 14 18 = some (.iconst 0, 0, 0, 0, 0) := by decide +kernel
theorem c_14_19 : m_code 14 19 = some (.bastore, 0, 0, 0, 0) := by decide +kernel
theorem c_14_20 : m_code 14 20 = some (.aload_n 0, 0, 0, 0, 0) := by decide +kernel
theorem c_14_21 : m_code 14 21 = some (.iconst 0, 0, 0, 0, 0) := by decide +kernel
theorem c_14_22 : m_code 14 22 = some (.putfield 22, 1, 3, 0, 132) := by decide +kernel
theorem c_14_25 : m_code 14 25 = some (.aload_n 0, 0, 0, 0, 0) := by decide +kernel
theorem c_14_26 : m_code 14 26 = some (.iload_n 1, 0, 0, 0, 0) := by decide +kernel
theorem c_14_27 : m_code 14 27 = some (.iload_n 2, 0, 0, 0, 0) := by decide +kernel
theorem c_14_28 : m_code 14 28 = some (.invokevirtual 57, 15, 558, 1, 0) := by decide +kernel
theorem c_14_31 : m_code 14 31 = some (.iconst 0, 0, 0, 0, 0) := by decide +kernel
theorem c_14_32 : m_code 14 32 = some (.istore 4, 0, 0, 0, 0) := by decide +kernel
theorem c_14_34 : m_code 14 34 = some (.iload 4, 0, 0, 0, 0) := by decide +kernel
theorem c_14_36 : m_code 14 36 = some (.sipush 256, 0, 0, 0, 0) := by decide +kernel
theorem c_14_39 : m_code 14 39 = some (.if_icmp .ge 52, 91, 0, 0, 0) := by decide +kernel
theorem c_14_42 : m_code 14 42 = some (.aload_n 0, 0, 0, 0, 0) := by decide +kernel
theorem c_14_43 : m_code 14 43 = some (.getfield 22, 1, 3, 0, 132) := by decide +kernel
theorem c_14_46 : m_code 14 46 = some (.ifCond .le 45, 91, 0, 0, 0) := by decide +kernel
theorem c_14_49 : m_code 14 49 = some (.aload_n 0, 0, 0, 0, 0) := by decide +kernel
theorem c_14_50 : m_code 14 50 = some (.dup, 0, 0, 0, 0) := by decide +kernel
theorem c_14_51 : m_code 14 51 = some (.getfield 22, 1, 3, 0, 132) := by decide +kernel
theorem c_14_54 : m_code 14 54 = some (.iconst 1, 0, 0, 0, 0) := by decide +kernel
theorem c_14_55 : m_code 14 55 = some (.isub, 0, 0, 0, 0) := by decide +kernel
theorem c_14_56 : m_code 14 56 = some (.putfield 22, 1, 3, 0, 132) := by decide +kernel
theorem c_14_59 : m_code 14 59 = some (.aload_n 0, 0, 0, 0, 0) := by decide +kernel
theorem c_14_60 : m_code 14 60 = some (.getfield 19, 1, 2, 0, 131) := by decide +kernel
theorem c_14_63 : m_code 14 63 = some (.aload_n 0, 0, 0, 0, 0) := by decide +kernel
theorem c_14_64 : m_code 14 64 = some (.getfield 22, 1, 3, 0, 132) := by decide +kernel
theorem c_14_67 : m_code 14 67 = some (.iaload, 0, 0, 0, 0) := by decide +kernel
theorem c_14_68 : m_code 14 68 = some (.istore 5, 0, 0, 0, 0) := by decide +kernel
theorem c_14_70 : m_code 14 70 = some (.aload_n 0, 0, 0, 0, 0) := by decide +kernel
theorem c_14_71 : m_code 14 71 = some (.iload 5, 0, 0, 0, 0) := by decide +kernel
theorem c_14_73 : m_code 14 73 = some (.bipush 16, 0, 0, 0, 0) := by decide +kernel
theorem c_14_75 : m_code 14 75 = some (.irem, 0, 0, 0, 0) := by decide +kernel
theorem c_14_76 : m_code 14 76 = some (.iload 5, 0, 0, 0, 0) := by decide +kernel
theorem c_14_78 : m_code 14 78 = some (.bipush 16, 0, 0, 0, 0) := by decide +kernel
theorem c_14_80 : m_code 14 80 = some (.idiv, 0, 0, 0, 0) := by decide +kernel
theorem c_14_81 : m_code 14 81 = some (.iload_n 3, 0, 0, 0, 0) := by decide +kernel
theorem c_14_82 : m_code 14 82 = some (.invokevirtual 61, 16, 562, 1, 0) := by decide +kernel
theorem c_14_85 : m_code 14 85 = some (.iinc 4 1, 0, 0, 0, 0) := by decide +kernel
theorem c_14_88 : m_code 14 88 = some (.goto (-54), 34, 0, 0, 0) := by decide +kernel
theorem c_14_91 : m_code 14 91 = some (.return_, 0, 0, 0, 0) := by decide +kernel
/-! X1 join -/
theorem c_15_0 : m_code 15 0 = some (.aload_n 0, 0, 0, 0, 0) := by decide +kernel
theorem c_15_1 : m_code 15 1 = some (.getfield 15, 1, 1, 0, 130) := by decide +kernel
theorem c_15_4 : m_code 15 4 = some (.iload_n 2, 0, 0, 0, 0) := by decide +kernel
theorem c_15_5 : m_code 15 5 = some (.aload_n 0, 0, 0, 0, 0) := by decide +kernel
theorem c_15_6 : m_code 15 6 = some (.getfield 32, 1, 6, 0, 135) := by decide +kernel
theorem c_15_9 : m_code 15 9 = some (.imul, 0, 0, 0, 0) := by decide +kernel
theorem c_15_10 : m_code 15 10 = some (.iload_n 1, 0, 0, 0, 0) := by decide +kernel
theorem c_15_11 : m_code 15 11 = some (.iadd, 0, 0, 0, 0) := by decide +kernel
theorem c_15_12 : m_code 15 12 = some (.aload_n 0, 0, 0, 0, 0) := by decide +kernel
theorem c_15_13 : m_code 15 13 = some (.getfield 9, 1, 0, 0, 128) := by decide +kernel
theorem c_15_16 : m_code 15 16 = some (.iastore, 0, 0, 0, 0) := by decide +kernel
theorem c_15_17 : m_code 15 17 = some (.aload_n 0, 0, 0, 0, 0) := by decide +kernel
theorem c_15_18 : m_code 15 18 = some (.getfield 25, 1, 4, 0, 133) := by decide +kernel
theorem c_15_21 : m_code 15 21 = some (.aload_n 0, 0, 0, 0, 0) := by decide +kernel
theorem c_15_22 : m_code 15 22 = some (.getfield 9, 1, 0, 0, 128) := by decide +kernel
theorem c_15_25 : m_code 15 25 = some (.dup2, 0, 0, 0, 0) := by decide +kernel
theorem c_15_26 : m_code 15 26 = some (.iaload, 0, 0, 0, 0) := by decide +kernel
theorem c_15_27 : m_code 15 27 = some (.iconst 1, 0, 0, 0, 0) := by decide +kernel
theorem c_15_28 : m_code 15 28 = some (.iadd, 0, 0, 0, 0) := by decide +kernel
theorem c_15_29 : m_code 15 29 = some (.iastore, 0, 0, 0, 0) := by decide +kernel
theorem c_15_30 : m_code 15 30 = some (.iload_n 1, 0, 0, 0, 0) := by decide +kernel
theorem c_15_31 : m_code 15 31 = some (.ifCond .eq 27, 58, 0, 0, 0) := by decide +kernel
theorem c_15_34 : m_code 15 34 = some (.iload_n 2, 0, 0, 0, 0) := by decide +kernel
theorem c_15_35 : m_code 15 35 = some (.ifCond .eq 23, 58, 0, 0, 0) := by decide +kernel
theorem c_15_38 : m_code 15 38 = some (.iload_n 1, 0, 0, 0, 0) := by decide +kernel
theorem c_15_39 : m_code 15 39 = some (.aload_n 0, 0, 0, 0, 0) := by decide +kernel
theorem c_15_40 : m_code 15 40 = some (.getfield 32, 1, 6, 0, 135) := by decide +kernel
theorem c_15_43 : m_code 15 43 = some (.iconst 1, 0, 0, 0, 0) := by decide +kernel
theorem c_15_44 : m_code 15 44 = some (.isub, 0, 0, 0, 0) := by decide +kernel
theorem c_15_45 : m_code 15 45 = some (.if_icmp .eq 13, 58, 0, 0, 0) := by decide +kernel
theorem c_15_48 : m_code 15 48 = some (.iload_n 2, 0, 0, 0, 0) := by decide +kernel
theorem c_15_49 : m_code 15 49 = some (.aload_n 0, 0, 0, 0, 0) := by decide +kernel
theorem c_15_50 : m_code 15 50 = some (.getfield 35, 1, 7, 0, 136) := by decide +kernel
theorem c_15_53 : m_code 15 53 = some (.iconst 1, 0, 0, 0, 0) := by decide +kernel
theorem c_15_54 : m_code 15 54 = some (.isub, 0, 0, 0, 0) := by decide +kernel
theorem c_15_55 : m_code 15 55 = some (.if_icmp .ne 13, 68, 0, 0, 0) := by decide +kernel
theorem c_15_58 : m_code 15 58 = some (.aload_n 0, 0, 0, 0, 0) := by decide +kernel
theorem c_15_59 : m_code 15 59 = some (.getfield 28, 1, 5, 0, 134) := by decide +kernel
theorem c_15_62 : m_code 15 62 = some (.aload_n 0, 0, 0, 0, 0) := by decide +kernel
theorem c_15_63 : m_code 15 63 = some (.getfield 9, 1, 0, 0, 128) := by decide +kernel
theorem c_15_66 : m_code 15 66 = some (.iconst 1, 0, 0, 0, 0) := by decide +kernel
theorem c_15_67 : m_code 15 67 = some (.bastore, 0, 0, 0, 0) := by decide +kernel
theorem c_15_68 : m_code 15 68 = some (.aload_n 0, 0, 0, 0, 0) := by decide +kernel
theorem c_15_69 : m_code 15 69 = some (.getfield 19, 1, 2, 0, 131) := by decide +kernel
theorem c_15_72 : m_code 15 72 = some (.aload_n 0, 0, 0, 0, 0) := by decide +kernel
theorem c_15_73 : m_code 15 73 = some (.getfield 22, 1, 3, 0, 132) := by decide +kernel
theorem c_15_76 : m_code 15 76 = some (.iload_n 2, 0, 0, 0, 0) := by decide +kernel
theorem c_15_77 : m_code 15 77 = some (.bipush 16, 0, 0, 0, 0) := by decide +kernel
theorem c_15_79 : m_code 15 79 = some (.imul, 0, 0, 0, 0) := by decide +kernel
theorem c_15_80 : m_code 15 80 = some (.iload_n 1, 0, 0, 0, 0) := by decide +kernel
theorem c_15_81 : m_code 15 81 = some (.iadd, 0, 0, 0, 0) := by decide +kernel
theorem c_15_82 : m_code 15 82 = some (.iastore, 0, 0, 0, 0) := by decide +kernel
theorem c_15_83 : m_code 15 83 = some (.aload_n 0, 0, 0, 0, 0) := by decide +kernel
theorem c_15_84 : m_code 15 84 = some (.dup, 0, 0, 0, 0) := by decide +kernel
theorem c_15_85 : m_code 15 85 = some (.getfield 22, 1, 3, 0, 132) := by decide +kernel
theorem c_15_88 : m_code 15 88 = some (.iconst 1, 0, 0, 0, 0) := by decide +kernel
theorem c_15_89 : m_code 15 89 = some (.iadd, 0, 0, 0, 0) := by decide +kernel
theorem c_15_90 : m_code 15 90 = some (.putfield 22, 1, 3, 0, 132) := by decide +kernel
theorem c_15_93 : m_code 15 93 = some (.return_, 0, 0, 0, 0) := by decide +kernel
/-! X1 joinNeighbours -/
theorem c_16_0 : m_code 16 0 = some (.iconst (-1), 0, 0, 0, 0) := by decide +kernel
theorem c_16_1 : m_code 16 1 = some (.istore 4, 0, 0, 0, 0) := by decide +kernel
theorem c_16_3 : m_code 16 3 = some (.iload 4, 0, 0, 0, 0) := by decide +kernel
theorem c_16_5 : m_code 16 5 = some (.iconst 1, 0, 0, 0, 0) := by decide +kernel
theorem c_16_6 : m_code 16 6 = some (.if_icmp .gt 82, 88, 0, 0, 0) := by decide +kernel
theorem c_16_9 : m_code 16 9 = some (.iconst (-1), 0, 0, 0, 0) := by decide +kernel
theorem c_16_10 : m_code 16 10 = some (.istore 5, 0, 0, 0, 0) := by decide +kernel
theorem c_16_12 : m_code 16 12 = some (.iload 5, 0, 0, 0, 0) := by decide +kernel
theorem c_16_14 : m_code 16 14 = some (.iconst 1, 0, 0, 0, 0) := by decide +kernel
theorem c_16_15 : m_code 16 15 = some (.if_icmp .gt 67, 82, 0, 0, 0) := by decide +kernel
theorem c_16_18 : m_code 16 18 = some (.iload_n 3, 0, 0, 0, 0) := by decide +kernel
theorem c_16_19 : m_code 16 19 = some (.bipush 8, 0, 0, 0, 0) := by decide +kernel
theorem c_16_21 : m_code 16 21 = some (.if_icmp .eq 13, 34, 0, 0, 0) := by decide +kernel
theorem c_16_24 : m_code 16 24 = some (.iload 5, 0, 0, 0, 0) := by decide +kernel
theorem c_16_26 : m_code 16 26 = some (.ifCond .eq 8, 34, 0, 0, 0) := by decide +kernel
theorem c_16_29 : m_code 16 29 = some (.iload 4, 0, 0, 0, 0) := by decide +kernel
theorem c_16_31 : m_code 16 31 = some (.ifCond .ne 7, 38, 0, 0, 0) := by decide +kernel
theorem c_16_34 : m_code 16 34 = some (.iconst 1, 0, 0, 0, 0) := by decide +kernel
theorem c_16_35 : m_code 16 35 = some (.goto 4, 39, 0, 0, 0) := by decide +kernel
theorem c_16_38 : m_code 16 38 = some (.iconst 0, 0, 0, 0, 0) := by decide +kernel
theorem c_16_39 : m_code 16 39 = some (.istore 6, 0, 0, 0, 0) := by decide +kernel
theorem c_16_41 : m_code 16 41 = some (.iload 6, 0, 0, 0, 0) := by decide +kernel
theorem c_16_43 : m_code 16 43 = some (.ifCond .eq 33, 76, 0, 0, 0) := by decide +kernel
theorem c_16_46 : m_code 16 46 = some (.aload_n 0, 0, 0, 0, 0) := by decide +kernel
theorem c_16_47 : m_code 16 47 = some (.iload_n 1, 0, 0, 0, 0) := by decide +kernel
theorem c_16_48 : m_code 16 48 = some (.iload 5, 0, 0, 0, 0) := by decide +kernel
theorem c_16_50 : m_code 16 50 = some (.iadd, 0, 0, 0, 0) := by decide +kernel
theorem c_16_51 : m_code 16 51 = some (.iload_n 2, 0, 0, 0, 0) := by decide +kernel
theorem c_16_52 : m_code 16 52 = some (.iload 4, 0, 0, 0, 0) := by decide +kernel
theorem c_16_54 : m_code 16 54 = some (.iadd, 0, 0, 0, 0) := by decide +kernel
theorem c_16_55 : m_code 16 55 = some (.invokevirtual 46, 17, 550, 1, 0) := by decide +kernel
theorem c_16_58 : m_code 16 58 = some (.sipush 256, 0, 0, 0, 0) := by decide +kernel
theorem c_16_61 : m_code 16 61 = some (.if_icmp .ne 15, 76, 0, 0, 0) := by decide +kernel
theorem c_16_64 : m_code 16 64 = some (.aload_n 0, 0, 0, 0, 0) := by decide +kernel
theorem c_16_65 : m_code 16 65 = some (.iload_n 1, 0, 0, 0, 0) := by decide +kernel
theorem c_16_66 : m_code 16 66 = some (.iload 5, 0, 0, 0, 0) := by decide +kernel
theorem c_16_68 : m_code 16 68 = some (.iadd, 0, 0, 0, 0) := by decide +kernel
theorem c_16_69 : m_code 16 69 = some (.iload_n 2, 0, 0, 0, 0) := by decide +kernel
theorem c_16_70 : m_code 16 70 = some (.iload 4, 0, 0, 0, 0) := by decide +kernel
theorem c_16_72 : m_code 16 72 = some (.iadd, 0, 0, 0, 0) := by decide +kernel
theorem c_16_73 : m_code 16 73 = some (.invokevirtual 57, 15, 558, 1, 0) := by decide +kernel
theorem c_16_76 : m_code 16 76 = some (.iinc 5 1, 0, 0, 0, 0) := by decide +kernel
theorem c_16_79 : m_code 16 79 = some (.goto (-67), 12, 0, 0, 0) := by decide +kernel
theorem c_16_82 : m_code 16 82 = some (.iinc 4 1, 0, 0, 0, 0) := by decide +kernel
theorem c_16_85 : m_code 16 85 = some (.goto (-82), 3, 0, 0, 0) := by decide +kernel
theorem c_16_88 : m_code 16 88 = some (.return_, 0, 0, 0, 0) := by decide +kernel
/-! X1 numberAt -/
theorem c_17_0 : m_code 17 0 = some (.iload_n 1, 0, 0, 0, 0) := by decide +kernel
theorem c_17_1 : m_code 17 1 = some (.ifCond .lt 23, 24, 0, 0, 0) := by decide +kernel
theorem c_17_4 : m_code 17 4 = some (.iload_n 2, 0, 0, 0, 0) := by decide +kernel
theorem c_17_5 : m_code 17 5 = some (.ifCond .lt 19, 24, 0, 0, 0) := by decide +kernel
theorem c_17_8 : m_code 17 8 = some (.iload_n 1, 0, 0, 0, 0) := by decide +kernel
theorem c_17_9 : m_code 17 9 = some (.aload_n 0, 0, 0, 0, 0) := by decide +kernel
theorem c_17_10 : m_code 17 10 = some (.getfield 32, 1, 6, 0, 135) := by decide +kernel
theorem c_17_13 : m_code 17 13 = some (.if_icmp .ge 11, 24, 0, 0, 0) := by decide +kernel
theorem c_17_16 : m_code 17 16 = some (.iload_n 2, 0, 0, 0, 0) := by decide +kernel
theorem c_17_17 : m_code 17 17 = some (.aload_n 0, 0, 0, 0, 0) := by decide +kernel
theorem c_17_18 : m_code 17 18 = some (.getfield 35, 1, 7, 0, 136) := by decide +kernel
theorem c_17_21 : m_code 17 21 = some (.if_icmp .lt 5, 26, 0, 0, 0) := by decide +kernel
theorem c_17_24 : m_code 17 24 = some (.iconst (-1), 0, 0, 0, 0) := by decide +kernel
theorem c_17_25 : m_code 17 25 = some (.ireturn, 0, 0, 0, 0) := by decide +kernel
theorem c_17_26 : m_code 17 26 = some (.aload_n 0, 0, 0, 0, 0) := by decide +kernel
theorem c_17_27 : m_code 17 27 = some (.getfield 15, 1, 1, 0, 130) := by decide +kernel
theorem c_17_30 : m_code 17 30 = some (.iload_n 2, 0, 0, 0, 0) := by decide +kernel
theorem c_17_31 : m_code 17 31 = some (.aload_n 0, 0, 0, 0, 0) := by decide +kernel
theorem c_17_32 : m_code 17 32 = some (.getfield 32, 1, 6, 0, 135) := by decide +kernel
theorem c_17_35 : m_code 17 35 = some (.imul, 0, 0, 0, 0) := by decide +kernel
theorem c_17_36 : m_code 17 36 = some (.iload_n 1, 0, 0, 0, 0) := by decide +kernel
theorem c_17_37 : m_code 17 37 = some (.iadd, 0, 0, 0, 0) := by decide +kernel
theorem c_17_38 : m_code 17 38 = some (.iaload, 0, 0, 0, 0) := by decide +kernel
theorem c_17_39 : m_code 17 39 = some (.ireturn, 0, 0, 0, 0) := by decide +kernel
/-! X1 awayFromEdges -/
theorem c_18_0 : m_code 18 0 = some (.iconst 0, 0, 0, 0, 0) := by decide +kernel
theorem c_18_1 : m_code 18 1 = some (.istore_n 1, 0, 0, 0, 0) := by decide +kernel
theorem c_18_2 : m_code 18 2 = some (.iconst 0, 0, 0, 0, 0) := by decide +kernel
theorem c_18_3 : m_code 18 3 = some (.istore_n 2, 0, 0, 0, 0) := by decide +kernel
theorem c_18_4 : m_code 18 4 = some (.iload_n 2, 0, 0, 0, 0) := by decide +kernel
theorem c_18_5 : m_code 18 5 = some (.aload_n 0, 0, 0, 0, 0) := by decide +kernel
theorem c_18_6 : m_code 18 6 = some (.getfield 9, 1, 0, 0, 128) := by decide +kernel
theorem c_18_9 : m_code 18 9 = some (.if_icmp .ge 21, 30, 0, 0, 0) := by decide +kernel
theorem c_18_12 : m_code 18 12 = some (.aload_n 0, 0, 0, 0, 0) := by decide +kernel
theorem c_18_13 : m_code 18 13 = some (.getfield 28, 1, 5, 0, 134) := by decide +kernel
theorem c_18_16 : m_code 18 16 = some (.iload_n 2, 0, 0, 0, 0) := by decide +kernel
theorem c_18_17 : m_code 18 17 = some (.baload, 0, 0, 0, 0) := by decide +kernel
theorem c_18_18 : m_code 18 18 = some (.ifCond .ne 6, 24, 0, 0, 0) := by decide +kernel
theorem c_18_21 : m_code 18 21 = some (.iinc 1 1, 0, 0, 0, 0) := by decide +kernel
theorem c_18_24 : m_code 18 24 = some (.iinc 2 1, 0, 0, 0, 0) := by decide +kernel
theorem c_18_27 : m_code 18 27 = some (.goto (-23), 4, 0, 0, 0) := by decide +kernel
theorem c_18_30 : m_code 18 30 = some (.iload_n 1, 0, 0, 0, 0) := by decide +kernel
theorem c_18_31 : m_code 18 31 = some (.ireturn, 0, 0, 0, 0) := by decide +kernel
/-! X1 factOf -/
theorem c_19_0 : m_code 19 0 = some (.iload_n 2, 0, 0, 0, 0) := by decide +kernel
theorem c_19_1 : m_code 19 1 = some (.ifCond .ne 10, 11, 0, 0, 0) := by decide +kernel
theorem c_19_4 : m_code 19 4 = some (.aload_n 0, 0, 0, 0, 0) := by decide +kernel
theorem c_19_5 : m_code 19 5 = some (.getfield 25, 1, 4, 0, 133) := by decide +kernel
theorem c_19_8 : m_code 19 8 = some (.iload_n 1, 0, 0, 0, 0) := by decide +kernel
theorem c_19_9 : m_code 19 9 = some (.iaload, 0, 0, 0, 0) := by decide +kernel
theorem c_19_10 : m_code 19 10 = some (.ireturn, 0, 0, 0, 0) := by decide +kernel
theorem c_19_11 : m_code 19 11 = some (.iload_n 2, 0, 0, 0, 0) := by decide +kernel
theorem c_19_12 : m_code 19 12 = some (.iconst 5, 0, 0, 0, 0) := by decide +kernel
theorem c_19_13 : m_code 19 13 = some (.if_icmp .ne 9, 22, 0, 0, 0) := by decide +kernel
theorem c_19_16 : m_code 19 16 = some (.aload_n 0, 0, 0, 0, 0) := by decide +kernel
theorem c_19_17 : m_code 19 17 = some (.iload_n 1, 0, 0, 0, 0) := by decide +kernel
theorem c_19_18 : m_code 19 18 = some (.invokevirtual 64, 21, 591, 1, 0) := by decide +kernel
theorem c_19_21 : m_code 19 21 = some (.ireturn, 0, 0, 0, 0) := by decide +kernel
theorem c_19_22 : m_code 19 22 = some (.aload_n 0, 0, 0, 0, 0) := by decide +kernel
theorem c_19_23 : m_code 19 23 = some (.iload_n 1, 0, 0, 0, 0) := by decide +kernel
theorem c_19_24 : m_code 19 24 = some (.iload_n 2, 0, 0, 0, 0) := by decide +kernel
theorem c_19_25 : m_code 19 25 = some (.invokevirtual 68, 20, 599, 1, 0) := by decide +kernel
theorem c_19_28 : m_code 19 28 = some (.ireturn, 0, 0, 0, 0) := by decide +kernel
/-! X1 bound -/
theorem c_20_0 : m_code 20 0 = some (.iload_n 2, 0, 0, 0, 0) := by decide +kernel
theorem c_20_1 : m_code 20 1 = some (.iconst 2, 0, 0, 0, 0) := by decide +kernel
theorem c_20_2 : m_code 20 2 = some (.if_icmp .gt 7, 9, 0, 0, 0) := by decide +kernel
theorem c_20_5 : m_code 20 5 = some (.iconst 1, 0, 0, 0, 0) := by decide +kernel
theorem c_20_6 : m_code 20 6 = some (.goto 4, 10, 0, 0, 0) := by decide +kernel
theorem c_20_9 : m_code 20 9 = some (.iconst 0, 0, 0, 0, 0) := by decide +kernel
theorem c_20_10 : m_code 20 10 = some (.istore_n 3, 0, 0, 0, 0) := by decide +kernel
theorem c_20_11 : m_code 20 11 = some (.iload_n 3, 0, 0, 0, 0) := by decide +kernel
theorem c_20_12 : m_code 20 12 = some (.ifCond .eq 8, 20, 0, 0, 0) := by decide +kernel
theorem c_20_15 : m_code 20 15 = some (.bipush 16, 0, 0, 0, 0) := by decide +kernel
theorem c_20_17 : m_code 20 17 = some (.goto 4, 21, 0, 0, 0) := by decide +kernel
theorem c_20_20 : m_code 20 20 = some (.iconst 0, 0, 0, 0, 0) := by decide +kernel
theorem c_20_21 : m_code 20 21 = some (.istore 4, 0, 0, 0, 0) := by decide +kernel
theorem c_20_23 : m_code 20 23 = some (.iconst 0, 0, 0, 0, 0) := by decide +kernel
theorem c_20_24 : m_code 20 24 = some (.istore 5, 0, 0, 0, 0) := by decide +kernel
theorem c_20_26 : m_code 20 26 = some (.iload 5, 0, 0, 0, 0) := by decide +kernel
theorem c_20_28 : m_code 20 28 = some (.aload_n 0, 0, 0, 0, 0) := by decide +kernel
theorem c_20_29 : m_code 20 29 = some (.getfield 35, 1, 7, 0, 136) := by decide +kernel
theorem c_20_32 : m_code 20 32 = some (.if_icmp .ge 78, 110, 0, 0, 0) := by decide +kernel
theorem c_20_35 : m_code 20 35 = some (.iconst 0, 0, 0, 0, 0) := by decide +kernel
theorem c_20_36 : m_code 20 36 = some (.istore 6, 0, 0, 0, 0) := by decide +kernel
theorem c_20_38 : m_code 20 38 = some (.iload 6, 0, 0, 0, 0) := by decide +kernel
theorem c_20_40 : m_code 20 40 = some (.aload_n 0, 0, 0, 0, 0) := by decide +kernel
theorem c_20_41 : m_code 20 41 = some (.getfield 32, 1, 6, 0, 135) := by decide +kernel
theorem c_20_44 : m_code 20 44 = some (.if_icmp .ge 60, 104, 0, 0, 0) := by decide +kernel
theorem c_20_47 : m_code 20 47 = some (.aload_n 0, 0, 0, 0, 0) := by decide +kernel
theorem c_20_48 : m_code 20 48 = some (.iload 6, 0, 0, 0, 0) := by decide +kernel
theorem c_20_50 : m_code 20 50 = some (.iload 5, 0, 0, 0, 0) := by decide +kernel
theorem c_20_52 : m_code 20 52 = some (.invokevirtual 46, 17, 550, 1, 0) := by decide +kernel
theorem c_20_55 : m_code 20 55 = some (.iload_n 1, 0, 0, 0, 0) := by decide +kernel
theorem c_20_56 : m_code 20 56 = some (.if_icmp .ne 42, 98, 0, 0, 0) := by decide +kernel
theorem c_20_59 : m_code 20 59 = some (.iload_n 2, 0, 0, 0, 0) := by decide +kernel
theorem c_20_60 : m_code 20 60 = some (.iconst 2, 0, 0, 0, 0) := by decide +kernel
theorem c_20_61 : m_code 20 61 = some (.irem, 0, 0, 0, 0) := by decide +kernel
theorem c_20_62 : m_code 20 62 = some (.iconst 1, 0, 0, 0, 0) := by decide +kernel
theorem c_20_63 : m_code 20 63 = some (.if_icmp .ne 8, 71, 0, 0, 0) := by decide +kernel
theorem c_20_66 : m_code 20 66 = some (.iload 6, 0, 0, 0, 0) := by decide +kernel
theorem c_20_68 : m_code 20 68 = some (.goto 5, 73, 0, 0, 0) := by decide +kernel
theorem c_20_71 : m_code 20 71 = some (.iload 5, 0, 0, 0, 0) := by decide +kernel
theorem c_20_73 : m_code 20 73 = some (.istore 7, 0, 0, 0, 0) := by decide +kernel
theorem c_20_75 : m_code 20 75 = some (.iload_n 3, 0, 0, 0, 0) := by decide +kernel
theorem c_20_76 : m_code 20 76 = some (.ifCond .eq 13, 89, 0, 0, 0) := by decide +kernel
theorem c_20_79 : m_code 20 79 = some (.iload 4, 0, 0, 0, 0) := by decide +kernel
theorem c_20_81 : m_code 20 81 = some (.iload 7, 0, 0, 0, 0) := by decide +kernel
theorem c_20_83 : m_code 20 83 = some (.invokestatic 71, 0, 603, 4, 0) := by decide +kernel
theorem c_20_86 : m_code 20 86 = some (.goto 10, 96, 0, 0, 0) := by decide +kernel
theorem c_20_89 : m_code 20 89 = some (.iload 4, 0, 0, 0, 0) := by decide +kernel
theorem c_20_91 : m_code 20 91 = some (.iload 7, 0, 0, 0, 0) := by decide +kernel
theorem c_20_93 : m_code 20 93 = some (.invokestatic 76, 0, 604, 3, 0) := by decide +kernel
theorem c_20_96 : m_code 20 96 = some (.istore 4, 0, 0, 0, 0) := by decide +kernel
theorem c_20_98 : m_code 20 98 = some (.iinc 6 1, 0, 0, 0, 0) := by decide +kernel
theorem c_20_101 : m_code 20 101 = some (.goto (-63), 38, 0, 0, 0) := by decide +kernel
theorem c_20_104 : m_code 20 104 = some (.iinc 5 1, 0, 0, 0, 0) := by decide +kernel
theorem c_20_107 : m_code 20 107 = some (.goto (-81), 26, 0, 0, 0) := by decide +kernel
theorem c_20_110 : m_code 20 110 = some (.iload 4, 0, 0, 0, 0) := by decide +kernel
theorem c_20_112 : m_code 20 112 = some (.ireturn, 0, 0, 0, 0) := by decide +kernel
/-! X1 bareSides -/
theorem c_21_0 : m_code 21 0 = some (.iconst 0, 0, 0, 0, 0) := by decide +kernel
theorem c_21_1 : m_code 21 1 = some (.istore_n 2, 0, 0, 0, 0) := by decide +kernel
theorem c_21_2 : m_code 21 2 = some (.iconst 0, 0, 0, 0, 0) := by decide +kernel
theorem c_21_3 : m_code 21 3 = some (.istore_n 3, 0, 0, 0, 0) := by decide +kernel
theorem c_21_4 : m_code 21 4 = some (.iload_n 3, 0, 0, 0, 0) := by decide +kernel
theorem c_21_5 : m_code 21 5 = some (.aload_n 0, 0, 0, 0, 0) := by decide +kernel
theorem c_21_6 : m_code 21 6 = some (.getfield 35, 1, 7, 0, 136) := by decide +kernel
theorem c_21_9 : m_code 21 9 = some (.if_icmp .ge 80, 89, 0, 0, 0) := by decide +kernel
theorem c_21_12 : m_code 21 12 = some (.iconst 0, 0, 0, 0, 0) := by decide +kernel
theorem c_21_13 : m_code 21 13 = some (.istore 4, 0, 0, 0, 0) := by decide +kernel
theorem c_21_15 : m_code 21 15 = some (.iload 4, 0, 0, 0, 0) := by decide +kernel
theorem c_21_17 : m_code 21 17 = some (.aload_n 0, 0, 0, 0, 0) := by decide +kernel
theorem c_21_18 : m_code 21 18 = some (.getfield 32, 1, 6, 0, 135) := by decide +kernel
theorem c_21_21 : m_code 21 21 = some (.if_icmp .ge 62, 83, 0, 0, 0) := by decide +kernel
theorem c_21_24 : m_code 21 24 = some (.aload_n 0, 0, 0, 0, 0) := by decide +kernel
theorem c_21_25 : m_code 21 25 = some (.iload 4, 0, 0, 0, 0) := by decide +kernel
theorem c_21_27 : m_code 21 27 = some (.iload_n 3, 0, 0, 0, 0) := by decide +kernel
theorem c_21_28 : m_code 21 28 = some (.invokevirtual 46, 17, 550, 1, 0) := by decide +kernel
theorem c_21_31 : m_code 21 31 = some (.iload_n 1, 0, 0, 0, 0) := by decide +kernel
theorem c_21_32 : m_code 21 32 = some (.if_icmp .ne 45, 77, 0, 0, 0) := by decide +kernel
theorem c_21_35 : m_code 21 35 = some (.iload_n 2, 0, 0, 0, 0) := by decide +kernel
theorem c_21_36 : m_code 21 36 = some (.aload_n 0, 0, 0, 0, 0) := by decide +kernel
theorem c_21_37 : m_code 21 37 = some (.iload 4, 0, 0, 0, 0) := by decide +kernel
theorem c_21_39 : m_code 21 39 = some (.iconst 1, 0, 0, 0, 0) := by decide +kernel
theorem c_21_40 : m_code 21 40 = some (.isub, 0, 0, 0, 0) := by decide +kernel
theorem c_21_41 : m_code 21 41 = some (.iload_n 3, 0, 0, 0, 0) := by decide +kernel
theorem c_21_42 : m_code 21 42 = some (.invokevirtual 79, 22, 595, 1, 0) := by decide +kernel
theorem c_21_45 : m_code 21 45 = some (.aload_n 0, 0, 0, 0, 0) := by decide +kernel
theorem c_21_46 : m_code 21 46 = some (.iload 4, 0, 0, 0, 0) := by decide +kernel
theorem c_21_48 : m_code 21 48 = some (.iconst 1, 0, 0, 0, 0) := by decide +kernel
theorem c_21_49 : m_code 21 49 = some (.iadd, 0, 0, 0, 0) := by decide +kernel
theorem c_21_50 : m_code 21 50 = some (.iload_n 3, 0, 0, 0, 0) := by decide +kernel
theorem c_21_51 : m_code 21 51 = some (.invokevirtual 79, 22, 595, 1, 0) := by decide +kernel
theorem c_21_54 : m_code 21 54 = some (.iadd, 0, 0, 0, 0) := by decide +kernel
theorem c_21_55 : m_code 21 55 = some (.aload_n 0, 0, 0, 0, 0) := by decide +kernel
theorem c_21_56 : m_code 21 56 = some (.iload 4, 0, 0, 0, 0) := by decide +kernel
theorem c_21_58 : m_code 21 58 = some (.iload_n 3, 0, 0, 0, 0) := by decide +kernel
theorem c_21_59 : m_code 21 59 = some (.iconst 1, 0, 0, 0, 0) := by decide +kernel
theorem c_21_60 : m_code 21 60 = some (.isub, 0, 0, 0, 0) := by decide +kernel
theorem c_21_61 : m_code 21 61 = some (.invokevirtual 79, 22, 595, 1, 0) := by decide +kernel
theorem c_21_64 : m_code 21 64 = some (.iadd, 0, 0, 0, 0) := by decide +kernel
theorem c_21_65 : m_code 21 65 = some (.aload_n 0, 0, 0, 0, 0) := by decide +kernel
theorem c_21_66 : m_code 21 66 = some (.iload 4, 0, 0, 0, 0) := by decide +kernel
theorem c_21_68 : m_code 21 68 = some (.iload_n 3, 0, 0, 0, 0) := by decide +kernel
theorem c_21_69 : m_code 21 69 = some (.iconst 1, 0, 0, 0, 0) := by decide +kernel
theorem c_21_70 : m_code 21 70 = some (.iadd, 0, 0, 0, 0) := by decide +kernel
theorem c_21_71 : m_code 21 71 = some (.invokevirtual 79, 22, 595, 1, 0) := by decide +kernel
theorem c_21_74 : m_code 21 74 = some (.iadd, 0, 0, 0, 0) := by decide +kernel
theorem c_21_75 : m_code 21 75 = some (.iadd, 0, 0, 0, 0) := by decide +kernel
theorem c_21_76 : m_code 21 76 = some (.istore_n 2, 0, 0, 0, 0) := by decide +kernel
theorem c_21_77 : m_code 21 77 = some (.iinc 4 1, 0, 0, 0, 0) := by decide +kernel
theorem c_21_80 : m_code 21 80 = some (.goto (-65), 15, 0, 0, 0) := by decide +kernel
theorem c_21_83 : m_code 21 83 = some (.iinc 3 1, 0, 0, 0, 0) := by decide +kernel
theorem c_21_86 : m_code 21 86 = some (.goto (-82), 4, 0, 0, 0) := by decide +kernel
theorem c_21_89 : m_code 21 89 = some (.iload_n 2, 0, 0, 0, 0) := by decide +kernel
theorem c_21_90 : m_code 21 90 = some (.ireturn, 0, 0, 0, 0) := by decide +kernel
/-! X1 bareSide -/
theorem c_22_0 : m_code 22 0 = some (.aload_n 0, 0, 0, 0, 0) := by decide +kernel
theorem c_22_1 : m_code 22 1 = some (.iload_n 1, 0, 0, 0, 0) := by decide +kernel
theorem c_22_2 : m_code 22 2 = some (.iload_n 2, 0, 0, 0, 0) := by decide +kernel
theorem c_22_3 : m_code 22 3 = some (.invokevirtual 46, 17, 550, 1, 0) := by decide +kernel
theorem c_22_6 : m_code 22 6 = some (.iconst (-1), 0, 0, 0, 0) := by decide +kernel
theorem c_22_7 : m_code 22 7 = some (.if_icmp .ne 7, 14, 0, 0, 0) := by decide +kernel
theorem c_22_10 : m_code 22 10 = some (.iconst 1, 0, 0, 0, 0) := by decide +kernel
theorem c_22_11 : m_code 22 11 = some (.goto 4, 15, 0, 0, 0) := by decide +kernel
theorem c_22_14 : m_code 22 14 = some (.iconst 0, 0, 0, 0, 0) := by decide +kernel
theorem c_22_15 : m_code 22 15 = some (.ireturn, 0, 0, 0, 0) := by decide +kernel
/-! X2 init -/
theorem c_23_0 : m_code 23 0 = some (.aload_n 0, 0, 0, 0, 0) := by decide +kernel
theorem c_23_1 : m_code 23 1 = some (.invokespecial 3, 0, 160, 7, 0) := by decide +kernel
theorem c_23_4 : m_code 23 4 = some (.aload_n 0, 0, 0, 0, 0) := by decide +kernel
theorem c_23_5 : m_code 23 5 = some (.iconst 0, 0, 0, 0, 0) := by decide +kernel
theorem c_23_6 : m_code 23 6 = some (.putfield 9, 2, 0, 0, 163) := by decide +kernel
theorem c_23_9 : m_code 23 9 = some (.aload_n 0, 0, 0, 0, 0) := by decide +kernel
theorem c_23_10 : m_code 23 10 = some (.bipush 16, 0, 0, 0, 0) := by decide +kernel
theorem c_23_12 : m_code 23 12 = some (.newarray .int, 0, 81, 0, 0) := by decide +kernel
theorem c_23_14 : m_code 23 14 = some (.putfield 15, 2, 1, 0, 165) := by decide +kernel
theorem c_23_17 : m_code 23 17 = some (.aload_n 0, 0, 0, 0, 0) := by decide +kernel
theorem c_23_18 : m_code 23 18 = some (.sipush 256, 0, 0, 0, 0) := by decide +kernel
theorem c_23_21 : m_code 23 21 = some (.newarray .int, 0, 81, 0, 0) := by decide +kernel
theorem c_23_23 : m_code 23 23 = some (.putfield 19, 2, 2, 0, 167) := by decide +kernel
theorem c_23_26 : m_code 23 26 = some (.aload_n 0, 0, 0, 0, 0) := by decide +kernel
theorem c_23_27 : m_code 23 27 = some (.new 22, 3, 161, 0, 0) := by decide +kernel
theorem c_23_30 : m_code 23 30 = some (.dup, 0, 0, 0, 0) := by decide +kernel
theorem c_23_31 : m_code 23 31 = some (.invokespecial 24, 30, 162, 2, 0) := by decide +kernel
theorem c_23_34 : m_code 23 34 = some (.putfield 25, 2, 3, 0, 168) := by decide +kernel
theorem c_23_37 : m_code 23 37 = some (.return_, 0, 0, 0, 0) := by decide +kernel
/-! X2 find -/
theorem c_24_0 : m_code 24 0 = some (.iconst 0, 0, 0, 0, 0) := by decide +kernel
theorem c_24_1 : m_code 24 1 = some (.istore_n 2, 0, 0, 0, 0) := by decide +kernel
theorem c_24_2 : m_code 24 2 = some (.iload_n 2, 0, 0, 0, 0) := by decide +kernel
theorem c_24_3 : m_code 24 3 = some (.aload_n 1, 0, 0, 0, 0) := by decide +kernel
theorem c_24_4 : m_code 24 4 = some (.getfield 29, 3, 1, 0, 66) := by decide +kernel
theorem c_24_7 : m_code 24 7 = some (.if_icmp .ge 55, 62, 0, 0, 0) := by decide +kernel
theorem c_24_10 : m_code 24 10 = some (.iconst 0, 0, 0, 0, 0) := by decide +kernel
theorem c_24_11 : m_code 24 11 = some (.istore_n 3, 0, 0, 0, 0) := by decide +kernel
theorem c_24_12 : m_code 24 12 = some (.iload_n 3, 0, 0, 0, 0) := by decide +kernel
theorem c_24_13 : m_code 24 13 = some (.aload_n 1, 0, 0, 0, 0) := by decide +kernel
theorem c_24_14 : m_code 24 14 = some (.getfield 32, 3, 0, 0, 62) := by decide +kernel
theorem c_24_17 : m_code 24 17 = some (.if_icmp .ge 39, 56, 0, 0, 0) := by decide +kernel
theorem c_24_20 : m_code 24 20 = some (.aload_n 0, 0, 0, 0, 0) := by decide +kernel
theorem c_24_21 : m_code 24 21 = some (.getfield 19, 2, 2, 0, 167) := by decide +kernel
theorem c_24_24 : m_code 24 24 = some (.iload_n 2, 0, 0, 0, 0) := by decide +kernel
theorem c_24_25 : m_code 24 25 = some (.aload_n 1, 0, 0, 0, 0) := by decide +kernel
theorem c_24_26 : m_code 24 26 = some (.getfield 32, 3, 0, 0, 62) := by decide +kernel
theorem c_24_29 : m_code 24 29 = some (.imul, 0, 0, 0, 0) := by decide +kernel
theorem c_24_30 : m_code 24 30 = some (.iload_n 3, 0, 0, 0, 0) := by decide +kernel
theorem c_24_31 : m_code 24 31 = some (.iadd, 0, 0, 0, 0) := by decide +kernel
theorem c_24_32 : m_code 24 32 = some (.aload_n 1, 0, 0, 0, 0) := by decide +kernel
theorem c_24_33 : m_code 24 33 = some (.iload_n 3, 0, 0, 0, 0) := by decide +kernel
theorem c_24_34 : m_code 24 34 = some (.iload_n 2, 0, 0, 0, 0) := by decide +kernel
theorem c_24_35 : m_code 24 35 = some (.invokestatic 35, 26, 630, 1, 0) := by decide +kernel
theorem c_24_38 : m_code 24 38 = some (.aload_n 0, 0, 0, 0, 0) := by decide +kernel
theorem c_24_39 : m_code 24 39 = some (.aload_n 1, 0, 0, 0, 0) := by decide +kernel
theorem c_24_40 : m_code 24 40 = some (.getfield 32, 3, 0, 0, 62) := by decide +kernel
theorem c_24_43 : m_code 24 43 = some (.iload_n 3, 0, 0, 0, 0) := by decide +kernel
theorem c_24_44 : m_code 24 44 = some (.iload_n 2, 0, 0, 0, 0) := by decide +kernel
theorem c_24_45 : m_code 24 45 = some (.invokevirtual 39, 25, 635, 1, 0) := by decide +kernel
theorem c_24_48 : m_code 24 48 = some (.iadd, 0, 0, 0, 0) := by decide +kernel
theorem c_24_49 : m_code 24 49 = some (.iastore, 0, 0, 0, 0) := by decide +kernel
theorem c_24_50 : m_code 24 50 = some (.iinc 3 1, 0, 0, 0, 0) := by decide +kernel
theorem c_24_53 : m_code 24 53 = some (.goto (-41), 12, 0, 0, 0) := by decide +kernel
theorem c_24_56 : m_code 24 56 = some (.iinc 2 1, 0, 0, 0, 0) := by decide +kernel
theorem c_24_59 : m_code 24 59 = some (.goto (-57), 2, 0, 0, 0) := by decide +kernel
theorem c_24_62 : m_code 24 62 = some (.aload_n 1, 0, 0, 0, 0) := by decide +kernel
theorem c_24_63 : m_code 24 63 = some (.getfield 29, 3, 1, 0, 66) := by decide +kernel
theorem c_24_66 : m_code 24 66 = some (.iconst 1, 0, 0, 0, 0) := by decide +kernel
theorem c_24_67 : m_code 24 67 = some (.isub, 0, 0, 0, 0) := by decide +kernel
theorem c_24_68 : m_code 24 68 = some (.istore_n 2, 0, 0, 0, 0) := by decide +kernel
theorem c_24_69 : m_code 24 69 = some (.aload_n 0, 0, 0, 0, 0) := by decide +kernel
theorem c_24_70 : m_code 24 70 = some (.getfield 15, 2, 1, 0, 165) := by decide +kernel
theorem c_24_73 : m_code 24 73 = some (.iload_n 2, 0, 0, 0, 0) := by decide +kernel
theorem c_24_74 : m_code 24 74 = some (.aload_n 0, 0, 0, 0, 0) := by decide +kernel
theorem c_24_75 : m_code 24 75 = some (.aload_n 1, 0, 0, 0, 0) := by decide +kernel
theorem c_24_76 : m_code 24 76 = some (.getfield 32, 3, 0, 0, 62) := by decide +kernel
theorem c_24_79 : m_code 24 79 = some (.iload_n 2, 0, 0, 0, 0) := by decide +kernel
theorem c_24_80 : m_code 24 80 = some (.iconst 0, 0, 0, 0, 0) := by decide +kernel
theorem c_24_81 : m_code 24 81 = some (.aload_n 1, 0, 0, 0, 0) := by decide +kernel
theorem c_24_82 : m_code 24 82 = some (.getfield 32, 3, 0, 0, 62) := by decide +kernel
theorem c_24_85 : m_code 24 85 = some (.iconst 1, 0, 0, 0, 0) := by decide +kernel
theorem c_24_86 : m_code 24 86 = some (.isub, 0, 0, 0, 0) := by decide +kernel
theorem c_24_87 : m_code 24 87 = some (.invokevirtual 43, 27, 639, 1, 0) := by decide +kernel
theorem c_24_90 : m_code 24 90 = some (.iastore, 0, 0, 0, 0) := by decide +kernel
theorem c_24_91 : m_code 24 91 = some (.aload_n 0, 0, 0, 0, 0) := by decide +kernel
theorem c_24_92 : m_code 24 92 = some (.aload_n 0, 0, 0, 0, 0) := by decide +kernel
theorem c_24_93 : m_code 24 93 = some (.getfield 19, 2, 2, 0, 167) := by decide +kernel
theorem c_24_96 : m_code 24 96 = some (.iload_n 2, 0, 0, 0, 0) := by decide +kernel
theorem c_24_97 : m_code 24 97 = some (.aload_n 1, 0, 0, 0, 0) := by decide +kernel
theorem c_24_98 : m_code 24 98 = some (.getfield 32, 3, 0, 0, 62) := by decide +kernel
theorem c_24_101 : m_code 24 101 = some (.imul, 0, 0, 0, 0) := by decide +kernel
theorem c_24_102 : m_code 24 102 = some (.aload_n 0, 0, 0, 0, 0) := by decide +kernel
theorem c_24_103 : m_code 24 103 = some (.getfield 15, 2, 1, 0, 165) := by decide +kernel
theorem c_24_106 : m_code 24 106 = some (.iload_n 2, 0, 0, 0, 0) := by decide +kernel
theorem c_24_107 : m_code 24 107 = some (.iaload, 0, 0, 0, 0) := by decide +kernel
theorem c_24_108 : m_code 24 108 = some (.iadd, 0, 0, 0, 0) := by decide +kernel
theorem c_24_109 : m_code 24 109 = some (.iaload, 0, 0, 0, 0) := by decide +kernel
theorem c_24_110 : m_code 24 110 = some (.putfield 9, 2, 0, 0, 163) := by decide +kernel
theorem c_24_113 : m_code 24 113 = some (.iload_n 2, 0, 0, 0, 0) := by decide +kernel
theorem c_24_114 : m_code 24 114 = some (.iconst 1, 0, 0, 0, 0) := by decide +kernel
theorem c_24_115 : m_code 24 115 = some (.isub, 0, 0, 0, 0) := by decide +kernel
theorem c_24_116 : m_code 24 116 = some (.istore_n 3, 0, 0, 0, 0) := by decide +kernel
theorem c_24_117 : m_code 24 117 = some (.iload_n 3, 0, 0, 0, 0) := by decide +kernel
theorem c_24_118 : m_code 24 118 = some (.ifCond .lt 44, 162, 0, 0, 0) := by decide +kernel
theorem c_24_121 : m_code 24 121 = some (.aload_n 0, 0, 0, 0, 0) := by decide +kernel
theorem c_24_122 : m_code 24 122 = some (.getfield 15, 2, 1, 0, 165) := by decide +kernel
theorem c_24_125 : m_code 24 125 = some (.iload_n 3, 0, 0, 0, 0) := by decide +kernel
theorem c_24_126 : m_code 24 126 = some (.aload_n 0, 0, 0, 0, 0) := by decide +kernel
theorem c_24_127 : m_code 24 127 = some (.aload_n 1, 0, 0, 0, 0) := by decide +kernel
theorem c_24_128 : m_code 24 128 = some (.getfield 32, 3, 0, 0, 62) := by decide +kernel
theorem c_24_131 : m_code 24 131 = some (.iload_n 3, 0, 0, 0, 0) := by decide +kernel
theorem c_24_132 : m_code 24 132 = some (.aload_n 0, 0, 0, 0, 0) := by decide +kernel
theorem c_24_133 : m_code 24 133 = some (.getfield 15, 2, 1, 0, 165) := by decide +kernel
theorem c_24_136 : m_code 24 136 = some (.iload_n 3, 0, 0, 0, 0) := by decide +kernel
theorem c_24_137 : m_code 24 137 = some (.iconst 1, 0, 0, 0, 0) := by decide +kernel
theorem c_24_138 : m_code 24 138 = some (.iadd, 0, 0, 0, 0) := by decide +kernel
theorem c_24_139 : m_code 24 139 = some (.iaload, 0, 0, 0, 0) := by decide +kernel
theorem c_24_140 : m_code 24 140 = some (.iconst 1, 0, 0, 0, 0) := by decide +kernel
theorem c_24_141 : m_code 24 141 = some (.isub, 0, 0, 0, 0) := by decide +kernel
theorem c_24_142 : m_code 24 142 = some (.aload_n 0, 0, 0, 0, 0) := by decide +kernel
theorem c_24_143 : m_code 24 143 = some (.getfield 15, 2, 1, 0, 165) := by decide +kernel
theorem c_24_146 : m_code 24 146 = some (.iload_n 3, 0, 0, 0, 0) := by decide +kernel
theorem c_24_147 : m_code 24 147 = some (.iconst 1, 0, 0, 0, 0) := by decide +kernel
theorem c_24_148 : m_code 24 148 = some (.iadd, 0, 0, 0, 0) := by decide +kernel
theorem c_24_149 : m_code 24 149 = some (.iaload, 0, 0, 0, 0) := by decide +kernel
theorem c_24_150 : m_code 24 150 = some (.iconst 1, 0, 0, 0, 0) := by decide +kernel
theorem c_24_151 : m_code 24 151 = some (.iadd, 0, 0, 0, 0) := by decide +kernel
theorem c_24_152 : m_code 24 152 = some (.invokevirtual 43, 27, 639, 1, 0) := by decide +kernel
theorem c_24_155 : m_code 24 155 = some (.iastore, 0, 0, 0, 0) := by decide +kernel
theorem c_24_156 : m_code 24 156 = some (.iinc 3 (-1), 0, 0, 0, 0) := by decide +kernel
theorem c_24_159 : m_code 24 159 = some (.goto (-42), 117, 0, 0, 0) := by decide +kernel
theorem c_24_162 : m_code 24 162 = some (.return_, 0, 0, 0, 0) := by decide +kernel
/-! X2 leastAbove -/
theorem c_25_0 : m_code 25 0 = some (.iload_n 3, 0, 0, 0, 0) := by decide +kernel
theorem c_25_1 : m_code 25 1 = some (.ifCond .ne 5, 6, 0, 0, 0) := by decide +kernel
theorem c_25_4 : m_code 25 4 = some (.iconst 0, 0, 0, 0, 0) := by decide +kernel
theorem c_25_5 : m_code 25 5 = some (.ireturn, 0, 0, 0, 0) := by decide +kernel
theorem c_25_6 : m_code 25 6 = some (.aload_n 0, 0, 0, 0, 0) := by decide +kernel
theorem c_25_7 : m_code 25 7 = some (.getfield 19, 2, 2, 0, 167) := by decide +kernel
theorem c_25_10 : m_code 25 10 = some (.iload_n 3, 0, 0, 0, 0) := by decide +kernel
theorem c_25_11 : m_code 25 11 = some (.iconst 1, 0, 0, 0, 0) := by decide +kernel
theorem c_25_12 : m_code 25 12 = some (.isub, 0, 0, 0, 0) := by decide +kernel
theorem c_25_13 : m_code 25 13 = some (.iload_n 1, 0, 0, 0, 0) := by decide +kernel
theorem c_25_14 : m_code 25 14 = some (.imul, 0, 0, 0, 0) := by decide +kernel
theorem c_25_15 : m_code 25 15 = some (.aload_n 0, 0, 0, 0, 0) := by decide +kernel
theorem c_25_16 : m_code 25 16 = some (.iload_n 1, 0, 0, 0, 0) := by decide +kernel
theorem c_25_17 : m_code 25 17 = some (.iload_n 3, 0, 0, 0, 0) := by decide +kernel
theorem c_25_18 : m_code 25 18 = some (.iconst 1, 0, 0, 0, 0) := by decide +kernel
theorem c_25_19 : m_code 25 19 = some (.isub, 0, 0, 0, 0) := by decide +kernel
theorem c_25_20 : m_code 25 20 = some (.iload_n 2, 0, 0, 0, 0) := by decide +kernel
theorem c_25_21 : m_code 25 21 = some (.iconst 1, 0, 0, 0, 0) := by decide +kernel
theorem c_25_22 : m_code 25 22 = some (.isub, 0, 0, 0, 0) := by decide +kernel
theorem c_25_23 : m_code 25 23 = some (.iload_n 2, 0, 0, 0, 0) := by decide +kernel
theorem c_25_24 : m_code 25 24 = some (.iconst 1, 0, 0, 0, 0) := by decide +kernel
theorem c_25_25 : m_code 25 25 = some (.iadd, 0, 0, 0, 0) := by decide +kernel
theorem c_25_26 : m_code 25 26 = some (.invokevirtual 43, 27, 639, 1, 0) := by decide +kernel
theorem c_25_29 : m_code 25 29 = some (.iadd, 0, 0, 0, 0) := by decide +kernel
theorem c_25_30 : m_code 25 30 = some (.iaload, 0, 0, 0, 0) := by decide +kernel
theorem c_25_31 : m_code 25 31 = some (.ireturn, 0, 0, 0, 0) := by decide +kernel
/-! X2 costOf -/
theorem c_26_0 : m_code 26 0 = some (.aload_n 0, 0, 0, 0, 0) := by decide +kernel
theorem c_26_1 : m_code 26 1 = some (.iload_n 1, 0, 0, 0, 0) := by decide +kernel
theorem c_26_2 : m_code 26 2 = some (.iconst 1, 0, 0, 0, 0) := by decide +kernel
theorem c_26_3 : m_code 26 3 = some (.iadd, 0, 0, 0, 0) := by decide +kernel
theorem c_26_4 : m_code 26 4 = some (.iload_n 2, 0, 0, 0, 0) := by decide +kernel
theorem c_26_5 : m_code 26 5 = some (.invokevirtual 47, 33, 633, 1, 0) := by decide +kernel
theorem c_26_8 : m_code 26 8 = some (.aload_n 0, 0, 0, 0, 0) := by decide +kernel
theorem c_26_9 : m_code 26 9 = some (.iload_n 1, 0, 0, 0, 0) := by decide +kernel
theorem c_26_10 : m_code 26 10 = some (.iconst 1, 0, 0, 0, 0) := by decide +kernel
theorem c_26_11 : m_code 26 11 = some (.isub, 0, 0, 0, 0) := by decide +kernel
theorem c_26_12 : m_code 26 12 = some (.iload_n 2, 0, 0, 0, 0) := by decide +kernel
theorem c_26_13 : m_code 26 13 = some (.invokevirtual 47, 33, 633, 1, 0) := by decide +kernel
theorem c_26_16 : m_code 26 16 = some (.isub, 0, 0, 0, 0) := by decide +kernel
theorem c_26_17 : m_code 26 17 = some (.invokestatic 51, 0, 634, 5, 0) := by decide +kernel
theorem c_26_20 : m_code 26 20 = some (.aload_n 0, 0, 0, 0, 0) := by decide +kernel
theorem c_26_21 : m_code 26 21 = some (.iload_n 1, 0, 0, 0, 0) := by decide +kernel
theorem c_26_22 : m_code 26 22 = some (.iload_n 2, 0, 0, 0, 0) := by decide +kernel
theorem c_26_23 : m_code 26 23 = some (.iconst 1, 0, 0, 0, 0) := by decide +kernel
theorem c_26_24 : m_code 26 24 = some (.iadd, 0, 0, 0, 0) := by decide +kernel
theorem c_26_25 : m_code 26 25 = some (.invokevirtual 47, 33, 633, 1, 0) := by decide +kernel
theorem c_26_28 : m_code 26 28 = some (.aload_n 0, 0, 0, 0, 0) := by decide +kernel
theorem c_26_29 : m_code 26 29 = some (.iload_n 1, 0, 0, 0, 0) := by decide +kernel
theorem c_26_30 : m_code 26 30 = some (.iload_n 2, 0, 0, 0, 0) := by decide +kernel
theorem c_26_31 : m_code 26 31 = some (.iconst 1, 0, 0, 0, 0) := by decide +kernel
theorem c_26_32 : m_code 26 32 = some (.isub, 0, 0, 0, 0) := by decide +kernel
theorem c_26_33 : m_code 26 33 = some (.invokevirtual 47, 33, 633, 1, 0) := by decide +kernel
theorem c_26_36 : m_code 26 36 = some (.isub, 0, 0, 0, 0) := by decide +kernel
theorem c_26_37 : m_code 26 37 = some (.invokestatic 51, 0, 634, 5, 0) := by decide +kernel
theorem c_26_40 : m_code 26 40 = some (.iadd, 0, 0, 0, 0) := by decide +kernel
theorem c_26_41 : m_code 26 41 = some (.ireturn, 0, 0, 0, 0) := by decide +kernel
/-! X2 bestColumn -/
theorem c_27_0 : m_code 27 0 = some (.iconst 0, 0, 0, 0, 0) := by decide +kernel
theorem c_27_1 : m_code 27 1 = some (.iload_n 3, 0, 0, 0, 0) := by decide +kernel
theorem c_27_2 : m_code 27 2 = some (.invokestatic 57, 0, 643, 3, 0) := by decide +kernel
theorem c_27_5 : m_code 27 5 = some (.istore 5, 0, 0, 0, 0) := by decide +kernel
theorem c_27_7 : m_code 27 7 = some (.iload 5, 0, 0, 0, 0) := by decide +kernel
theorem c_27_9 : m_code 27 9 = some (.iconst 1, 0, 0, 0, 0) := by decide +kernel
theorem c_27_10 : m_code 27 10 = some (.iadd, 0, 0, 0, 0) := by decide +kernel
theorem c_27_11 : m_code 27 11 = some (.istore 6, 0, 0, 0, 0) := by decide +kernel
theorem c_27_13 : m_code 27 13 = some (.iload 6, 0, 0, 0, 0) := by decide +kernel
theorem c_27_15 : m_code 27 15 = some (.iload 4, 0, 0, 0, 0) := by decide +kernel
theorem c_27_17 : m_code 27 17 = some (.iload_n 1, 0, 0, 0, 0) := by decide +kernel
theorem c_27_18 : m_code 27 18 = some (.iconst 1, 0, 0, 0, 0) := by decide +kernel
theorem c_27_19 : m_code 27 19 = some (.isub, 0, 0, 0, 0) := by decide +kernel
theorem c_27_20 : m_code 27 20 = some (.invokestatic 60, 0, 644, 4, 0) := by decide +kernel
theorem c_27_23 : m_code 27 23 = some (.if_icmp .gt 38, 61, 0, 0, 0) := by decide +kernel
theorem c_27_26 : m_code 27 26 = some (.aload_n 0, 0, 0, 0, 0) := by decide +kernel
theorem c_27_27 : m_code 27 27 = some (.getfield 19, 2, 2, 0, 167) := by decide +kernel
theorem c_27_30 : m_code 27 30 = some (.iload_n 2, 0, 0, 0, 0) := by decide +kernel
theorem c_27_31 : m_code 27 31 = some (.iload_n 1, 0, 0, 0, 0) := by decide +kernel
theorem c_27_32 : m_code 27 32 = some (.imul, 0, 0, 0, 0) := by decide +kernel
theorem c_27_33 : m_code 27 33 = some (.iload 6, 0, 0, 0, 0) := by decide +kernel
theorem c_27_35 : m_code 27 35 = some (.iadd, 0, 0, 0, 0) := by decide +kernel
theorem c_27_36 : m_code 27 36 = some (.iaload, 0, 0, 0, 0) := by decide +kernel
theorem c_27_37 : m_code 27 37 = some (.aload_n 0, 0, 0, 0, 0) := by decide +kernel
theorem c_27_38 : m_code 27 38 = some (.getfield 19, 2, 2, 0, 167) := by decide +kernel
theorem c_27_41 : m_code 27 41 = some (.iload_n 2, 0, 0, 0, 0) := by decide +kernel
theorem c_27_42 : m_code 27 42 = some (.iload_n 1, 0, 0, 0, 0) := by decide +kernel
theorem c_27_43 : m_code 27 43 = some (.imul, 0, 0, 0, 0) := by decide +kernel
theorem c_27_44 : m_code 27 44 = some (.iload 5, 0, 0, 0, 0) := by decide +kernel
theorem c_27_46 : m_code 27 46 = some (.iadd, 0, 0, 0, 0) := by decide +kernel
theorem c_27_47 : m_code 27 47 = some (.iaload, 0, 0, 0, 0) := by decide +kernel
theorem c_27_48 : m_code 27 48 = some (.if_icmp .ge 7, 55, 0, 0, 0) := by decide +kernel
theorem c_27_51 : m_code 27 51 = some (.iload 6, 0, 0, 0, 0) := by decide +kernel
theorem c_27_53 : m_code 27 53 = some (.istore 5, 0, 0, 0, 0) := by decide +kernel
theorem c_27_55 : m_code 27 55 = some (.iinc 6 1, 0, 0, 0, 0) := by decide +kernel
theorem c_27_58 : m_code 27 58 = some (.goto (-45), 13, 0, 0, 0) := by decide +kernel
theorem c_27_61 : m_code 27 61 = some (.iload 5, 0, 0, 0, 0) := by decide +kernel
theorem c_27_63 : m_code 27 63 = some (.ireturn, 0, 0, 0, 0) := by decide +kernel
/-! X2 takeOut -/
theorem c_28_0 : m_code 28 0 = some (.aload_n 0, 0, 0, 0, 0) := by decide +kernel
theorem c_28_1 : m_code 28 1 = some (.getfield 25, 2, 3, 0, 168) := by decide +kernel
theorem c_28_4 : m_code 28 4 = some (.aload_n 1, 0, 0, 0, 0) := by decide +kernel
theorem c_28_5 : m_code 28 5 = some (.getfield 32, 3, 0, 0, 62) := by decide +kernel
theorem c_28_8 : m_code 28 8 = some (.iconst 1, 0, 0, 0, 0) := by decide +kernel
theorem c_28_9 : m_code 28 9 = some (.isub, 0, 0, 0, 0) := by decide +kernel
theorem c_28_10 : m_code 28 10 = some (.aload_n 1, 0, 0, 0, 0) := by decide +kernel
theorem c_28_11 : m_code 28 11 = some (.getfield 29, 3, 1, 0, 66) := by decide +kernel
theorem c_28_14 : m_code 28 14 = some (.invokevirtual 63, 32, 649, 1, 0) := by decide +kernel
theorem c_28_17 : m_code 28 17 = some (.iconst 0, 0, 0, 0, 0) := by decide +kernel
theorem c_28_18 : m_code 28 18 = some (.istore_n 2, 0, 0, 0, 0) := by decide +kernel
theorem c_28_19 : m_code 28 19 = some (.iload_n 2, 0, 0, 0, 0) := by decide +kernel
theorem c_28_20 : m_code 28 20 = some (.aload_n 0, 0, 0, 0, 0) := by decide +kernel
theorem c_28_21 : m_code 28 21 = some (.getfield 25, 2, 3, 0, 168) := by decide +kernel
theorem c_28_24 : m_code 28 24 = some (.getfield 29, 3, 1, 0, 66) := by decide +kernel
theorem c_28_27 : m_code 28 27 = some (.if_icmp .ge 59, 86, 0, 0, 0) := by decide +kernel
theorem c_28_30 : m_code 28 30 = some (.iconst 0, 0, 0, 0, 0) := by decide +kernel
theorem c_28_31 : m_code 28 31 = some (.istore_n 3, 0, 0, 0, 0) := by decide +kernel
theorem c_28_32 : m_code 28 32 = some (.iload_n 3, 0, 0, 0, 0) := by decide +kernel
theorem c_28_33 : m_code 28 33 = some (.aload_n 0, 0, 0, 0, 0) := by decide +kernel
theorem c_28_34 : m_code 28 34 = some (.getfield 25, 2, 3, 0, 168) := by decide +kernel
theorem c_28_37 : m_code 28 37 = some (.getfield 32, 3, 0, 0, 62) := by decide +kernel
theorem c_28_40 : m_code 28 40 = some (.if_icmp .ge 40, 80, 0, 0, 0) := by decide +kernel
theorem c_28_43 : m_code 28 43 = some (.aload_n 0, 0, 0, 0, 0) := by decide +kernel
theorem c_28_44 : m_code 28 44 = some (.getfield 25, 2, 3, 0, 168) := by decide +kernel
theorem c_28_47 : m_code 28 47 = some (.iload_n 3, 0, 0, 0, 0) := by decide +kernel
theorem c_28_48 : m_code 28 48 = some (.iload_n 2, 0, 0, 0, 0) := by decide +kernel
theorem c_28_49 : m_code 28 49 = some (.aload_n 1, 0, 0, 0, 0) := by decide +kernel
theorem c_28_50 : m_code 28 50 = some (.iload_n 3, 0, 0, 0, 0) := by decide +kernel
theorem c_28_51 : m_code 28 51 = some (.aload_n 0, 0, 0, 0, 0) := by decide +kernel
theorem c_28_52 : m_code 28 52 = some (.getfield 15, 2, 1, 0, 165) := by decide +kernel
theorem c_28_55 : m_code 28 55 = some (.iload_n 2, 0, 0, 0, 0) := by decide +kernel
theorem c_28_56 : m_code 28 56 = some (.iaload, 0, 0, 0, 0) := by decide +kernel
theorem c_28_57 : m_code 28 57 = some (.if_icmp .ge 7, 64, 0, 0, 0) := by decide +kernel
theorem c_28_60 : m_code 28 60 = some (.iload_n 3, 0, 0, 0, 0) := by decide +kernel
theorem c_28_61 : m_code 28 61 = some (.goto 6, 67, 0, 0, 0) := by decide +kernel
theorem c_28_64 : m_code 28 64 = some (.iload_n 3, 0, 0, 0, 0) := by decide +kernel
theorem c_28_65 : m_code 28 65 = some (.iconst 1, 0, 0, 0, 0) := by decide +kernel
theorem c_28_66 : m_code 28 66 = some (.iadd, 0, 0, 0, 0) := by decide +kernel
theorem c_28_67 : m_code 28 67 = some (.iload_n 2, 0, 0, 0, 0) := by decide +kernel
theorem c_28_68 : m_code 28 68 = some (.invokevirtual 47, 33, 633, 1, 0) := by decide +kernel
theorem c_28_71 : m_code 28 71 = some (.invokevirtual 67, 34, 650, 1, 0) := by decide +kernel
theorem c_28_74 : m_code 28 74 = some (.iinc 3 1, 0, 0, 0, 0) := by decide +kernel
theorem c_28_77 : m_code 28 77 = some (.goto (-45), 32, 0, 0, 0) := by decide +kernel
theorem c_28_80 : m_code 28 80 = some (.iinc 2 1, 0, 0, 0, 0) := by decide +kernel
theorem c_28_83 : m_code 28 83 = some (.goto (-64), 19, 0, 0, 0) := by decide +kernel
theorem c_28_86 : m_code 28 86 = some (.aload_n 1, 0, 0, 0, 0) := by decide +kernel
theorem c_28_87 : m_code 28 87 = some (.aload_n 0, 0, 0, 0, 0) := by decide +kernel
theorem c_28_88 : m_code 28 88 = some (.getfield 25, 2, 3, 0, 168) := by decide +kernel
theorem c_28_91 : m_code 28 91 = some (.invokevirtual 71, 38, 651, 1, 0) := by decide +kernel
theorem c_28_94 : m_code 28 94 = some (.return_, 0, 0, 0, 0) := by decide +kernel
/-! X2 putIn -/
theorem c_29_0 : m_code 29 0 = some (.aload_n 0, 0, 0, 0, 0) := by decide +kernel
theorem c_29_1 : m_code 29 1 = some (.getfield 25, 2, 3, 0, 168) := by decide +kernel
theorem c_29_4 : m_code 29 4 = some (.aload_n 1, 0, 0, 0, 0) := by decide +kernel
theorem c_29_5 : m_code 29 5 = some (.getfield 32, 3, 0, 0, 62) := by decide +kernel
theorem c_29_8 : m_code 29 8 = some (.iconst 1, 0, 0, 0, 0) := by decide +kernel
theorem c_29_9 : m_code 29 9 = some (.iadd, 0, 0, 0, 0) := by decide +kernel
theorem c_29_10 : m_code 29 10 = some (.aload_n 1, 0, 0, 0, 0) := by decide +kernel
theorem c_29_11 : m_code 29 11 = some (.getfield 29, 3, 1, 0, 66) := by decide +kernel
theorem c_29_14 : m_code 29 14 = some (.invokevirtual 63, 32, 649, 1, 0) := by decide +kernel
theorem c_29_17 : m_code 29 17 = some (.iconst 0, 0, 0, 0, 0) := by decide +kernel
theorem c_29_18 : m_code 29 18 = some (.istore_n 2, 0, 0, 0, 0) := by decide +kernel
theorem c_29_19 : m_code 29 19 = some (.iload_n 2, 0, 0, 0, 0) := by decide +kernel
theorem c_29_20 : m_code 29 20 = some (.aload_n 0, 0, 0, 0, 0) := by decide +kernel
theorem c_29_21 : m_code 29 21 = some (.getfield 25, 2, 3, 0, 168) := by decide +kernel
theorem c_29_24 : m_code 29 24 = some (.getfield 29, 3, 1, 0, 66) := by decide +kernel
theorem c_29_27 : m_code 29 27 = some (.if_icmp .ge 95, 122, 0, 0, 0) := by decide +kernel
theorem c_29_30 : m_code 29 30 = some (.aload_n 0, 0, 0, 0, 0) := by decide +kernel
theorem c_29_31 : m_code 29 31 = some (.getfield 15, 2, 1, 0, 165) := by decide +kernel
theorem c_29_34 : m_code 29 34 = some (.iload_n 2, 0, 0, 0, 0) := by decide +kernel
theorem c_29_35 : m_code 29 35 = some (.iaload, 0, 0, 0, 0) := by decide +kernel
theorem c_29_36 : m_code 29 36 = some (.istore_n 3, 0, 0, 0, 0) := by decide +kernel
theorem c_29_37 : m_code 29 37 = some (.iconst 0, 0, 0, 0, 0) := by decide +kernel
theorem c_29_38 : m_code 29 38 = some (.istore 4, 0, 0, 0, 0) := by decide +kernel
theorem c_29_40 : m_code 29 40 = some (.iload 4, 0, 0, 0, 0) := by decide +kernel
theorem c_29_42 : m_code 29 42 = some (.aload_n 0, 0, 0, 0, 0) := by decide +kernel
theorem c_29_43 : m_code 29 43 = some (.getfield 25, 2, 3, 0, 168) := by decide +kernel
theorem c_29_46 : m_code 29 46 = some (.getfield 32, 3, 0, 0, 62) := by decide +kernel
theorem c_29_49 : m_code 29 49 = some (.if_icmp .ge 39, 88, 0, 0, 0) := by decide +kernel
theorem c_29_52 : m_code 29 52 = some (.aload_n 0, 0, 0, 0, 0) := by decide +kernel
theorem c_29_53 : m_code 29 53 = some (.getfield 25, 2, 3, 0, 168) := by decide +kernel
theorem c_29_56 : m_code 29 56 = some (.iload 4, 0, 0, 0, 0) := by decide +kernel
theorem c_29_58 : m_code 29 58 = some (.iload_n 2, 0, 0, 0, 0) := by decide +kernel
theorem c_29_59 : m_code 29 59 = some (.aload_n 1, 0, 0, 0, 0) := by decide +kernel
theorem c_29_60 : m_code 29 60 = some (.iload 4, 0, 0, 0, 0) := by decide +kernel
theorem c_29_62 : m_code 29 62 = some (.iload_n 3, 0, 0, 0, 0) := by decide +kernel
theorem c_29_63 : m_code 29 63 = some (.if_icmp .gt 8, 71, 0, 0, 0) := by decide +kernel
theorem c_29_66 : m_code 29 66 = some (.iload 4, 0, 0, 0, 0) := by decide +kernel
theorem c_29_68 : m_code 29 68 = some (.goto 7, 75, 0, 0, 0) := by decide +kernel
theorem c_29_71 : m_code 29 71 = some (.iload 4, 0, 0, 0, 0) := by decide +kernel
theorem c_29_73 : m_code 29 73 = some (.iconst 1, 0, 0, 0, 0) := by decide +kernel
theorem c_29_74 : m_code 29 74 = some (.isub, 0, 0, 0, 0) := by decide +kernel
theorem c_29_75 : m_code 29 75 = some (.iload_n 2, 0, 0, 0, 0) := by decide +kernel
theorem c_29_76 : m_code 29 76 = some (.invokevirtual 47, 33, 633, 1, 0) := by decide +kernel
theorem c_29_79 : m_code 29 79 = some (.invokevirtual 67, 34, 650, 1, 0) := by decide +kernel
theorem c_29_82 : m_code 29 82 = some (.iinc 4 1, 0, 0, 0, 0) := by decide +kernel
theorem c_29_85 : m_code 29 85 = some (.goto (-45), 40, 0, 0, 0) := by decide +kernel
theorem c_29_88 : m_code 29 88 = some (.aload_n 0, 0, 0, 0, 0) := by decide +kernel
theorem c_29_89 : m_code 29 89 = some (.getfield 25, 2, 3, 0, 168) := by decide +kernel
theorem c_29_92 : m_code 29 92 = some (.iload_n 3, 0, 0, 0, 0) := by decide +kernel
theorem c_29_93 : m_code 29 93 = some (.iconst 1, 0, 0, 0, 0) := by decide +kernel
theorem c_29_94 : m_code 29 94 = some (.iadd, 0, 0, 0, 0) := by decide +kernel
theorem c_29_95 : m_code 29 95 = some (.iload_n 2, 0, 0, 0, 0) := by decide +kernel
theorem c_29_96 : m_code 29 96 = some (.aload_n 1, 0, 0, 0, 0) := by decide +kernel
theorem c_29_97 : m_code 29 97 = some (.iload_n 3, 0, 0, 0, 0) := by decide +kernel
theorem c_29_98 : m_code 29 98 = some (.iload_n 2, 0, 0, 0, 0) := by decide +kernel
theorem c_29_99 : m_code 29 99 = some (.invokevirtual 47, 33, 633, 1, 0) := by decide +kernel
theorem c_29_102 : m_code 29 102 = some (.aload_n 1, 0, 0, 0, 0) := by decide +kernel
theorem c_29_103 : m_code 29 103 = some (.iload_n 3, 0, 0, 0, 0) := by decide +kernel
theorem c_29_104 : m_code 29 104 = some (.iconst 1, 0, 0, 0, 0) := by decide +kernel
theorem c_29_105 : m_code 29 105 = some (.iadd, 0, 0, 0, 0) := by decide +kernel
theorem c_29_106 : m_code 29 106 = some (.iload_n 2, 0, 0, 0, 0) := by decide +kernel
theorem c_29_107 : m_code 29 107 = some (.invokevirtual 47, 33, 633, 1, 0) := by decide +kernel
theorem c_29_110 : m_code 29 110 = some (.iadd, 0, 0, 0, 0) := by decide +kernel
theorem c_29_111 : m_code 29 111 = some (.iconst 2, 0, 0, 0, 0) := by decide +kernel
theorem c_29_112 : m_code 29 112 = some (.idiv, 0, 0, 0, 0) := by decide +kernel
theorem c_29_113 : m_code 29 113 = some (.invokevirtual 67, 34, 650, 1, 0) := by decide +kernel
theorem c_29_116 : m_code 29 116 = some (.iinc 2 1, 0, 0, 0, 0) := by decide +kernel
theorem c_29_119 : m_code 29 119 = some (.goto (-100), 19, 0, 0, 0) := by decide +kernel
theorem c_29_122 : m_code 29 122 = some (.aload_n 1, 0, 0, 0, 0) := by decide +kernel
theorem c_29_123 : m_code 29 123 = some (.aload_n 0, 0, 0, 0, 0) := by decide +kernel
theorem c_29_124 : m_code 29 124 = some (.getfield 25, 2, 3, 0, 168) := by decide +kernel
theorem c_29_127 : m_code 29 127 = some (.invokevirtual 71, 38, 651, 1, 0) := by decide +kernel
theorem c_29_130 : m_code 29 130 = some (.return_, 0, 0, 0, 0) := by decide +kernel
/-! X3 init -/
theorem c_30_0 : m_code 30 0 = some (.aload_n 0, 0, 0, 0, 0) := by decide +kernel
theorem c_30_1 : m_code 30 1 = some (.invokespecial 3, 0, 59, 7, 0) := by decide +kernel
theorem c_30_4 : m_code 30 4 = some (.aload_n 0, 0, 0, 0, 0) := by decide +kernel
theorem c_30_5 : m_code 30 5 = some (.bipush 8, 0, 0, 0, 0) := by decide +kernel
theorem c_30_7 : m_code 30 7 = some (.putfield 9, 3, 0, 0, 60) := by decide +kernel
theorem c_30_10 : m_code 30 10 = some (.aload_n 0, 0, 0, 0, 0) := by decide +kernel
theorem c_30_11 : m_code 30 11 = some (.bipush 8, 0, 0, 0, 0) := by decide +kernel
theorem c_30_13 : m_code 30 13 = some (.putfield 15, 3, 1, 0, 65) := by decide +kernel
theorem c_30_16 : m_code 30 16 = some (.aload_n 0, 0, 0, 0, 0) := by decide +kernel
theorem c_30_17 : m_code 30 17 = some (.sipush 256, 0, 0, 0, 0) := by decide +kernel
theorem c_30_20 : m_code 30 20 = some (.newarray .int, 0, 81, 0, 0) := by decide +kernel
theorem c_30_22 : m_code 30 22 = some (.putfield 18, 3, 2, 0, 70) := by decide +kernel
theorem c_30_25 : m_code 30 25 = some (.return_, 0, 0, 0, 0) := by decide +kernel
/-! X3 size -/
theorem c_31_0 : m_code 31 0 = some (.aload_n 0, 0, 0, 0, 0) := by decide +kernel
theorem c_31_1 : m_code 31 1 = some (.getfield 9, 3, 0, 0, 60) := by decide +kernel
theorem c_31_4 : m_code 31 4 = some (.aload_n 0, 0, 0, 0, 0) := by decide +kernel
theorem c_31_5 : m_code 31 5 = some (.getfield 15, 3, 1, 0, 65) := by decide +kernel
theorem c_31_8 : m_code 31 8 = some (.imul, 0, 0, 0, 0) := by decide +kernel
theorem c_31_9 : m_code 31 9 = some (.ireturn, 0, 0, 0, 0) := by decide +kernel
/-! X3 measure -/
theorem c_32_0 : m_code 32 0 = some (.aload_n 0, 0, 0, 0, 0) := by decide +kernel
theorem c_32_1 : m_code 32 1 = some (.iload_n 1, 0, 0, 0, 0) := by decide +kernel
theorem c_32_2 : m_code 32 2 = some (.putfield 9, 3, 0, 0, 60) := by decide +kernel
theorem c_32_5 : m_code 32 5 = some (.aload_n 0, 0, 0, 0, 0) := by decide +kernel
theorem c_32_6 : m_code 32 6 = some (.iload_n 2, 0, 0, 0, 0) := by decide +kernel
theorem c_32_7 : m_code 32 7 = some (.putfield 15, 3, 1, 0, 65) := by decide +kernel
theorem c_32_10 : m_code 32 10 = some (.return_, 0, 0, 0, 0) := by decide +kernel
/-! X3 near -/
theorem c_33_0 : m_code 33 0 = some (.iconst 0, 0, 0, 0, 0) := by decide +kernel
theorem c_33_1 : m_code 33 1 = some (.iload_n 1, 0, 0, 0, 0) := by decide +kernel
theorem c_33_2 : m_code 33 2 = some (.aload_n 0, 0, 0, 0, 0) := by decide +kernel
theorem c_33_3 : m_code 33 3 = some (.getfield 9, 3, 0, 0, 60) := by decide +kernel
theorem c_33_6 : m_code 33 6 = some (.iconst 1, 0, 0, 0, 0) := by decide +kernel
theorem c_33_7 : m_code 33 7 = some (.isub, 0, 0, 0, 0) := by decide +kernel
theorem c_33_8 : m_code 33 8 = some (.invokestatic 22, 0, 321, 4, 0) := by decide +kernel
theorem c_33_11 : m_code 33 11 = some (.invokestatic 28, 0, 324, 3, 0) := by decide +kernel
theorem c_33_14 : m_code 33 14 = some (.istore_n 3, 0, 0, 0, 0) := by decide +kernel
theorem c_33_15 : m_code 33 15 = some (.iconst 0, 0, 0, 0, 0) := by decide +kernel
theorem c_33_16 : m_code 33 16 = some (.iload_n 2, 0, 0, 0, 0) := by decide +kernel
theorem c_33_17 : m_code 33 17 = some (.aload_n 0, 0, 0, 0, 0) := by decide +kernel
theorem c_33_18 : m_code 33 18 = some (.getfield 15, 3, 1, 0, 65) := by decide +kernel
theorem c_33_21 : m_code 33 21 = some (.iconst 1, 0, 0, 0, 0) := by decide +kernel
theorem c_33_22 : m_code 33 22 = some (.isub, 0, 0, 0, 0) := by decide +kernel
theorem c_33_23 : m_code 33 23 = some (.invokestatic 22, 0, 321, 4, 0) := by decide +kernel
theorem c_33_26 : m_code 33 26 = some (.invokestatic 28, 0, 324, 3, 0) := by decide +kernel
theorem c_33_29 : m_code 33 29 = some (.istore 4, 0, 0, 0, 0) := by decide +kernel
theorem c_33_31 : m_code 33 31 = some (.aload_n 0, 0, 0, 0, 0) := by decide +kernel
theorem c_33_32 : m_code 33 32 = some (.getfield 18, 3, 2, 0, 70) := by decide +kernel
theorem c_33_35 : m_code 33 35 = some (.iload 4, 0, 0, 0, 0) := by decide +kernel
theorem c_33_37 : m_code 33 37 = some (.aload_n 0, 0, 0, 0, 0) := by decide +kernel
theorem c_33_38 : m_code 33 38 = some (.getfield 9, 3, 0, 0, 60) := by decide +kernel
theorem c_33_41 : m_code 33 41 = some (.imul, 0, 0, 0, 0) := by decide +kernel
theorem c_33_42 : m_code 33 42 = some (.iload_n 3, 0, 0, 0, 0) := by decide +kernel
theorem c_33_43 : m_code 33 43 = some (.iadd, 0, 0, 0, 0) := by decide +kernel
theorem c_33_44 : m_code 33 44 = some (.iaload, 0, 0, 0, 0) := by decide +kernel
theorem c_33_45 : m_code 33 45 = some (.ireturn, 0, 0, 0, 0) := by decide +kernel
/-! X3 put -/
theorem c_34_0 : m_code 34 0 = some (.aload_n 0, 0, 0, 0, 0) := by decide +kernel
theorem c_34_1 : m_code 34 1 = some (.getfield 18, 3, 2, 0, 70) := by decide +kernel
theorem c_34_4 : m_code 34 4 = some (.iload_n 2, 0, 0, 0, 0) := by decide +kernel
theorem c_34_5 : m_code 34 5 = some (.aload_n 0, 0, 0, 0, 0) := by decide +kernel
theorem c_34_6 : m_code 34 6 = some (.getfield 9, 3, 0, 0, 60) := by decide +kernel
theorem c_34_9 : m_code 34 9 = some (.imul, 0, 0, 0, 0) := by decide +kernel
theorem c_34_10 : m_code 34 10 = some (.iload_n 1, 0, 0, 0, 0) := by decide +kernel
theorem c_34_11 : m_code 34 11 = some (.iadd, 0, 0, 0, 0) := by decide +kernel
theorem c_34_12 : m_code 34 12 = some (.iconst 0, 0, 0, 0, 0) := by decide +kernel
theorem c_34_13 : m_code 34 13 = some (.iload_n 3, 0, 0, 0, 0) := by decide +kernel
theorem c_34_14 : m_code 34 14 = some (.sipush 255, 0, 0, 0, 0) := by decide +kernel
theorem c_34_17 : m_code 34 17 = some (.invokestatic 22, 0, 321, 4, 0) := by decide +kernel
theorem c_34_20 : m_code 34 20 = some (.invokestatic 28, 0, 324, 3, 0) := by decide +kernel
theorem c_34_23 : m_code 34 23 = some (.iastore, 0, 0, 0, 0) := by decide +kernel
theorem c_34_24 : m_code 34 24 = some (.return_, 0, 0, 0, 0) := by decide +kernel
/-! X3 total -/
theorem c_35_0 : m_code 35 0 = some (.iconst 0, 0, 0, 0, 0) := by decide +kernel
theorem c_35_1 : m_code 35 1 = some (.istore_n 1, 0, 0, 0, 0) := by decide +kernel
theorem c_35_2 : m_code 35 2 = some (.iconst 0, 0, 0, 0, 0) := by decide +kernel
theorem c_35_3 : m_code 35 3 = some (.istore_n 2, 0, 0, 0, 0) := by decide +kernel
theorem c_35_4 : m_code 35 4 = some (.iload_n 2, 0, 0, 0, 0) := by decide +kernel
theorem c_35_5 : m_code 35 5 = some (.aload_n 0, 0, 0, 0, 0) := by decide +kernel
theorem c_35_6 : m_code 35 6 = some (.invokevirtual 31, 31, 340, 1, 0) := by decide +kernel
theorem c_35_9 : m_code 35 9 = some (.if_icmp .ge 18, 27, 0, 0, 0) := by decide +kernel
theorem c_35_12 : m_code 35 12 = some (.iload_n 1, 0, 0, 0, 0) := by decide +kernel
theorem c_35_13 : m_code 35 13 = some (.aload_n 0, 0, 0, 0, 0) := by decide +kernel
theorem c_35_14 : m_code 35 14 = some (.getfield 18, 3, 2, 0, 70) := by decide +kernel
theorem c_35_17 : m_code 35 17 = some (.iload_n 2, 0, 0, 0, 0) := by decide +kernel
theorem c_35_18 : m_code 35 18 = some (.iaload, 0, 0, 0, 0) := by decide +kernel
theorem c_35_19 : m_code 35 19 = some (.iadd, 0, 0, 0, 0) := by decide +kernel
theorem c_35_20 : m_code 35 20 = some (.istore_n 1, 0, 0, 0, 0) := by decide +kernel
theorem c_35_21 : m_code 35 21 = some (.iinc 2 1, 0, 0, 0, 0) := by decide +kernel
theorem c_35_24 : m_code 35 24 = some (.goto (-20), 4, 0, 0, 0) := by decide +kernel
theorem c_35_27 : m_code 35 27 = some (.iload_n 1, 0, 0, 0, 0) := by decide +kernel
theorem c_35_28 : m_code 35 28 = some (.ireturn, 0, 0, 0, 0) := by decide +kernel
/-! X3 isAsLargeAs -/
theorem c_36_0 : m_code 36 0 = some (.aload_n 0, 0, 0, 0, 0) := by decide +kernel
theorem c_36_1 : m_code 36 1 = some (.getfield 9, 3, 0, 0, 60) := by decide +kernel
theorem c_36_4 : m_code 36 4 = some (.aload_n 1, 0, 0, 0, 0) := by decide +kernel
theorem c_36_5 : m_code 36 5 = some (.getfield 9, 3, 0, 0, 60) := by decide +kernel
theorem c_36_8 : m_code 36 8 = some (.if_icmp .ne 18, 26, 0, 0, 0) := by decide +kernel
theorem c_36_11 : m_code 36 11 = some (.aload_n 0, 0, 0, 0, 0) := by decide +kernel
theorem c_36_12 : m_code 36 12 = some (.getfield 15, 3, 1, 0, 65) := by decide +kernel
theorem c_36_15 : m_code 36 15 = some (.aload_n 1, 0, 0, 0, 0) := by decide +kernel
theorem c_36_16 : m_code 36 16 = some (.getfield 15, 3, 1, 0, 65) := by decide +kernel
theorem c_36_19 : m_code 36 19 = some (.if_icmp .ne 7, 26, 0, 0, 0) := by decide +kernel
theorem c_36_22 : m_code 36 22 = some (.iconst 1, 0, 0, 0, 0) := by decide +kernel
theorem c_36_23 : m_code 36 23 = some (.goto 4, 27, 0, 0, 0) := by decide +kernel
theorem c_36_26 : m_code 36 26 = some (.iconst 0, 0, 0, 0, 0) := by decide +kernel
theorem c_36_27 : m_code 36 27 = some (.ireturn, 0, 0, 0, 0) := by decide +kernel
/-! X3 differing -/
theorem c_37_0 : m_code 37 0 = some (.iconst 0, 0, 0, 0, 0) := by decide +kernel
theorem c_37_1 : m_code 37 1 = some (.istore_n 2, 0, 0, 0, 0) := by decide +kernel
theorem c_37_2 : m_code 37 2 = some (.iconst 0, 0, 0, 0, 0) := by decide +kernel
theorem c_37_3 : m_code 37 3 = some (.istore_n 3, 0, 0, 0, 0) := by decide +kernel
theorem c_37_4 : m_code 37 4 = some (.iload_n 3, 0, 0, 0, 0) := by decide +kernel
theorem c_37_5 : m_code 37 5 = some (.aload_n 0, 0, 0, 0, 0) := by decide +kernel
theorem c_37_6 : m_code 37 6 = some (.invokevirtual 31, 31, 340, 1, 0) := by decide +kernel
theorem c_37_9 : m_code 37 9 = some (.if_icmp .ge 27, 36, 0, 0, 0) := by decide +kernel
theorem c_37_12 : m_code 37 12 = some (.aload_n 0, 0, 0, 0, 0) := by decide +kernel
theorem c_37_13 : m_code 37 13 = some (.getfield 18, 3, 2, 0, 70) := by decide +kernel
theorem c_37_16 : m_code 37 16 = some (.iload_n 3, 0, 0, 0, 0) := by decide +kernel
theorem c_37_17 : m_code 37 17 = some (.iaload, 0, 0, 0, 0) := by decide +kernel
theorem c_37_18 : m_code 37 18 = some (.aload_n 1, 0, 0, 0, 0) := by decide +kernel
theorem c_37_19 : m_code 37 19 = some (.getfield 18, 3, 2, 0, 70) := by decide +kernel
theorem c_37_22 : m_code 37 22 = some (.iload_n 3, 0, 0, 0, 0) := by decide +kernel
theorem c_37_23 : m_code 37 23 = some (.iaload, 0, 0, 0, 0) := by decide +kernel
theorem c_37_24 : m_code 37 24 = some (.if_icmp .eq 6, 30, 0, 0, 0) := by decide +kernel
theorem c_37_27 : m_code 37 27 = some (.iinc 2 1, 0, 0, 0, 0) := by decide +kernel
theorem c_37_30 : m_code 37 30 = some (.iinc 3 1, 0, 0, 0, 0) := by decide +kernel
theorem c_37_33 : m_code 37 33 = some (.goto (-29), 4, 0, 0, 0) := by decide +kernel
theorem c_37_36 : m_code 37 36 = some (.iload_n 2, 0, 0, 0, 0) := by decide +kernel
theorem c_37_37 : m_code 37 37 = some (.ireturn, 0, 0, 0, 0) := by decide +kernel
/-! X3 become -/
theorem c_38_0 : m_code 38 0 = some (.aload_n 0, 0, 0, 0, 0) := by decide +kernel
theorem c_38_1 : m_code 38 1 = some (.aload_n 1, 0, 0, 0, 0) := by decide +kernel
theorem c_38_2 : m_code 38 2 = some (.getfield 9, 3, 0, 0, 60) := by decide +kernel
theorem c_38_5 : m_code 38 5 = some (.aload_n 1, 0, 0, 0, 0) := by decide +kernel
theorem c_38_6 : m_code 38 6 = some (.getfield 15, 3, 1, 0, 65) := by decide +kernel
theorem c_38_9 : m_code 38 9 = some (.invokevirtual 35, 32, 339, 1, 0) := by decide +kernel
theorem c_38_12 : m_code 38 12 = some (.aload_n 1, 0, 0, 0, 0) := by decide +kernel
theorem c_38_13 : m_code 38 13 = some (.getfield 18, 3, 2, 0, 70) := by decide +kernel
theorem c_38_16 : m_code 38 16 = some (.iconst 0, 0, 0, 0, 0) := by decide +kernel
theorem c_38_17 : m_code 38 17 = some (.aload_n 0, 0, 0, 0, 0) := by decide +kernel
theorem c_38_18 : m_code 38 18 = some (.getfield 18, 3, 2, 0, 70) := by decide +kernel
theorem c_38_21 : m_code 38 21 = some (.iconst 0, 0, 0, 0, 0) := by decide +kernel
theorem c_38_22 : m_code 38 22 = some (.aload_n 0, 0, 0, 0, 0) := by decide +kernel
theorem c_38_23 : m_code 38 23 = some (.invokevirtual 31, 31, 340, 1, 0) := by decide +kernel
theorem c_38_26 : m_code 38 26 = some (.invokestatic 39, 0, 341, 6, 0) := by decide +kernel
theorem c_38_29 : m_code 38 29 = some (.return_, 0, 0, 0, 0) := by decide +kernel
/-! X4 init -/
theorem c_39_0 : m_code 39 0 = some (.aload_n 0, 0, 0, 0, 0) := by decide +kernel
theorem c_39_1 : m_code 39 1 = some (.invokespecial 3, 0, 111, 7, 0) := by decide +kernel
theorem c_39_4 : m_code 39 4 = some (.aload_n 0, 0, 0, 0, 0) := by decide +kernel
theorem c_39_5 : m_code 39 5 = some (.sipush 256, 0, 0, 0, 0) := by decide +kernel
theorem c_39_8 : m_code 39 8 = some (.newarray .int, 0, 81, 0, 0) := by decide +kernel
theorem c_39_10 : m_code 39 10 = some (.putfield 9, 4, 0, 0, 112) := by decide +kernel
theorem c_39_13 : m_code 39 13 = some (.aload_n 0, 0, 0, 0, 0) := by decide +kernel
theorem c_39_14 : m_code 39 14 = some (.sipush 256, 0, 0, 0, 0) := by decide +kernel
theorem c_39_17 : m_code 39 17 = some (.newarray .int, 0, 81, 0, 0) := by decide +kernel
theorem c_39_19 : m_code 39 19 = some (.putfield 15, 4, 1, 0, 113) := by decide +kernel
theorem c_39_22 : m_code 39 22 = some (.aload_n 0, 0, 0, 0, 0) := by decide +kernel
theorem c_39_23 : m_code 39 23 = some (.iconst 0, 0, 0, 0, 0) := by decide +kernel
theorem c_39_24 : m_code 39 24 = some (.putfield 18, 4, 2, 0, 114) := by decide +kernel
theorem c_39_27 : m_code 39 27 = some (.return_, 0, 0, 0, 0) := by decide +kernel
/-! X4 read -/
theorem c_40_0 : m_code 40 0 = some (.iconst 0, 0, 0, 0, 0) := by decide +kernel
theorem c_40_1 : m_code 40 1 = some (.istore_n 2, 0, 0, 0, 0) := by decide +kernel
theorem c_40_2 : m_code 40 2 = some (.iload_n 2, 0, 0, 0, 0) := by decide +kernel
theorem c_40_3 : m_code 40 3 = some (.sipush 256, 0, 0, 0, 0) := by decide +kernel
theorem c_40_6 : m_code 40 6 = some (.if_icmp .ge 16, 22, 0, 0, 0) := by decide +kernel
theorem c_40_9 : m_code 40 9 = some (.aload_n 0, 0, 0, 0, 0) := by decide +kernel
theorem c_40_10 : m_code 40 10 = some (.getfield 9, 4, 0, 0, 112) := by decide +kernel
theorem c_40_13 : m_code 40 13 = some (.iload_n 2, 0, 0, 0, 0) := by decide +kernel
theorem c_40_14 : m_code 40 14 = some (.iconst 0, 0, 0, 0, 0) := by decide +kernel
theorem c_40_15 : m_code 40 15 = some (.iastore, 0, 0, 0, 0) := by decide +kernel
theorem c_40_16 : m_code 40 16 = some (.iinc 2 1, 0, 0, 0, 0) := by decide +kernel
theorem c_40_19 : m_code 40 19 = some (.goto (-17), 2, 0, 0, 0) := by decide +kernel
theorem c_40_22 : m_code 40 22 = some (.iconst 0, 0, 0, 0, 0) := by decide +kernel
theorem c_40_23 : m_code 40 23 = some (.istore_n 2, 0, 0, 0, 0) := by decide +kernel
theorem c_40_24 : m_code 40 24 = some (.iload_n 2, 0, 0, 0, 0) := by decide +kernel
theorem c_40_25 : m_code 40 25 = some (.aload_n 1, 0, 0, 0, 0) := by decide +kernel
theorem c_40_26 : m_code 40 26 = some (.invokevirtual 22, 31, 460, 1, 0) := by decide +kernel
theorem c_40_29 : m_code 40 29 = some (.if_icmp .ge 24, 53, 0, 0, 0) := by decide +kernel
theorem c_40_32 : m_code 40 32 = some (.aload_n 0, 0, 0, 0, 0) := by decide +kernel
theorem c_40_33 : m_code 40 33 = some (.getfield 9, 4, 0, 0, 112) := by decide +kernel
theorem c_40_36 : m_code 40 36 = some (.aload_n 1, 0, 0, 0, 0) := by decide +kernel
theorem c_40_37 : m_code 40 37 = some (.getfield 28, 3, 2, 0, 71) := by decide +kernel
theorem c_40_40 : m_code 40 40 = some (.iload_n 2, 0, 0, 0, 0) := by decide +kernel
theorem c_40_41 : m_code 40 41 = some (.iaload, 0, 0, 0, 0) := by decide +kernel
theorem c_40_42 : m_code 40 42 = some (.dup2, 0, 0, 0, 0) := by decide +kernel
theorem c_40_43 : m_code 40 43 = some (.iaload, 0, 0, 0, 0) := by decide +kernel
theorem c_40_44 : m_code 40 44 = some (.iconst 1, 0, 0, 0, 0) := by decide +kernel
theorem c_40_45 : m_code 40 45 = some (.iadd, 0, 0, 0, 0) := by decide +kernel
theorem c_40_46 : m_code 40 46 = some (.iastore, 0, 0, 0, 0) := by decide +kernel
theorem c_40_47 : m_code 40 47 = some (.iinc 2 1, 0, 0, 0, 0) := by decide +kernel
theorem c_40_50 : m_code 40 50 = some (.goto (-26), 24, 0, 0, 0) := by decide +kernel
theorem c_40_53 : m_code 40 53 = some (.aload_n 0, 0, 0, 0, 0) := by decide +kernel
theorem c_40_54 : m_code 40 54 = some (.aload_n 1, 0, 0, 0, 0) := by decide +kernel
theorem c_40_55 : m_code 40 55 = some (.invokevirtual 22, 31, 460, 1, 0) := by decide +kernel
theorem c_40_58 : m_code 40 58 = some (.putfield 18, 4, 2, 0, 114) := by decide +kernel
theorem c_40_61 : m_code 40 61 = some (.return_, 0, 0, 0, 0) := by decide +kernel
/-! X4 planned -/
theorem c_41_0 : m_code 41 0 = some (.aload_n 0, 0, 0, 0, 0) := by decide +kernel
theorem c_41_1 : m_code 41 1 = some (.getfield 15, 4, 1, 0, 113) := by decide +kernel
theorem c_41_4 : m_code 41 4 = some (.iload_n 1, 0, 0, 0, 0) := by decide +kernel
theorem c_41_5 : m_code 41 5 = some (.iaload, 0, 0, 0, 0) := by decide +kernel
theorem c_41_6 : m_code 41 6 = some (.ireturn, 0, 0, 0, 0) := by decide +kernel
/-! X4 plan -/
theorem c_42_0 : m_code 42 0 = some (.iload_n 1, 0, 0, 0, 0) := by decide +kernel
theorem c_42_1 : m_code 42 1 = some (.tableswitch 48 0 2 #[27, 34, 41], 0, 0, 0, 27) := by decide +kernel
theorem c_42_28 : m_code 42 28 = some (.aload_n 0, 0, 0, 0, 0) := by decide +kernel
theorem c_42_29 : m_code 42 29 = some (.invokevirtual 31, 43, 465, 1, 0) := by decide +kernel
theorem c_42_32 : m_code 42 32 = some (.goto 21, 53, 0, 0, 0) := by decide +kernel
theorem c_42_35 : m_code 42 35 = some (.aload_n 0, 0, 0, 0, 0) := by decide +kernel
theorem c_42_36 : m_code 42 36 = some (.invokevirtual 34, 44, 469, 1, 0) := by decide +kernel
theorem c_42_39 : m_code 42 39 = some (.goto 14, 53, 0, 0, 0) := by decide +kernel
theorem c_42_42 : m_code 42 42 = some (.aload_n 0, 0, 0, 0, 0) := by decide +kernel
theorem c_42_43 : m_code 42 43 = some (.invokevirtual 37, 45, 485, 1, 0) := by decide +kernel
theorem c_42_46 : m_code 42 46 = some (.goto 7, 53, 0, 0, 0) := by decide +kernel
theorem c_42_49 : m_code 42 49 = some (.aload_n 0, 0, 0, 0, 0) := by decide +kernel
theorem c_42_50 : m_code 42 50 = some (.invokevirtual 40, 46, 489, 1, 0) := by decide +kernel
theorem c_42_53 : m_code 42 53 = some (.return_, 0, 0, 0, 0) := by decide +kernel
/-! X4 planNegative -/
theorem c_43_0 : m_code 43 0 = some (.iconst 0, 0, 0, 0, 0) := by decide +kernel
theorem c_43_1 : m_code 43 1 = some (.istore_n 1, 0, 0, 0, 0) := by decide +kernel
theorem c_43_2 : m_code 43 2 = some (.iload_n 1, 0, 0, 0, 0) := by decide +kernel
theorem c_43_3 : m_code 43 3 = some (.sipush 256, 0, 0, 0, 0) := by decide +kernel
theorem c_43_6 : m_code 43 6 = some (.if_icmp .ge 20, 26, 0, 0, 0) := by decide +kernel
theorem c_43_9 : m_code 43 9 = some (.aload_n 0, 0, 0, 0, 0) := by decide +kernel
theorem c_43_10 : m_code 43 10 = some (.getfield 15, 4, 1, 0, 113) := by decide +kernel
theorem c_43_13 : m_code 43 13 = some (.iload_n 1, 0, 0, 0, 0) := by decide +kernel
theorem c_43_14 : m_code 43 14 = some (.sipush 255, 0, 0, 0, 0) := by decide +kernel
theorem c_43_17 : m_code 43 17 = some (.iload_n 1, 0, 0, 0, 0) := by decide +kernel
theorem c_43_18 : m_code 43 18 = some (.isub, 0, 0, 0, 0) := by decide +kernel
theorem c_43_19 : m_code 43 19 = some (.iastore, 0, 0, 0, 0) := by decide +kernel
theorem c_43_20 : m_code 43 20 = some (.iinc 1 1, 0, 0, 0, 0) := by decide +kernel
theorem c_43_23 : m_code 43 23 = some (.goto (-21), 2, 0, 0, 0) := by decide +kernel
theorem c_43_26 : m_code 43 26 = some (.return_, 0, 0, 0, 0) := by decide +kernel
/-! X4 planStretch -/
theorem c_44_0 : m_code 44 0 = some (.aload_n 0, 0, 0, 0, 0) := by decide +kernel
theorem c_44_1 : m_code 44 1 = some (.invokevirtual 43, 47, 473, 1, 0) := by decide +kernel
theorem c_44_4 : m_code 44 4 = some (.istore_n 1, 0, 0, 0, 0) := by decide +kernel
theorem c_44_5 : m_code 44 5 = some (.aload_n 0, 0, 0, 0, 0) := by decide +kernel
theorem c_44_6 : m_code 44 6 = some (.invokevirtual 46, 48, 481, 1, 0) := by decide +kernel
theorem c_44_9 : m_code 44 9 = some (.istore_n 2, 0, 0, 0, 0) := by decide +kernel
theorem c_44_10 : m_code 44 10 = some (.iconst 0, 0, 0, 0, 0) := by decide +kernel
theorem c_44_11 : m_code 44 11 = some (.istore_n 3, 0, 0, 0, 0) := by decide +kernel
theorem c_44_12 : m_code 44 12 = some (.iload_n 3, 0, 0, 0, 0) := by decide +kernel
theorem c_44_13 : m_code 44 13 = some (.sipush 256, 0, 0, 0, 0) := by decide +kernel
theorem c_44_16 : m_code 44 16 = some (.if_icmp .ge 35, 51, 0, 0, 0) := by decide +kernel
theorem c_44_19 : m_code 44 19 = some (.aload_n 0, 0, 0, 0, 0) := by decide +kernel
theorem c_44_20 : m_code 44 20 = some (.getfield 15, 4, 1, 0, 113) := by decide +kernel
theorem c_44_23 : m_code 44 23 = some (.iload_n 3, 0, 0, 0, 0) := by decide +kernel
theorem c_44_24 : m_code 44 24 = some (.iload_n 1, 0, 0, 0, 0) := by decide +kernel
theorem c_44_25 : m_code 44 25 = some (.iload_n 2, 0, 0, 0, 0) := by decide +kernel
theorem c_44_26 : m_code 44 26 = some (.if_icmp .ge 17, 43, 0, 0, 0) := by decide +kernel
theorem c_44_29 : m_code 44 29 = some (.iload_n 3, 0, 0, 0, 0) := by decide +kernel
theorem c_44_30 : m_code 44 30 = some (.iload_n 1, 0, 0, 0, 0) := by decide +kernel
theorem c_44_31 : m_code 44 31 = some (.isub, 0, 0, 0, 0) := by decide +kernel
theorem c_44_32 : m_code 44 32 = some (.sipush 255, 0, 0, 0, 0) := by decide +kernel
theorem c_44_35 : m_code 44 35 = some (.imul, 0, 0, 0, 0) := by decide +kernel
theorem c_44_36 : m_code 44 36 = some (.iload_n 2, 0, 0, 0, 0) := by decide +kernel
theorem c_44_37 : m_code 44 37 = some (.iload_n 1, 0, 0, 0, 0) := by decide +kernel
theorem c_44_38 : m_code 44 38 = some (.isub, 0, 0, 0, 0) := by decide +kernel
theorem c_44_39 : m_code 44 39 = some (.idiv, 0, 0, 0, 0) := by decide +kernel
theorem c_44_40 : m_code 44 40 = some (.goto 4, 44, 0, 0, 0) := by decide +kernel
theorem c_44_43 : m_code 44 43 = some (.iload_n 3, 0, 0, 0, 0) := by decide +kernel
theorem c_44_44 : m_code 44 44 = some (.iastore, 0, 0, 0, 0) := by decide +kernel
theorem c_44_45 : m_code 44 45 = some (.iinc 3 1, 0, 0, 0, 0) := by decide +kernel
theorem c_44_48 : m_code 44 48 = some (.goto (-36), 12, 0, 0, 0) := by decide +kernel
theorem c_44_51 : m_code 44 51 = some (.return_, 0, 0, 0, 0) := by decide +kernel
/-! X4 planEven -/
theorem c_45_0 : m_code 45 0 = some (.iconst 0, 0, 0, 0, 0) := by decide +kernel
theorem c_45_1 : m_code 45 1 = some (.istore_n 1, 0, 0, 0, 0) := by decide +kernel
theorem c_45_2 : m_code 45 2 = some (.iconst 0, 0, 0, 0, 0) := by decide +kernel
theorem c_45_3 : m_code 45 3 = some (.istore_n 2, 0, 0, 0, 0) := by decide +kernel
theorem c_45_4 : m_code 45 4 = some (.iload_n 2, 0, 0, 0, 0) := by decide +kernel
theorem c_45_5 : m_code 45 5 = some (.sipush 256, 0, 0, 0, 0) := by decide +kernel
theorem c_45_8 : m_code 45 8 = some (.if_icmp .ge 45, 53, 0, 0, 0) := by decide +kernel
theorem c_45_11 : m_code 45 11 = some (.iload_n 1, 0, 0, 0, 0) := by decide +kernel
theorem c_45_12 : m_code 45 12 = some (.aload_n 0, 0, 0, 0, 0) := by decide +kernel
theorem c_45_13 : m_code 45 13 = some (.getfield 9, 4, 0, 0, 112) := by decide +kernel
theorem c_45_16 : m_code 45 16 = some (.iload_n 2, 0, 0, 0, 0) := by decide +kernel
theorem c_45_17 : m_code 45 17 = some (.iaload, 0, 0, 0, 0) := by decide +kernel
theorem c_45_18 : m_code 45 18 = some (.iadd, 0, 0, 0, 0) := by decide +kernel
theorem c_45_19 : m_code 45 19 = some (.istore_n 1, 0, 0, 0, 0) := by decide +kernel
theorem c_45_20 : m_code 45 20 = some (.aload_n 0, 0, 0, 0, 0) := by decide +kernel
theorem c_45_21 : m_code 45 21 = some (.getfield 15, 4, 1, 0, 113) := by decide +kernel
theorem c_45_24 : m_code 45 24 = some (.iload_n 2, 0, 0, 0, 0) := by decide +kernel
theorem c_45_25 : m_code 45 25 = some (.aload_n 0, 0, 0, 0, 0) := by decide +kernel
theorem c_45_26 : m_code 45 26 = some (.getfield 18, 4, 2, 0, 114) := by decide +kernel
theorem c_45_29 : m_code 45 29 = some (.ifCond .le 16, 45, 0, 0, 0) := by decide +kernel
theorem c_45_32 : m_code 45 32 = some (.sipush 255, 0, 0, 0, 0) := by decide +kernel
theorem c_45_35 : m_code 45 35 = some (.iload_n 1, 0, 0, 0, 0) := by decide +kernel
theorem c_45_36 : m_code 45 36 = some (.imul, 0, 0, 0, 0) := by decide +kernel
theorem c_45_37 : m_code 45 37 = some (.aload_n 0, 0, 0, 0, 0) := by decide +kernel
theorem c_45_38 : m_code 45 38 = some (.getfield 18, 4, 2, 0, 114) := by decide +kernel
theorem c_45_41 : m_code 45 41 = some (.idiv, 0, 0, 0, 0) := by decide +kernel
theorem c_45_42 : m_code 45 42 = some (.goto 4, 46, 0, 0, 0) := by decide +kernel
theorem c_45_45 : m_code 45 45 = some (.iload_n 2, 0, 0, 0, 0) := by decide +kernel
theorem c_45_46 : m_code 45 46 = some (.iastore, 0, 0, 0, 0) := by decide +kernel
theorem c_45_47 : m_code 45 47 = some (.iinc 2 1, 0, 0, 0, 0) := by decide +kernel
theorem c_45_50 : m_code 45 50 = some (.goto (-46), 4, 0, 0, 0) := by decide +kernel
theorem c_45_53 : m_code 45 53 = some (.return_, 0, 0, 0, 0) := by decide +kernel
/-! X4 planCut -/
theorem c_46_0 : m_code 46 0 = some (.aload_n 0, 0, 0, 0, 0) := by decide +kernel
theorem c_46_1 : m_code 46 1 = some (.invokevirtual 49, 50, 493, 1, 0) := by decide +kernel
theorem c_46_4 : m_code 46 4 = some (.istore_n 1, 0, 0, 0, 0) := by decide +kernel
theorem c_46_5 : m_code 46 5 = some (.iconst 0, 0, 0, 0, 0) := by decide +kernel
theorem c_46_6 : m_code 46 6 = some (.istore_n 2, 0, 0, 0, 0) := by decide +kernel
theorem c_46_7 : m_code 46 7 = some (.iload_n 2, 0, 0, 0, 0) := by decide +kernel
theorem c_46_8 : m_code 46 8 = some (.sipush 256, 0, 0, 0, 0) := by decide +kernel
theorem c_46_11 : m_code 46 11 = some (.if_icmp .ge 27, 38, 0, 0, 0) := by decide +kernel
theorem c_46_14 : m_code 46 14 = some (.aload_n 0, 0, 0, 0, 0) := by decide +kernel
theorem c_46_15 : m_code 46 15 = some (.getfield 15, 4, 1, 0, 113) := by decide +kernel
theorem c_46_18 : m_code 46 18 = some (.iload_n 2, 0, 0, 0, 0) := by decide +kernel
theorem c_46_19 : m_code 46 19 = some (.iload_n 2, 0, 0, 0, 0) := by decide +kernel
theorem c_46_20 : m_code 46 20 = some (.iload_n 1, 0, 0, 0, 0) := by decide +kernel
theorem c_46_21 : m_code 46 21 = some (.if_icmp .lt 9, 30, 0, 0, 0) := by decide +kernel
theorem c_46_24 : m_code 46 24 = some (.sipush 255, 0, 0, 0, 0) := by decide +kernel
theorem c_46_27 : m_code 46 27 = some (.goto 4, 31, 0, 0, 0) := by decide +kernel
theorem c_46_30 : m_code 46 30 = some (.iconst 0, 0, 0, 0, 0) := by decide +kernel
theorem c_46_31 : m_code 46 31 = some (.iastore, 0, 0, 0, 0) := by decide +kernel
theorem c_46_32 : m_code 46 32 = some (.iinc 2 1, 0, 0, 0, 0) := by decide +kernel
theorem c_46_35 : m_code 46 35 = some (.goto (-28), 7, 0, 0, 0) := by decide +kernel
theorem c_46_38 : m_code 46 38 = some (.return_, 0, 0, 0, 0) := by decide +kernel
/-! X4 least -/
theorem c_47_0 : m_code 47 0 = some (.aload_n 0, 0, 0, 0, 0) := by decide +kernel
theorem c_47_1 : m_code 47 1 = some (.iconst 0, 0, 0, 0, 0) := by decide +kernel
theorem c_47_2 : m_code 47 2 = some (.invokevirtual 52, 49, 477, 1, 0) := by decide +kernel
theorem c_47_5 : m_code 47 5 = some (.ireturn, 0, 0, 0, 0) := by decide +kernel
/-! X4 greatest -/
theorem c_48_0 : m_code 48 0 = some (.aload_n 0, 0, 0, 0, 0) := by decide +kernel
theorem c_48_1 : m_code 48 1 = some (.aload_n 0, 0, 0, 0, 0) := by decide +kernel
theorem c_48_2 : m_code 48 2 = some (.getfield 18, 4, 2, 0, 114) := by decide +kernel
theorem c_48_5 : m_code 48 5 = some (.iconst 1, 0, 0, 0, 0) := by decide +kernel
theorem c_48_6 : m_code 48 6 = some (.isub, 0, 0, 0, 0) := by decide +kernel
theorem c_48_7 : m_code 48 7 = some (.invokevirtual 52, 49, 477, 1, 0) := by decide +kernel
theorem c_48_10 : m_code 48 10 = some (.ireturn, 0, 0, 0, 0) := by decide +kernel
/-! X4 inOrder -/
theorem c_49_0 : m_code 49 0 = some (.iconst 0, 0, 0, 0, 0) := by decide +kernel
theorem c_49_1 : m_code 49 1 = some (.istore_n 2, 0, 0, 0, 0) := by decide +kernel
theorem c_49_2 : m_code 49 2 = some (.iconst 0, 0, 0, 0, 0) := by decide +kernel
theorem c_49_3 : m_code 49 3 = some (.istore_n 3, 0, 0, 0, 0) := by decide +kernel
theorem c_49_4 : m_code 49 4 = some (.iload_n 3, 0, 0, 0, 0) := by decide +kernel
theorem c_49_5 : m_code 49 5 = some (.sipush 256, 0, 0, 0, 0) := by decide +kernel
theorem c_49_8 : m_code 49 8 = some (.if_icmp .ge 25, 33, 0, 0, 0) := by decide +kernel
theorem c_49_11 : m_code 49 11 = some (.iload_n 2, 0, 0, 0, 0) := by decide +kernel
theorem c_49_12 : m_code 49 12 = some (.aload_n 0, 0, 0, 0, 0) := by decide +kernel
theorem c_49_13 : m_code 49 13 = some (.getfield 9, 4, 0, 0, 112) := by decide +kernel
theorem c_49_16 : m_code 49 16 = some (.iload_n 3, 0, 0, 0, 0) := by decide +kernel
theorem c_49_17 : m_code 49 17 = some (.iaload, 0, 0, 0, 0) := by decide +kernel
theorem c_49_18 : m_code 49 18 = some (.iadd, 0, 0, 0, 0) := by decide +kernel
theorem c_49_19 : m_code 49 19 = some (.istore_n 2, 0, 0, 0, 0) := by decide +kernel
theorem c_49_20 : m_code 49 20 = some (.iload_n 1, 0, 0, 0, 0) := by decide +kernel
theorem c_49_21 : m_code 49 21 = some (.iload_n 2, 0, 0, 0, 0) := by decide +kernel
theorem c_49_22 : m_code 49 22 = some (.if_icmp .ge 5, 27, 0, 0, 0) := by decide +kernel
theorem c_49_25 : m_code 49 25 = some (.iload_n 3, 0, 0, 0, 0) := by decide +kernel
theorem c_49_26 : m_code 49 26 = some (.ireturn, 0, 0, 0, 0) := by decide +kernel
theorem c_49_27 : m_code 49 27 = some (.iinc 3 1, 0, 0, 0, 0) := by decide +kernel
theorem c_49_30 : m_code 49 30 = some (.goto (-26), 4, 0, 0, 0) := by decide +kernel
theorem c_49_33 : m_code 49 33 = some (.sipush 255, 0, 0, 0, 0) := by decide +kernel
theorem c_49_36 : m_code 49 36 = some (.ireturn, 0, 0, 0, 0) := by decide +kernel
/-! X4 cut -/
theorem c_50_0 : m_code 50 0 = some (.lconst 0, 0, 0, 0, 0) := by decide +kernel
theorem c_50_1 : m_code 50 1 = some (.lstore_n 1, 0, 0, 0, 0) := by decide +kernel
theorem c_50_2 : m_code 50 2 = some (.iconst 0, 0, 0, 0, 0) := by decide +kernel
theorem c_50_3 : m_code 50 3 = some (.istore_n 3, 0, 0, 0, 0) := by decide +kernel
theorem c_50_4 : m_code 50 4 = some (.iload_n 3, 0, 0, 0, 0) := by decide +kernel
theorem c_50_5 : m_code 50 5 = some (.sipush 256, 0, 0, 0, 0) := by decide +kernel
theorem c_50_8 : m_code 50 8 = some (.if_icmp .ge 22, 30, 0, 0, 0) := by decide +kernel
theorem c_50_11 : m_code 50 11 = some (.lload_n 1, 0, 0, 0, 0) := by decide +kernel
theorem c_50_12 : m_code 50 12 = some (.iload_n 3, 0, 0, 0, 0) := by decide +kernel
theorem c_50_13 : m_code 50 13 = some (.i2l, 0, 0, 0, 0) := by decide +kernel
theorem c_50_14 : m_code 50 14 = some (.aload_n 0, 0, 0, 0, 0) := by decide +kernel
theorem c_50_15 : m_code 50 15 = some (.getfield 9, 4, 0, 0, 112) := by decide +kernel
theorem c_50_18 : m_code 50 18 = some (.iload_n 3, 0, 0, 0, 0) := by decide +kernel
theorem c_50_19 : m_code 50 19 = some (.iaload, 0, 0, 0, 0) := by decide +kernel
theorem c_50_20 : m_code 50 20 = some (.i2l, 0, 0, 0, 0) := by decide +kernel
theorem c_50_21 : m_code 50 21 = some (.lmul, 0, 0, 0, 0) := by decide +kernel
theorem c_50_22 : m_code 50 22 = some (.ladd, 0, 0, 0, 0) := by decide +kernel
theorem c_50_23 : m_code 50 23 = some (.lstore_n 1, 0, 0, 0, 0) := by decide +kernel
theorem c_50_24 : m_code 50 24 = some (.iinc 3 1, 0, 0, 0, 0) := by decide +kernel
theorem c_50_27 : m_code 50 27 = some (.goto (-23), 4, 0, 0, 0) := by decide +kernel
theorem c_50_30 : m_code 50 30 = some (.lconst 0, 0, 0, 0, 0) := by decide +kernel
theorem c_50_31 : m_code 50 31 = some (.lstore_n 3, 0, 0, 0, 0) := by decide +kernel
theorem c_50_32 : m_code 50 32 = some (.lconst 0, 0, 0, 0, 0) := by decide +kernel
theorem c_50_33 : m_code 50 33 = some (.lstore 5, 0, 0, 0, 0) := by decide +kernel
theorem c_50_35 : m_code 50 35 = some (.ldc2_w 56, 0, 497, 0, (-1)) := by decide +kernel
theorem c_50_38 : m_code 50 38 = some (.lstore 7, 0, 0, 0, 0) := by decide +kernel
theorem c_50_40 : m_code 50 40 = some (.iconst 0, 0, 0, 0, 0) := by decide +kernel
theorem c_50_41 : m_code 50 41 = some (.istore 9, 0, 0, 0, 0) := by decide +kernel
theorem c_50_43 : m_code 50 43 = some (.iconst 1, 0, 0, 0, 0) := by decide +kernel
theorem c_50_44 : m_code 50 44 = some (.istore 10, 0, 0, 0, 0) := by decide +kernel
theorem c_50_46 : m_code 50 46 = some (.iload 10, 0, 0, 0, 0) := by decide +kernel
theorem c_50_48 : m_code 50 48 = some (.sipush 256, 0, 0, 0, 0) := by decide +kernel
theorem c_50_51 : m_code 50 51 = some (.if_icmp .ge 107, 158, 0, 0, 0) := by decide +kernel
theorem c_50_54 : m_code 50 54 = some (.lload_n 3, 0, 0, 0, 0) := by decide +kernel
theorem c_50_55 : m_code 50 55 = some (.aload_n 0, 0, 0, 0, 0) := by decide +kernel
theorem c_50_56 : m_code 50 56 = some (.getfield 9, 4, 0, 0, 112) := by decide +kernel
theorem c_50_59 : m_code 50 59 = some (.iload 10, 0, 0, 0, 0) := by decide +kernel
theorem c_50_61 : m_code 50 61 = some (.iconst 1, 0, 0, 0, 0) := by decide +kernel
theorem c_50_62 : m_code 50 62 = some (.isub, 0, 0, 0, 0) := by decide +kernel
theorem c_50_63 : m_code 50 63 = some (.iaload, 0, 0, 0, 0) := by decide +kernel
theorem c_50_64 : m_code 50 64 = some (.i2l, 0, 0, 0, 0) := by decide +kernel
theorem c_50_65 : m_code 50 65 = some (.ladd, 0, 0, 0, 0) := by decide +kernel
theorem c_50_66 : m_code 50 66 = some (.lstore_n 3, 0, 0, 0, 0) := by decide +kernel
theorem c_50_67 : m_code 50 67 = some (.lload 5, 0, 0, 0, 0) := by decide +kernel
theorem c_50_69 : m_code 50 69 = some (.iload 10, 0, 0, 0, 0) := by decide +kernel
theorem c_50_71 : m_code 50 71 = some (.iconst 1, 0, 0, 0, 0) := by decide +kernel
theorem c_50_72 : m_code 50 72 = some (.isub, 0, 0, 0, 0) := by decide +kernel
theorem c_50_73 : m_code 50 73 = some (.i2l, 0, 0, 0, 0) := by decide +kernel
theorem c_50_74 : m_code 50 74 = some (.aload_n 0, 0, 0, 0, 0) := by decide +kernel
theorem c_50_75 : m_code 50 75 = some (.getfield 9, 4, 0, 0, 112) := by decide +kernel
theorem c_50_78 : m_code 50 78 = some (.iload 10, 0, 0, 0, 0) := by decide +kernel
theorem c_50_80 : m_code 50 80 = some (.iconst 1, 0, 0, 0, 0) := by decide +kernel
theorem c_50_81 : m_code 50 81 = some (.isub, 0, 0, 0, 0) := by decide +kernel
theorem c_50_82 : m_code 50 82 = some (.iaload, 0, 0, 0, 0) := by decide +kernel
theorem c_50_83 : m_code 50 83 = some (.i2l, 0, 0, 0, 0) := by decide +kernel
theorem c_50_84 : m_code 50 84 = some (.lmul, 0, 0, 0, 0) := by decide +kernel
theorem c_50_85 : m_code 50 85 = some (.ladd, 0, 0, 0, 0) := by decide +kernel
theorem c_50_86 : m_code 50 86 = some (.lstore 5, 0, 0, 0, 0) := by decide +kernel
theorem c_50_88 : m_code 50 88 = some (.aload_n 0, 0, 0, 0, 0) := by decide +kernel
theorem c_50_89 : m_code 50 89 = some (.getfield 18, 4, 2, 0, 114) := by decide +kernel
theorem c_50_92 : m_code 50 92 = some (.i2l, 0, 0, 0, 0) := by decide +kernel
theorem c_50_93 : m_code 50 93 = some (.lload_n 3, 0, 0, 0, 0) := by decide +kernel
theorem c_50_94 : m_code 50 94 = some (.lsub, 0, 0, 0, 0) := by decide +kernel
theorem c_50_95 : m_code 50 95 = some (.lstore 11, 0, 0, 0, 0) := by decide +kernel
theorem c_50_97 : m_code 50 97 = some (.lload_n 3, 0, 0, 0, 0) := by decide +kernel
theorem c_50_98 : m_code 50 98 = some (.lconst 0, 0, 0, 0, 0) := by decide +kernel
theorem c_50_99 : m_code 50 99 = some (.lcmp, 0, 0, 0, 0) := by decide +kernel
theorem c_50_100 : m_code 50 100 = some (.ifCond .le 52, 152, 0, 0, 0) := by decide +kernel
theorem c_50_103 : m_code 50 103 = some (.lload 11, 0, 0, 0, 0) := by decide +kernel
theorem c_50_105 : m_code 50 105 = some (.lconst 0, 0, 0, 0, 0) := by decide +kernel
theorem c_50_106 : m_code 50 106 = some (.lcmp, 0, 0, 0, 0) := by decide +kernel
theorem c_50_107 : m_code 50 107 = some (.ifCond .le 45, 152, 0, 0, 0) := by decide +kernel
theorem c_50_110 : m_code 50 110 = some (.lload 5, 0, 0, 0, 0) := by decide +kernel
theorem c_50_112 : m_code 50 112 = some (.lload 11, 0, 0, 0, 0) := by decide +kernel
theorem c_50_114 : m_code 50 114 = some (.lmul, 0, 0, 0, 0) := by decide +kernel
theorem c_50_115 : m_code 50 115 = some (.lload_n 1, 0, 0, 0, 0) := by decide +kernel
theorem c_50_116 : m_code 50 116 = some (.lload 5, 0, 0, 0, 0) := by decide +kernel
theorem c_50_118 : m_code 50 118 = some (.lsub, 0, 0, 0, 0) := by decide +kernel
theorem c_50_119 : m_code 50 119 = some (.lload_n 3, 0, 0, 0, 0) := by decide +kernel
theorem c_50_120 : m_code 50 120 = some (.lmul, 0, 0, 0, 0) := by decide +kernel
theorem c_50_121 : m_code 50 121 = some (.lsub, 0, 0, 0, 0) := by decide +kernel
theorem c_50_122 : m_code 50 122 = some (.lstore 13, 0, 0, 0, 0) := by decide +kernel
theorem c_50_124 : m_code 50 124 = some (.lload 13, 0, 0, 0, 0) := by decide +kernel
theorem c_50_126 : m_code 50 126 = some (.lload 13, 0, 0, 0, 0) := by decide +kernel
theorem c_50_128 : m_code 50 128 = some (.lmul, 0, 0, 0, 0) := by decide +kernel
theorem c_50_129 : m_code 50 129 = some (.lload_n 3, 0, 0, 0, 0) := by decide +kernel
theorem c_50_130 : m_code 50 130 = some (.lload 11, 0, 0, 0, 0) := by decide +kernel
theorem c_50_132 : m_code 50 132 = some (.lmul, 0, 0, 0, 0) := by decide +kernel
theorem c_50_133 : m_code 50 133 = some (.ldiv, 0, 0, 0, 0) := by decide +kernel
theorem c_50_134 : m_code 50 134 = some (.lstore 15, 0, 0, 0, 0) := by decide +kernel
theorem c_50_136 : m_code 50 136 = some (.lload 15, 0, 0, 0, 0) := by decide +kernel
theorem c_50_138 : m_code 50 138 = some (.lload 7, 0, 0, 0, 0) := by decide +kernel
theorem c_50_140 : m_code 50 140 = some (.lcmp, 0, 0, 0, 0) := by decide +kernel
theorem c_50_141 : m_code 50 141 = some (.ifCond .le 11, 152, 0, 0, 0) := by decide +kernel
theorem c_50_144 : m_code 50 144 = some (.lload 15, 0, 0, 0, 0) := by decide +kernel
theorem c_50_146 : m_code 50 146 = some (.lstore 7, 0, 0, 0, 0) := by decide +kernel
theorem c_50_148 : m_code 50 148 = some (.iload 10, 0, 0, 0, 0) := by decide +kernel
theorem c_50_150 : m_code 50 150 = some (.istore 9, 0, 0, 0, 0) := by decide +kernel
theorem c_50_152 : m_code 50 152 = some (.iinc 10 1, 0, 0, 0, 0) := by decide +kernel
theorem c_50_155 : m_code 50 155 = some (.goto (-109), 46, 0, 0, 0) := by decide +kernel
theorem c_50_158 : m_code 50 158 = some (.iload 9, 0, 0, 0, 0) := by decide +kernel
theorem c_50_160 : m_code 50 160 = some (.ireturn, 0, 0, 0, 0) := by decide +kernel
/-! X5 init -/
theorem c_51_0 : m_code 51 0 = some (.aload_n 0, 0, 0, 0, 0) := by decide +kernel
theorem c_51_1 : m_code 51 1 = some (.invokespecial 3, 0, 50, 7, 0) := by decide +kernel
theorem c_51_4 : m_code 51 4 = some (.aload_n 0, 0, 0, 0, 0) := by decide +kernel
theorem c_51_5 : m_code 51 5 = some (.iconst 4, 0, 0, 0, 0) := by decide +kernel
theorem c_51_6 : m_code 51 6 = some (.anewarray 9, 2, 53, 0, 0) := by decide +kernel
theorem c_51_9 : m_code 51 9 = some (.putfield 11, 5, 0, 0, 178) := by decide +kernel
theorem c_51_12 : m_code 51 12 = some (.iconst 0, 0, 0, 0, 0) := by decide +kernel
theorem c_51_13 : m_code 51 13 = some (.istore_n 1, 0, 0, 0, 0) := by decide +kernel
theorem c_51_14 : m_code 51 14 = some (.iload_n 1, 0, 0, 0, 0) := by decide +kernel
theorem c_51_15 : m_code 51 15 = some (.iconst 4, 0, 0, 0, 0) := by decide +kernel
theorem c_51_16 : m_code 51 16 = some (.if_icmp .ge 22, 38, 0, 0, 0) := by decide +kernel
theorem c_51_19 : m_code 51 19 = some (.aload_n 0, 0, 0, 0, 0) := by decide +kernel
theorem c_51_20 : m_code 51 20 = some (.getfield 11, 5, 0, 0, 178) := by decide +kernel
theorem c_51_23 : m_code 51 23 = some (.iload_n 1, 0, 0, 0, 0) := by decide +kernel
theorem c_51_24 : m_code 51 24 = some (.new 9, 3, 53, 0, 0) := by decide +kernel
theorem c_51_27 : m_code 51 27 = some (.dup, 0, 0, 0, 0) := by decide +kernel
theorem c_51_28 : m_code 51 28 = some (.invokespecial 15, 30, 56, 2, 0) := by decide +kernel
theorem c_51_31 : m_code 51 31 = some (.aastore, 0, 0, 0, 0) := by decide +kernel
theorem c_51_32 : m_code 51 32 = some (.iinc 1 1, 0, 0, 0, 0) := by decide +kernel
theorem c_51_35 : m_code 51 35 = some (.goto (-21), 14, 0, 0, 0) := by decide +kernel
theorem c_51_38 : m_code 51 38 = some (.aload_n 0, 0, 0, 0, 0) := by decide +kernel
theorem c_51_39 : m_code 51 39 = some (.new 9, 3, 53, 0, 0) := by decide +kernel
theorem c_51_42 : m_code 51 42 = some (.dup, 0, 0, 0, 0) := by decide +kernel
theorem c_51_43 : m_code 51 43 = some (.invokespecial 15, 30, 56, 2, 0) := by decide +kernel
theorem c_51_46 : m_code 51 46 = some (.putfield 16, 5, 1, 0, 179) := by decide +kernel
theorem c_51_49 : m_code 51 49 = some (.aload_n 0, 0, 0, 0, 0) := by decide +kernel
theorem c_51_50 : m_code 51 50 = some (.new 20, 0, 82, 0, 0) := by decide +kernel
theorem c_51_53 : m_code 51 53 = some (.dup, 0, 0, 0, 0) := by decide +kernel
theorem c_51_54 : m_code 51 54 = some (.invokespecial 22, 0, 84, 1, 0) := by decide +kernel
theorem c_51_57 : m_code 51 57 = some (.putfield 23, 5, 2, 0, 180) := by decide +kernel
theorem c_51_60 : m_code 51 60 = some (.aload_n 0, 0, 0, 0, 0) := by decide +kernel
theorem c_51_61 : m_code 51 61 = some (.new 27, 4, 106, 0, 0) := by decide +kernel
theorem c_51_64 : m_code 51 64 = some (.dup, 0, 0, 0, 0) := by decide +kernel
theorem c_51_65 : m_code 51 65 = some (.invokespecial 29, 39, 108, 2, 0) := by decide +kernel
theorem c_51_68 : m_code 51 68 = some (.putfield 30, 5, 3, 0, 181) := by decide +kernel
theorem c_51_71 : m_code 51 71 = some (.aload_n 0, 0, 0, 0, 0) := by decide +kernel
theorem c_51_72 : m_code 51 72 = some (.new 34, 1, 122, 0, 0) := by decide +kernel
theorem c_51_75 : m_code 51 75 = some (.dup, 0, 0, 0, 0) := by decide +kernel
theorem c_51_76 : m_code 51 76 = some (.invokespecial 36, 11, 124, 2, 0) := by decide +kernel
theorem c_51_79 : m_code 51 79 = some (.putfield 37, 5, 4, 0, 182) := by decide +kernel
theorem c_51_82 : m_code 51 82 = some (.aload_n 0, 0, 0, 0, 0) := by decide +kernel
theorem c_51_83 : m_code 51 83 = some (.new 41, 2, 155, 0, 0) := by decide +kernel
theorem c_51_86 : m_code 51 86 = some (.dup, 0, 0, 0, 0) := by decide +kernel
theorem c_51_87 : m_code 51 87 = some (.invokespecial 43, 23, 157, 2, 0) := by decide +kernel
theorem c_51_90 : m_code 51 90 = some (.putfield 44, 5, 5, 0, 183) := by decide +kernel
theorem c_51_93 : m_code 51 93 = some (.return_, 0, 0, 0, 0) := by decide +kernel
/-! X5 fresh -/
theorem c_52_0 : m_code 52 0 = some (.aload_n 0, 0, 0, 0, 0) := by decide +kernel
theorem c_52_1 : m_code 52 1 = some (.iload_n 1, 0, 0, 0, 0) := by decide +kernel
theorem c_52_2 : m_code 52 2 = some (.invokevirtual 48, 76, 201, 1, 0) := by decide +kernel
theorem c_52_5 : m_code 52 5 = some (.astore 5, 0, 0, 0, 0) := by decide +kernel
theorem c_52_7 : m_code 52 7 = some (.iconst 1, 0, 0, 0, 0) := by decide +kernel
theorem c_52_8 : m_code 52 8 = some (.iload_n 2, 0, 0, 0, 0) := by decide +kernel
theorem c_52_9 : m_code 52 9 = some (.bipush 16, 0, 0, 0, 0) := by decide +kernel
theorem c_52_11 : m_code 52 11 = some (.invokestatic 52, 81, 273, 1, 0) := by decide +kernel
theorem c_52_14 : m_code 52 14 = some (.ifCond .eq 25, 39, 0, 0, 0) := by decide +kernel
theorem c_52_17 : m_code 52 17 = some (.iconst 1, 0, 0, 0, 0) := by decide +kernel
theorem c_52_18 : m_code 52 18 = some (.iload_n 3, 0, 0, 0, 0) := by decide +kernel
theorem c_52_19 : m_code 52 19 = some (.bipush 16, 0, 0, 0, 0) := by decide +kernel
theorem c_52_21 : m_code 52 21 = some (.invokestatic 52, 81, 273, 1, 0) := by decide +kernel
theorem c_52_24 : m_code 52 24 = some (.ifCond .eq 15, 39, 0, 0, 0) := by decide +kernel
theorem c_52_27 : m_code 52 27 = some (.iload 4, 0, 0, 0, 0) := by decide +kernel
theorem c_52_29 : m_code 52 29 = some (.invokestatic 56, 82, 276, 1, 0) := by decide +kernel
theorem c_52_32 : m_code 52 32 = some (.ifCond .eq 7, 39, 0, 0, 0) := by decide +kernel
theorem c_52_35 : m_code 52 35 = some (.iconst 1, 0, 0, 0, 0) := by decide +kernel
theorem c_52_36 : m_code 52 36 = some (.goto 4, 40, 0, 0, 0) := by decide +kernel
theorem c_52_39 : m_code 52 39 = some (.iconst 0, 0, 0, 0, 0) := by decide +kernel
theorem c_52_40 : m_code 52 40 = some (.invokestatic 60, 79, 279, 1, 0) := by decide +kernel
theorem c_52_43 : m_code 52 43 = some (.aload 5, 0, 0, 0, 0) := by decide +kernel
theorem c_52_45 : m_code 52 45 = some (.iload_n 2, 0, 0, 0, 0) := by decide +kernel
theorem c_52_46 : m_code 52 46 = some (.iload_n 3, 0, 0, 0, 0) := by decide +kernel
theorem c_52_47 : m_code 52 47 = some (.invokevirtual 64, 32, 298, 1, 0) := by decide +kernel
theorem c_52_50 : m_code 52 50 = some (.iconst 0, 0, 0, 0, 0) := by decide +kernel
theorem c_52_51 : m_code 52 51 = some (.istore 6, 0, 0, 0, 0) := by decide +kernel
theorem c_52_53 : m_code 52 53 = some (.iload 6, 0, 0, 0, 0) := by decide +kernel
theorem c_52_55 : m_code 52 55 = some (.aload 5, 0, 0, 0, 0) := by decide +kernel
theorem c_52_57 : m_code 52 57 = some (.invokevirtual 68, 31, 302, 1, 0) := by decide +kernel
theorem c_52_60 : m_code 52 60 = some (.if_icmp .ge 19, 79, 0, 0, 0) := by decide +kernel
theorem c_52_63 : m_code 52 63 = some (.aload 5, 0, 0, 0, 0) := by decide +kernel
theorem c_52_65 : m_code 52 65 = some (.getfield 72, 3, 2, 0, 72) := by decide +kernel
theorem c_52_68 : m_code 52 68 = some (.iload 6, 0, 0, 0, 0) := by decide +kernel
theorem c_52_70 : m_code 52 70 = some (.iload 4, 0, 0, 0, 0) := by decide +kernel
theorem c_52_72 : m_code 52 72 = some (.iastore, 0, 0, 0, 0) := by decide +kernel
theorem c_52_73 : m_code 52 73 = some (.iinc 6 1, 0, 0, 0, 0) := by decide +kernel
theorem c_52_76 : m_code 52 76 = some (.goto (-23), 53, 0, 0, 0) := by decide +kernel
theorem c_52_79 : m_code 52 79 = some (.aload 5, 0, 0, 0, 0) := by decide +kernel
theorem c_52_81 : m_code 52 81 = some (.invokevirtual 68, 31, 302, 1, 0) := by decide +kernel
theorem c_52_84 : m_code 52 84 = some (.ireturn, 0, 0, 0, 0) := by decide +kernel
/-! X5 dot -/
theorem c_53_0 : m_code 53 0 = some (.aload_n 0, 0, 0, 0, 0) := by decide +kernel
theorem c_53_1 : m_code 53 1 = some (.iload_n 1, 0, 0, 0, 0) := by decide +kernel
theorem c_53_2 : m_code 53 2 = some (.invokevirtual 48, 76, 201, 1, 0) := by decide +kernel
theorem c_53_5 : m_code 53 5 = some (.astore 5, 0, 0, 0, 0) := by decide +kernel
theorem c_53_7 : m_code 53 7 = some (.aload 5, 0, 0, 0, 0) := by decide +kernel
theorem c_53_9 : m_code 53 9 = some (.iload_n 2, 0, 0, 0, 0) := by decide +kernel
theorem c_53_10 : m_code 53 10 = some (.iload_n 3, 0, 0, 0, 0) := by decide +kernel
theorem c_53_11 : m_code 53 11 = some (.invokestatic 76, 77, 310, 1, 0) := by decide +kernel
theorem c_53_14 : m_code 53 14 = some (.iload 4, 0, 0, 0, 0) := by decide +kernel
theorem c_53_16 : m_code 53 16 = some (.invokestatic 56, 82, 276, 1, 0) := by decide +kernel
theorem c_53_19 : m_code 53 19 = some (.invokestatic 60, 79, 279, 1, 0) := by decide +kernel
theorem c_53_22 : m_code 53 22 = some (.aload 5, 0, 0, 0, 0) := by decide +kernel
theorem c_53_24 : m_code 53 24 = some (.iload_n 2, 0, 0, 0, 0) := by decide +kernel
theorem c_53_25 : m_code 53 25 = some (.iload_n 3, 0, 0, 0, 0) := by decide +kernel
theorem c_53_26 : m_code 53 26 = some (.invokevirtual 80, 33, 317, 1, 0) := by decide +kernel
theorem c_53_29 : m_code 53 29 = some (.istore 6, 0, 0, 0, 0) := by decide +kernel
theorem c_53_31 : m_code 53 31 = some (.aload 5, 0, 0, 0, 0) := by decide +kernel
theorem c_53_33 : m_code 53 33 = some (.iload_n 2, 0, 0, 0, 0) := by decide +kernel
theorem c_53_34 : m_code 53 34 = some (.iload_n 3, 0, 0, 0, 0) := by decide +kernel
theorem c_53_35 : m_code 53 35 = some (.iload 4, 0, 0, 0, 0) := by decide +kernel
theorem c_53_37 : m_code 53 37 = some (.invokevirtual 84, 34, 327, 1, 0) := by decide +kernel
theorem c_53_40 : m_code 53 40 = some (.iload 6, 0, 0, 0, 0) := by decide +kernel
theorem c_53_42 : m_code 53 42 = some (.ireturn, 0, 0, 0, 0) := by decide +kernel
/-! X5 disc -/
theorem c_54_0 : m_code 54 0 = some (.aload_n 0, 0, 0, 0, 0) := by decide +kernel
theorem c_54_1 : m_code 54 1 = some (.iload_n 1, 0, 0, 0, 0) := by decide +kernel
theorem c_54_2 : m_code 54 2 = some (.invokevirtual 48, 76, 201, 1, 0) := by decide +kernel
theorem c_54_5 : m_code 54 5 = some (.astore 6, 0, 0, 0, 0) := by decide +kernel
theorem c_54_7 : m_code 54 7 = some (.aload 6, 0, 0, 0, 0) := by decide +kernel
theorem c_54_9 : m_code 54 9 = some (.iload_n 2, 0, 0, 0, 0) := by decide +kernel
theorem c_54_10 : m_code 54 10 = some (.iload_n 3, 0, 0, 0, 0) := by decide +kernel
theorem c_54_11 : m_code 54 11 = some (.invokestatic 76, 77, 310, 1, 0) := by decide +kernel
theorem c_54_14 : m_code 54 14 = some (.iconst 0, 0, 0, 0, 0) := by decide +kernel
theorem c_54_15 : m_code 54 15 = some (.iload 4, 0, 0, 0, 0) := by decide +kernel
theorem c_54_17 : m_code 54 17 = some (.bipush 20, 0, 0, 0, 0) := by decide +kernel
theorem c_54_19 : m_code 54 19 = some (.invokestatic 52, 81, 273, 1, 0) := by decide +kernel
theorem c_54_22 : m_code 54 22 = some (.ifCond .eq 15, 37, 0, 0, 0) := by decide +kernel
theorem c_54_25 : m_code 54 25 = some (.iload 5, 0, 0, 0, 0) := by decide +kernel
theorem c_54_27 : m_code 54 27 = some (.invokestatic 56, 82, 276, 1, 0) := by decide +kernel
theorem c_54_30 : m_code 54 30 = some (.ifCond .eq 7, 37, 0, 0, 0) := by decide +kernel
theorem c_54_33 : m_code 54 33 = some (.iconst 1, 0, 0, 0, 0) := by decide +kernel
theorem c_54_34 : m_code 54 34 = some (.goto 4, 38, 0, 0, 0) := by decide +kernel
theorem c_54_37 : m_code 54 37 = some (.iconst 0, 0, 0, 0, 0) := by decide +kernel
theorem c_54_38 : m_code 54 38 = some (.invokestatic 60, 79, 279, 1, 0) := by decide +kernel
theorem c_54_41 : m_code 54 41 = some (.aload_n 0, 0, 0, 0, 0) := by decide +kernel
theorem c_54_42 : m_code 54 42 = some (.getfield 16, 5, 1, 0, 179) := by decide +kernel
theorem c_54_45 : m_code 54 45 = some (.aload 6, 0, 0, 0, 0) := by decide +kernel
theorem c_54_47 : m_code 54 47 = some (.invokevirtual 88, 38, 335, 1, 0) := by decide +kernel
theorem c_54_50 : m_code 54 50 = some (.iconst 0, 0, 0, 0, 0) := by decide +kernel
theorem c_54_51 : m_code 54 51 = some (.istore 7, 0, 0, 0, 0) := by decide +kernel
theorem c_54_53 : m_code 54 53 = some (.iload 7, 0, 0, 0, 0) := by decide +kernel
theorem c_54_55 : m_code 54 55 = some (.aload 6, 0, 0, 0, 0) := by decide +kernel
theorem c_54_57 : m_code 54 57 = some (.getfield 104, 3, 1, 0, 69) := by decide +kernel
theorem c_54_60 : m_code 54 60 = some (.if_icmp .ge 72, 132, 0, 0, 0) := by decide +kernel
theorem c_54_63 : m_code 54 63 = some (.iconst 0, 0, 0, 0, 0) := by decide +kernel
theorem c_54_64 : m_code 54 64 = some (.istore 8, 0, 0, 0, 0) := by decide +kernel
theorem c_54_66 : m_code 54 66 = some (.iload 8, 0, 0, 0, 0) := by decide +kernel
theorem c_54_68 : m_code 54 68 = some (.aload 6, 0, 0, 0, 0) := by decide +kernel
theorem c_54_70 : m_code 54 70 = some (.getfield 108, 3, 0, 0, 64) := by decide +kernel
theorem c_54_73 : m_code 54 73 = some (.if_icmp .ge 53, 126, 0, 0, 0) := by decide +kernel
theorem c_54_76 : m_code 54 76 = some (.iload 8, 0, 0, 0, 0) := by decide +kernel
theorem c_54_78 : m_code 54 78 = some (.iload_n 2, 0, 0, 0, 0) := by decide +kernel
theorem c_54_79 : m_code 54 79 = some (.isub, 0, 0, 0, 0) := by decide +kernel
theorem c_54_80 : m_code 54 80 = some (.istore 9, 0, 0, 0, 0) := by decide +kernel
theorem c_54_82 : m_code 54 82 = some (.iload 7, 0, 0, 0, 0) := by decide +kernel
theorem c_54_84 : m_code 54 84 = some (.iload_n 3, 0, 0, 0, 0) := by decide +kernel
theorem c_54_85 : m_code 54 85 = some (.isub, 0, 0, 0, 0) := by decide +kernel
theorem c_54_86 : m_code 54 86 = some (.istore 10, 0, 0, 0, 0) := by decide +kernel
theorem c_54_88 : m_code 54 88 = some (.iload 9, 0, 0, 0, 0) := by decide +kernel
theorem c_54_90 : m_code 54 90 = some (.iload 9, 0, 0, 0, 0) := by decide +kernel
theorem c_54_92 : m_code 54 92 = some (.imul, 0, 0, 0, 0) := by decide +kernel
theorem c_54_93 : m_code 54 93 = some (.iload 10, 0, 0, 0, 0) := by decide +kernel
theorem c_54_95 : m_code 54 95 = some (.iload 10, 0, 0, 0, 0) := by decide +kernel
theorem c_54_97 : m_code 54 97 = some (.imul, 0, 0, 0, 0) := by decide +kernel
theorem c_54_98 : m_code 54 98 = some (.iadd, 0, 0, 0, 0) := by decide +kernel
theorem c_54_99 : m_code 54 99 = some (.iload 4, 0, 0, 0, 0) := by decide +kernel
theorem c_54_101 : m_code 54 101 = some (.iload 4, 0, 0, 0, 0) := by decide +kernel
theorem c_54_103 : m_code 54 103 = some (.imul, 0, 0, 0, 0) := by decide +kernel
theorem c_54_104 : m_code 54 104 = some (.if_icmp .gt 16, 120, 0, 0, 0) := by decide +kernel
theorem c_54_107 : m_code 54 107 = some (.aload_n 0, 0, 0, 0, 0) := by decide +kernel
theorem c_54_108 : m_code 54 108 = some (.getfield 16, 5, 1, 0, 179) := by decide +kernel
theorem c_54_111 : m_code 54 111 = some (.iload 8, 0, 0, 0, 0) := by decide +kernel
theorem c_54_113 : m_code 54 113 = some (.iload 7, 0, 0, 0, 0) := by decide +kernel
theorem c_54_115 : m_code 54 115 = some (.iload 5, 0, 0, 0, 0) := by decide +kernel
theorem c_54_117 : m_code 54 117 = some (.invokevirtual 84, 34, 327, 1, 0) := by decide +kernel
theorem c_54_120 : m_code 54 120 = some (.iinc 8 1, 0, 0, 0, 0) := by decide +kernel
theorem c_54_123 : m_code 54 123 = some (.goto (-57), 66, 0, 0, 0) := by decide +kernel
theorem c_54_126 : m_code 54 126 = some (.iinc 7 1, 0, 0, 0, 0) := by decide +kernel
theorem c_54_129 : m_code 54 129 = some (.goto (-76), 53, 0, 0, 0) := by decide +kernel
theorem c_54_132 : m_code 54 132 = some (.aload_n 0, 0, 0, 0, 0) := by decide +kernel
theorem c_54_133 : m_code 54 133 = some (.aload 6, 0, 0, 0, 0) := by decide +kernel
theorem c_54_135 : m_code 54 135 = some (.invokevirtual 100, 85, 344, 1, 0) := by decide +kernel
theorem c_54_138 : m_code 54 138 = some (.ireturn, 0, 0, 0, 0) := by decide +kernel
/-! X5 shade -/
theorem c_55_0 : m_code 55 0 = some (.aload_n 0, 0, 0, 0, 0) := by decide +kernel
theorem c_55_1 : m_code 55 1 = some (.iload_n 1, 0, 0, 0, 0) := by decide +kernel
theorem c_55_2 : m_code 55 2 = some (.invokevirtual 48, 76, 201, 1, 0) := by decide +kernel
theorem c_55_5 : m_code 55 5 = some (.astore 5, 0, 0, 0, 0) := by decide +kernel
theorem c_55_7 : m_code 55 7 = some (.iload_n 2, 0, 0, 0, 0) := by decide +kernel
theorem c_55_8 : m_code 55 8 = some (.invokestatic 111, 83, 356, 1, 0) := by decide +kernel
theorem c_55_11 : m_code 55 11 = some (.ifCond .eq 22, 33, 0, 0, 0) := by decide +kernel
theorem c_55_14 : m_code 55 14 = some (.iload_n 3, 0, 0, 0, 0) := by decide +kernel
theorem c_55_15 : m_code 55 15 = some (.invokestatic 111, 83, 356, 1, 0) := by decide +kernel
theorem c_55_18 : m_code 55 18 = some (.ifCond .eq 15, 33, 0, 0, 0) := by decide +kernel
theorem c_55_21 : m_code 55 21 = some (.iload 4, 0, 0, 0, 0) := by decide +kernel
theorem c_55_23 : m_code 55 23 = some (.invokestatic 111, 83, 356, 1, 0) := by decide +kernel
theorem c_55_26 : m_code 55 26 = some (.ifCond .eq 7, 33, 0, 0, 0) := by decide +kernel
theorem c_55_29 : m_code 55 29 = some (.iconst 1, 0, 0, 0, 0) := by decide +kernel
theorem c_55_30 : m_code 55 30 = some (.goto 4, 34, 0, 0, 0) := by decide +kernel
theorem c_55_33 : m_code 55 33 = some (.iconst 0, 0, 0, 0, 0) := by decide +kernel
theorem c_55_34 : m_code 55 34 = some (.invokestatic 60, 79, 279, 1, 0) := by decide +kernel
theorem c_55_37 : m_code 55 37 = some (.iconst 0, 0, 0, 0, 0) := by decide +kernel
theorem c_55_38 : m_code 55 38 = some (.istore 6, 0, 0, 0, 0) := by decide +kernel
theorem c_55_40 : m_code 55 40 = some (.iload 6, 0, 0, 0, 0) := by decide +kernel
theorem c_55_42 : m_code 55 42 = some (.aload 5, 0, 0, 0, 0) := by decide +kernel
theorem c_55_44 : m_code 55 44 = some (.getfield 104, 3, 1, 0, 69) := by decide +kernel
theorem c_55_47 : m_code 55 47 = some (.if_icmp .ge 85, 132, 0, 0, 0) := by decide +kernel
theorem c_55_50 : m_code 55 50 = some (.iconst 0, 0, 0, 0, 0) := by decide +kernel
theorem c_55_51 : m_code 55 51 = some (.istore 7, 0, 0, 0, 0) := by decide +kernel
theorem c_55_53 : m_code 55 53 = some (.iload 7, 0, 0, 0, 0) := by decide +kernel
theorem c_55_55 : m_code 55 55 = some (.aload 5, 0, 0, 0, 0) := by decide +kernel
theorem c_55_57 : m_code 55 57 = some (.getfield 108, 3, 0, 0, 64) := by decide +kernel
theorem c_55_60 : m_code 55 60 = some (.if_icmp .ge 66, 126, 0, 0, 0) := by decide +kernel
theorem c_55_63 : m_code 55 63 = some (.iload_n 2, 0, 0, 0, 0) := by decide +kernel
theorem c_55_64 : m_code 55 64 = some (.iload 7, 0, 0, 0, 0) := by decide +kernel
theorem c_55_66 : m_code 55 66 = some (.imul, 0, 0, 0, 0) := by decide +kernel
theorem c_55_67 : m_code 55 67 = some (.iload_n 3, 0, 0, 0, 0) := by decide +kernel
theorem c_55_68 : m_code 55 68 = some (.iload 6, 0, 0, 0, 0) := by decide +kernel
theorem c_55_70 : m_code 55 70 = some (.imul, 0, 0, 0, 0) := by decide +kernel
theorem c_55_71 : m_code 55 71 = some (.iadd, 0, 0, 0, 0) := by decide +kernel
theorem c_55_72 : m_code 55 72 = some (.iload 7, 0, 0, 0, 0) := by decide +kernel
theorem c_55_74 : m_code 55 74 = some (.iconst 5, 0, 0, 0, 0) := by decide +kernel
theorem c_55_75 : m_code 55 75 = some (.imul, 0, 0, 0, 0) := by decide +kernel
theorem c_55_76 : m_code 55 76 = some (.iload 6, 0, 0, 0, 0) := by decide +kernel
theorem c_55_78 : m_code 55 78 = some (.bipush 11, 0, 0, 0, 0) := by decide +kernel
theorem c_55_80 : m_code 55 80 = some (.imul, 0, 0, 0, 0) := by decide +kernel
theorem c_55_81 : m_code 55 81 = some (.iadd, 0, 0, 0, 0) := by decide +kernel
theorem c_55_82 : m_code 55 82 = some (.iload 7, 0, 0, 0, 0) := by decide +kernel
theorem c_55_84 : m_code 55 84 = some (.iload 6, 0, 0, 0, 0) := by decide +kernel
theorem c_55_86 : m_code 55 86 = some (.imul, 0, 0, 0, 0) := by decide +kernel
theorem c_55_87 : m_code 55 87 = some (.iconst 3, 0, 0, 0, 0) := by decide +kernel
theorem c_55_88 : m_code 55 88 = some (.imul, 0, 0, 0, 0) := by decide +kernel
theorem c_55_89 : m_code 55 89 = some (.iadd, 0, 0, 0, 0) := by decide +kernel
theorem c_55_90 : m_code 55 90 = some (.bipush 13, 0, 0, 0, 0) := by decide +kernel
theorem c_55_92 : m_code 55 92 = some (.irem, 0, 0, 0, 0) := by decide +kernel
theorem c_55_93 : m_code 55 93 = some (.iload 4, 0, 0, 0, 0) := by decide +kernel
theorem c_55_95 : m_code 55 95 = some (.imul, 0, 0, 0, 0) := by decide +kernel
theorem c_55_96 : m_code 55 96 = some (.iadd, 0, 0, 0, 0) := by decide +kernel
theorem c_55_97 : m_code 55 97 = some (.istore 8, 0, 0, 0, 0) := by decide +kernel
theorem c_55_99 : m_code 55 99 = some (.aload 5, 0, 0, 0, 0) := by decide +kernel
theorem c_55_101 : m_code 55 101 = some (.iload 7, 0, 0, 0, 0) := by decide +kernel
theorem c_55_103 : m_code 55 103 = some (.iload 6, 0, 0, 0, 0) := by decide +kernel
theorem c_55_105 : m_code 55 105 = some (.aload 5, 0, 0, 0, 0) := by decide +kernel
theorem c_55_107 : m_code 55 107 = some (.iload 7, 0, 0, 0, 0) := by decide +kernel
theorem c_55_109 : m_code 55 109 = some (.iload 6, 0, 0, 0, 0) := by decide +kernel
theorem c_55_111 : m_code 55 111 = some (.invokevirtual 80, 33, 317, 1, 0) := by decide +kernel
theorem c_55_114 : m_code 55 114 = some (.iload 8, 0, 0, 0, 0) := by decide +kernel
theorem c_55_116 : m_code 55 116 = some (.iadd, 0, 0, 0, 0) := by decide +kernel
theorem c_55_117 : m_code 55 117 = some (.invokevirtual 84, 34, 327, 1, 0) := by decide +kernel
theorem c_55_120 : m_code 55 120 = some (.iinc 7 1, 0, 0, 0, 0) := by decide +kernel
theorem c_55_123 : m_code 55 123 = some (.goto (-70), 53, 0, 0, 0) := by decide +kernel
theorem c_55_126 : m_code 55 126 = some (.iinc 6 1, 0, 0, 0, 0) := by decide +kernel
theorem c_55_129 : m_code 55 129 = some (.goto (-89), 40, 0, 0, 0) := by decide +kernel
theorem c_55_132 : m_code 55 132 = some (.aload 5, 0, 0, 0, 0) := by decide +kernel
theorem c_55_134 : m_code 55 134 = some (.invokevirtual 114, 35, 359, 1, 0) := by decide +kernel
theorem c_55_137 : m_code 55 137 = some (.ireturn, 0, 0, 0, 0) := by decide +kernel
/-! X5 copy -/
theorem c_56_0 : m_code 56 0 = some (.aload_n 0, 0, 0, 0, 0) := by decide +kernel
theorem c_56_1 : m_code 56 1 = some (.iload_n 1, 0, 0, 0, 0) := by decide +kernel
theorem c_56_2 : m_code 56 2 = some (.invokevirtual 48, 76, 201, 1, 0) := by decide +kernel
theorem c_56_5 : m_code 56 5 = some (.astore_n 3, 0, 0, 0, 0) := by decide +kernel
theorem c_56_6 : m_code 56 6 = some (.aload_n 0, 0, 0, 0, 0) := by decide +kernel
theorem c_56_7 : m_code 56 7 = some (.iload_n 2, 0, 0, 0, 0) := by decide +kernel
theorem c_56_8 : m_code 56 8 = some (.invokevirtual 48, 76, 201, 1, 0) := by decide +kernel
theorem c_56_11 : m_code 56 11 = some (.astore 4, 0, 0, 0, 0) := by decide +kernel
theorem c_56_13 : m_code 56 13 = some (.aload 4, 0, 0, 0, 0) := by decide +kernel
theorem c_56_15 : m_code 56 15 = some (.aload_n 3, 0, 0, 0, 0) := by decide +kernel
theorem c_56_16 : m_code 56 16 = some (.invokevirtual 117, 36, 367, 1, 0) := by decide +kernel
theorem c_56_19 : m_code 56 19 = some (.ifCond .eq 12, 31, 0, 0, 0) := by decide +kernel
theorem c_56_22 : m_code 56 22 = some (.aload 4, 0, 0, 0, 0) := by decide +kernel
theorem c_56_24 : m_code 56 24 = some (.aload_n 3, 0, 0, 0, 0) := by decide +kernel
theorem c_56_25 : m_code 56 25 = some (.invokevirtual 121, 37, 348, 1, 0) := by decide +kernel
theorem c_56_28 : m_code 56 28 = some (.goto 4, 32, 0, 0, 0) := by decide +kernel
theorem c_56_31 : m_code 56 31 = some (.iconst (-1), 0, 0, 0, 0) := by decide +kernel
theorem c_56_32 : m_code 56 32 = some (.istore 5, 0, 0, 0, 0) := by decide +kernel
theorem c_56_34 : m_code 56 34 = some (.aload 4, 0, 0, 0, 0) := by decide +kernel
theorem c_56_36 : m_code 56 36 = some (.aload_n 3, 0, 0, 0, 0) := by decide +kernel
theorem c_56_37 : m_code 56 37 = some (.invokevirtual 88, 38, 335, 1, 0) := by decide +kernel
theorem c_56_40 : m_code 56 40 = some (.iload 5, 0, 0, 0, 0) := by decide +kernel
theorem c_56_42 : m_code 56 42 = some (.ireturn, 0, 0, 0, 0) := by decide +kernel
/-! X5 turn -/
theorem c_57_0 : m_code 57 0 = some (.aload_n 0, 0, 0, 0, 0) := by decide +kernel
theorem c_57_1 : m_code 57 1 = some (.iload_n 1, 0, 0, 0, 0) := by decide +kernel
theorem c_57_2 : m_code 57 2 = some (.invokevirtual 48, 76, 201, 1, 0) := by decide +kernel
theorem c_57_5 : m_code 57 5 = some (.astore_n 3, 0, 0, 0, 0) := by decide +kernel
theorem c_57_6 : m_code 57 6 = some (.iconst 0, 0, 0, 0, 0) := by decide +kernel
theorem c_57_7 : m_code 57 7 = some (.iload_n 2, 0, 0, 0, 0) := by decide +kernel
theorem c_57_8 : m_code 57 8 = some (.iconst 3, 0, 0, 0, 0) := by decide +kernel
theorem c_57_9 : m_code 57 9 = some (.invokestatic 52, 81, 273, 1, 0) := by decide +kernel
theorem c_57_12 : m_code 57 12 = some (.invokestatic 60, 79, 279, 1, 0) := by decide +kernel
theorem c_57_15 : m_code 57 15 = some (.aload_n 3, 0, 0, 0, 0) := by decide +kernel
theorem c_57_16 : m_code 57 16 = some (.getfield 108, 3, 0, 0, 64) := by decide +kernel
theorem c_57_19 : m_code 57 19 = some (.aload_n 3, 0, 0, 0, 0) := by decide +kernel
theorem c_57_20 : m_code 57 20 = some (.getfield 104, 3, 1, 0, 69) := by decide +kernel
theorem c_57_23 : m_code 57 23 = some (.iload_n 2, 0, 0, 0, 0) := by decide +kernel
theorem c_57_24 : m_code 57 24 = some (.invokestatic 127, 86, 375, 1, 0) := by decide +kernel
theorem c_57_27 : m_code 57 27 = some (.istore 4, 0, 0, 0, 0) := by decide +kernel
theorem c_57_29 : m_code 57 29 = some (.aload_n 3, 0, 0, 0, 0) := by decide +kernel
theorem c_57_30 : m_code 57 30 = some (.getfield 104, 3, 1, 0, 69) := by decide +kernel
theorem c_57_33 : m_code 57 33 = some (.aload_n 3, 0, 0, 0, 0) := by decide +kernel
theorem c_57_34 : m_code 57 34 = some (.getfield 108, 3, 0, 0, 64) := by decide +kernel
theorem c_57_37 : m_code 57 37 = some (.iload_n 2, 0, 0, 0, 0) := by decide +kernel
theorem c_57_38 : m_code 57 38 = some (.invokestatic 127, 86, 375, 1, 0) := by decide +kernel
theorem c_57_41 : m_code 57 41 = some (.istore 5, 0, 0, 0, 0) := by decide +kernel
theorem c_57_43 : m_code 57 43 = some (.iload 4, 0, 0, 0, 0) := by decide +kernel
theorem c_57_45 : m_code 57 45 = some (.bipush 16, 0, 0, 0, 0) := by decide +kernel
theorem c_57_47 : m_code 57 47 = some (.if_icmp .gt 14, 61, 0, 0, 0) := by decide +kernel
theorem c_57_50 : m_code 57 50 = some (.iload 5, 0, 0, 0, 0) := by decide +kernel
theorem c_57_52 : m_code 57 52 = some (.bipush 16, 0, 0, 0, 0) := by decide +kernel
theorem c_57_54 : m_code 57 54 = some (.if_icmp .gt 7, 61, 0, 0, 0) := by decide +kernel
theorem c_57_57 : m_code 57 57 = some (.iconst 1, 0, 0, 0, 0) := by decide +kernel
theorem c_57_58 : m_code 57 58 = some (.goto 4, 62, 0, 0, 0) := by decide +kernel
theorem c_57_61 : m_code 57 61 = some (.iconst 0, 0, 0, 0, 0) := by decide +kernel
theorem c_57_62 : m_code 57 62 = some (.invokestatic 124, 80, 379, 1, 0) := by decide +kernel
theorem c_57_65 : m_code 57 65 = some (.aload_n 0, 0, 0, 0, 0) := by decide +kernel
theorem c_57_66 : m_code 57 66 = some (.getfield 16, 5, 1, 0, 179) := by decide +kernel
theorem c_57_69 : m_code 57 69 = some (.iload 4, 0, 0, 0, 0) := by decide +kernel
theorem c_57_71 : m_code 57 71 = some (.iload 5, 0, 0, 0, 0) := by decide +kernel
theorem c_57_73 : m_code 57 73 = some (.invokevirtual 64, 32, 298, 1, 0) := by decide +kernel
theorem c_57_76 : m_code 57 76 = some (.iconst 0, 0, 0, 0, 0) := by decide +kernel
theorem c_57_77 : m_code 57 77 = some (.istore 6, 0, 0, 0, 0) := by decide +kernel
theorem c_57_79 : m_code 57 79 = some (.iload 6, 0, 0, 0, 0) := by decide +kernel
theorem c_57_81 : m_code 57 81 = some (.iload 5, 0, 0, 0, 0) := by decide +kernel
theorem c_57_83 : m_code 57 83 = some (.if_icmp .ge 45, 128, 0, 0, 0) := by decide +kernel
theorem c_57_86 : m_code 57 86 = some (.iconst 0, 0, 0, 0, 0) := by decide +kernel
theorem c_57_87 : m_code 57 87 = some (.istore 7, 0, 0, 0, 0) := by decide +kernel
theorem c_57_89 : m_code 57 89 = some (.iload 7, 0, 0, 0, 0) := by decide +kernel
theorem c_57_91 : m_code 57 91 = some (.iload 4, 0, 0, 0, 0) := by decide +kernel
theorem c_57_93 : m_code 57 93 = some (.if_icmp .ge 29, 122, 0, 0, 0) := by decide +kernel
theorem c_57_96 : m_code 57 96 = some (.aload_n 0, 0, 0, 0, 0) := by decide +kernel
theorem c_57_97 : m_code 57 97 = some (.getfield 16, 5, 1, 0, 179) := by decide +kernel
theorem c_57_100 : m_code 57 100 = some (.iload 7, 0, 0, 0, 0) := by decide +kernel
theorem c_57_102 : m_code 57 102 = some (.iload 6, 0, 0, 0, 0) := by decide +kernel
theorem c_57_104 : m_code 57 104 = some (.aload_n 3, 0, 0, 0, 0) := by decide +kernel
theorem c_57_105 : m_code 57 105 = some (.iload_n 2, 0, 0, 0, 0) := by decide +kernel
theorem c_57_106 : m_code 57 106 = some (.iload 7, 0, 0, 0, 0) := by decide +kernel
theorem c_57_108 : m_code 57 108 = some (.iload 6, 0, 0, 0, 0) := by decide +kernel
theorem c_57_110 : m_code 57 110 = some (.invokestatic 131, 87, 398, 1, 0) := by decide +kernel
theorem c_57_113 : m_code 57 113 = some (.invokevirtual 84, 34, 327, 1, 0) := by decide +kernel
theorem c_57_116 : m_code 57 116 = some (.iinc 7 1, 0, 0, 0, 0) := by decide +kernel
theorem c_57_119 : m_code 57 119 = some (.goto (-30), 89, 0, 0, 0) := by decide +kernel
theorem c_57_122 : m_code 57 122 = some (.iinc 6 1, 0, 0, 0, 0) := by decide +kernel
theorem c_57_125 : m_code 57 125 = some (.goto (-46), 79, 0, 0, 0) := by decide +kernel
theorem c_57_128 : m_code 57 128 = some (.aload_n 3, 0, 0, 0, 0) := by decide +kernel
theorem c_57_129 : m_code 57 129 = some (.aload_n 0, 0, 0, 0, 0) := by decide +kernel
theorem c_57_130 : m_code 57 130 = some (.getfield 16, 5, 1, 0, 179) := by decide +kernel
theorem c_57_133 : m_code 57 133 = some (.invokevirtual 88, 38, 335, 1, 0) := by decide +kernel
theorem c_57_136 : m_code 57 136 = some (.aload_n 3, 0, 0, 0, 0) := by decide +kernel
theorem c_57_137 : m_code 57 137 = some (.invokevirtual 68, 31, 302, 1, 0) := by decide +kernel
theorem c_57_140 : m_code 57 140 = some (.ireturn, 0, 0, 0, 0) := by decide +kernel
/-! X5 filter -/
theorem c_58_0 : m_code 58 0 = some (.aload_n 0, 0, 0, 0, 0) := by decide +kernel
theorem c_58_1 : m_code 58 1 = some (.iload_n 1, 0, 0, 0, 0) := by decide +kernel
theorem c_58_2 : m_code 58 2 = some (.invokevirtual 48, 76, 201, 1, 0) := by decide +kernel
theorem c_58_5 : m_code 58 5 = some (.astore_n 3, 0, 0, 0, 0) := by decide +kernel
theorem c_58_6 : m_code 58 6 = some (.iconst 0, 0, 0, 0, 0) := by decide +kernel
theorem c_58_7 : m_code 58 7 = some (.iload_n 2, 0, 0, 0, 0) := by decide +kernel
theorem c_58_8 : m_code 58 8 = some (.bipush 8, 0, 0, 0, 0) := by decide +kernel
theorem c_58_10 : m_code 58 10 = some (.invokestatic 52, 81, 273, 1, 0) := by decide +kernel
theorem c_58_13 : m_code 58 13 = some (.invokestatic 60, 79, 279, 1, 0) := by decide +kernel
theorem c_58_16 : m_code 58 16 = some (.aload_n 0, 0, 0, 0, 0) := by decide +kernel
theorem c_58_17 : m_code 58 17 = some (.getfield 23, 5, 2, 0, 180) := by decide +kernel
theorem c_58_20 : m_code 58 20 = some (.aload_n 3, 0, 0, 0, 0) := by decide +kernel
theorem c_58_21 : m_code 58 21 = some (.aload_n 0, 0, 0, 0, 0) := by decide +kernel
theorem c_58_22 : m_code 58 22 = some (.getfield 16, 5, 1, 0, 179) := by decide +kernel
theorem c_58_25 : m_code 58 25 = some (.iload_n 2, 0, 0, 0, 0) := by decide +kernel
theorem c_58_26 : m_code 58 26 = some (.invokevirtual 147, 1, 405, 1, 0) := by decide +kernel
theorem c_58_29 : m_code 58 29 = some (.aload_n 0, 0, 0, 0, 0) := by decide +kernel
theorem c_58_30 : m_code 58 30 = some (.aload_n 3, 0, 0, 0, 0) := by decide +kernel
theorem c_58_31 : m_code 58 31 = some (.invokevirtual 100, 85, 344, 1, 0) := by decide +kernel
theorem c_58_34 : m_code 58 34 = some (.ireturn, 0, 0, 0, 0) := by decide +kernel
/-! X5 values -/
theorem c_59_0 : m_code 59 0 = some (.aload_n 0, 0, 0, 0, 0) := by decide +kernel
theorem c_59_1 : m_code 59 1 = some (.iload_n 1, 0, 0, 0, 0) := by decide +kernel
theorem c_59_2 : m_code 59 2 = some (.invokevirtual 48, 76, 201, 1, 0) := by decide +kernel
theorem c_59_5 : m_code 59 5 = some (.astore_n 3, 0, 0, 0, 0) := by decide +kernel
theorem c_59_6 : m_code 59 6 = some (.iconst 0, 0, 0, 0, 0) := by decide +kernel
theorem c_59_7 : m_code 59 7 = some (.iload_n 2, 0, 0, 0, 0) := by decide +kernel
theorem c_59_8 : m_code 59 8 = some (.iconst 3, 0, 0, 0, 0) := by decide +kernel
theorem c_59_9 : m_code 59 9 = some (.invokestatic 52, 81, 273, 1, 0) := by decide +kernel
theorem c_59_12 : m_code 59 12 = some (.invokestatic 60, 79, 279, 1, 0) := by decide +kernel
theorem c_59_15 : m_code 59 15 = some (.aload_n 0, 0, 0, 0, 0) := by decide +kernel
theorem c_59_16 : m_code 59 16 = some (.getfield 30, 5, 3, 0, 181) := by decide +kernel
theorem c_59_19 : m_code 59 19 = some (.aload_n 3, 0, 0, 0, 0) := by decide +kernel
theorem c_59_20 : m_code 59 20 = some (.invokevirtual 151, 40, 456, 1, 0) := by decide +kernel
theorem c_59_23 : m_code 59 23 = some (.aload_n 0, 0, 0, 0, 0) := by decide +kernel
theorem c_59_24 : m_code 59 24 = some (.getfield 30, 5, 3, 0, 181) := by decide +kernel
theorem c_59_27 : m_code 59 27 = some (.iload_n 2, 0, 0, 0, 0) := by decide +kernel
theorem c_59_28 : m_code 59 28 = some (.invokevirtual 154, 42, 461, 1, 0) := by decide +kernel
theorem c_59_31 : m_code 59 31 = some (.aload_n 0, 0, 0, 0, 0) := by decide +kernel
theorem c_59_32 : m_code 59 32 = some (.getfield 16, 5, 1, 0, 179) := by decide +kernel
theorem c_59_35 : m_code 59 35 = some (.aload_n 3, 0, 0, 0, 0) := by decide +kernel
theorem c_59_36 : m_code 59 36 = some (.invokevirtual 88, 38, 335, 1, 0) := by decide +kernel
theorem c_59_39 : m_code 59 39 = some (.iconst 0, 0, 0, 0, 0) := by decide +kernel
theorem c_59_40 : m_code 59 40 = some (.istore 4, 0, 0, 0, 0) := by decide +kernel
theorem c_59_42 : m_code 59 42 = some (.iload 4, 0, 0, 0, 0) := by decide +kernel
theorem c_59_44 : m_code 59 44 = some (.aload_n 3, 0, 0, 0, 0) := by decide +kernel
theorem c_59_45 : m_code 59 45 = some (.invokevirtual 68, 31, 302, 1, 0) := by decide +kernel
theorem c_59_48 : m_code 59 48 = some (.if_icmp .ge 33, 81, 0, 0, 0) := by decide +kernel
theorem c_59_51 : m_code 59 51 = some (.aload_n 0, 0, 0, 0, 0) := by decide +kernel
theorem c_59_52 : m_code 59 52 = some (.getfield 16, 5, 1, 0, 179) := by decide +kernel
theorem c_59_55 : m_code 59 55 = some (.getfield 72, 3, 2, 0, 72) := by decide +kernel
theorem c_59_58 : m_code 59 58 = some (.iload 4, 0, 0, 0, 0) := by decide +kernel
theorem c_59_60 : m_code 59 60 = some (.aload_n 0, 0, 0, 0, 0) := by decide +kernel
theorem c_59_61 : m_code 59 61 = some (.getfield 30, 5, 3, 0, 181) := by decide +kernel
theorem c_59_64 : m_code 59 64 = some (.aload_n 3, 0, 0, 0, 0) := by decide +kernel
theorem c_59_65 : m_code 59 65 = some (.getfield 72, 3, 2, 0, 72) := by decide +kernel
theorem c_59_68 : m_code 59 68 = some (.iload 4, 0, 0, 0, 0) := by decide +kernel
theorem c_59_70 : m_code 59 70 = some (.iaload, 0, 0, 0, 0) := by decide +kernel
theorem c_59_71 : m_code 59 71 = some (.invokevirtual 158, 41, 498, 1, 0) := by decide +kernel
theorem c_59_74 : m_code 59 74 = some (.iastore, 0, 0, 0, 0) := by decide +kernel
theorem c_59_75 : m_code 59 75 = some (.iinc 4 1, 0, 0, 0, 0) := by decide +kernel
theorem c_59_78 : m_code 59 78 = some (.goto (-36), 42, 0, 0, 0) := by decide +kernel
theorem c_59_81 : m_code 59 81 = some (.aload_n 0, 0, 0, 0, 0) := by decide +kernel
theorem c_59_82 : m_code 59 82 = some (.aload_n 3, 0, 0, 0, 0) := by decide +kernel
theorem c_59_83 : m_code 59 83 = some (.invokevirtual 100, 85, 344, 1, 0) := by decide +kernel
theorem c_59_86 : m_code 59 86 = some (.ireturn, 0, 0, 0, 0) := by decide +kernel
/-! X5 value -/
theorem c_60_0 : m_code 60 0 = some (.aload_n 0, 0, 0, 0, 0) := by decide +kernel
theorem c_60_1 : m_code 60 1 = some (.iload_n 1, 0, 0, 0, 0) := by decide +kernel
theorem c_60_2 : m_code 60 2 = some (.invokevirtual 48, 76, 201, 1, 0) := by decide +kernel
theorem c_60_5 : m_code 60 5 = some (.astore 4, 0, 0, 0, 0) := by decide +kernel
theorem c_60_7 : m_code 60 7 = some (.aload 4, 0, 0, 0, 0) := by decide +kernel
theorem c_60_9 : m_code 60 9 = some (.iload_n 2, 0, 0, 0, 0) := by decide +kernel
theorem c_60_10 : m_code 60 10 = some (.iload_n 3, 0, 0, 0, 0) := by decide +kernel
theorem c_60_11 : m_code 60 11 = some (.invokestatic 76, 77, 310, 1, 0) := by decide +kernel
theorem c_60_14 : m_code 60 14 = some (.aload 4, 0, 0, 0, 0) := by decide +kernel
theorem c_60_16 : m_code 60 16 = some (.iload_n 2, 0, 0, 0, 0) := by decide +kernel
theorem c_60_17 : m_code 60 17 = some (.iload_n 3, 0, 0, 0, 0) := by decide +kernel
theorem c_60_18 : m_code 60 18 = some (.invokevirtual 80, 33, 317, 1, 0) := by decide +kernel
theorem c_60_21 : m_code 60 21 = some (.ireturn, 0, 0, 0, 0) := by decide +kernel
/-! X5 sheet -/
theorem c_61_0 : m_code 61 0 = some (.aload_n 0, 0, 0, 0, 0) := by decide +kernel
theorem c_61_1 : m_code 61 1 = some (.iload_n 1, 0, 0, 0, 0) := by decide +kernel
theorem c_61_2 : m_code 61 2 = some (.invokevirtual 48, 76, 201, 1, 0) := by decide +kernel
theorem c_61_5 : m_code 61 5 = some (.astore_n 3, 0, 0, 0, 0) := by decide +kernel
theorem c_61_6 : m_code 61 6 = some (.iconst 0, 0, 0, 0, 0) := by decide +kernel
theorem c_61_7 : m_code 61 7 = some (.iload_n 2, 0, 0, 0, 0) := by decide +kernel
theorem c_61_8 : m_code 61 8 = some (.iconst 5, 0, 0, 0, 0) := by decide +kernel
theorem c_61_9 : m_code 61 9 = some (.invokestatic 52, 81, 273, 1, 0) := by decide +kernel
theorem c_61_12 : m_code 61 12 = some (.invokestatic 60, 79, 279, 1, 0) := by decide +kernel
theorem c_61_15 : m_code 61 15 = some (.aload_n 0, 0, 0, 0, 0) := by decide +kernel
theorem c_61_16 : m_code 61 16 = some (.aload_n 3, 0, 0, 0, 0) := by decide +kernel
theorem c_61_17 : m_code 61 17 = some (.iload_n 2, 0, 0, 0, 0) := by decide +kernel
theorem c_61_18 : m_code 61 18 = some (.invokevirtual 162, 88, 510, 1, 0) := by decide +kernel
theorem c_61_21 : m_code 61 21 = some (.ireturn, 0, 0, 0, 0) := by decide +kernel
/-! X5 count -/
theorem c_62_0 : m_code 62 0 = some (.aload_n 0, 0, 0, 0, 0) := by decide +kernel
theorem c_62_1 : m_code 62 1 = some (.iload_n 1, 0, 0, 0, 0) := by decide +kernel
theorem c_62_2 : m_code 62 2 = some (.invokevirtual 48, 76, 201, 1, 0) := by decide +kernel
theorem c_62_5 : m_code 62 5 = some (.astore 4, 0, 0, 0, 0) := by decide +kernel
theorem c_62_7 : m_code 62 7 = some (.iconst 0, 0, 0, 0, 0) := by decide +kernel
theorem c_62_8 : m_code 62 8 = some (.istore 5, 0, 0, 0, 0) := by decide +kernel
theorem c_62_10 : m_code 62 10 = some (.iconst 0, 0, 0, 0, 0) := by decide +kernel
theorem c_62_11 : m_code 62 11 = some (.istore 6, 0, 0, 0, 0) := by decide +kernel
theorem c_62_13 : m_code 62 13 = some (.iload 6, 0, 0, 0, 0) := by decide +kernel
theorem c_62_15 : m_code 62 15 = some (.aload 4, 0, 0, 0, 0) := by decide +kernel
theorem c_62_17 : m_code 62 17 = some (.invokevirtual 68, 31, 302, 1, 0) := by decide +kernel
theorem c_62_20 : m_code 62 20 = some (.if_icmp .ge 28, 48, 0, 0, 0) := by decide +kernel
theorem c_62_23 : m_code 62 23 = some (.iload_n 2, 0, 0, 0, 0) := by decide +kernel
theorem c_62_24 : m_code 62 24 = some (.aload 4, 0, 0, 0, 0) := by decide +kernel
theorem c_62_26 : m_code 62 26 = some (.getfield 72, 3, 2, 0, 72) := by decide +kernel
theorem c_62_29 : m_code 62 29 = some (.iload 6, 0, 0, 0, 0) := by decide +kernel
theorem c_62_31 : m_code 62 31 = some (.iaload, 0, 0, 0, 0) := by decide +kernel
theorem c_62_32 : m_code 62 32 = some (.iload_n 3, 0, 0, 0, 0) := by decide +kernel
theorem c_62_33 : m_code 62 33 = some (.invokestatic 52, 81, 273, 1, 0) := by decide +kernel
theorem c_62_36 : m_code 62 36 = some (.ifCond .eq 6, 42, 0, 0, 0) := by decide +kernel
theorem c_62_39 : m_code 62 39 = some (.iinc 5 1, 0, 0, 0, 0) := by decide +kernel
theorem c_62_42 : m_code 62 42 = some (.iinc 6 1, 0, 0, 0, 0) := by decide +kernel
theorem c_62_45 : m_code 62 45 = some (.goto (-32), 13, 0, 0, 0) := by decide +kernel
theorem c_62_48 : m_code 62 48 = some (.iload 5, 0, 0, 0, 0) := by decide +kernel
theorem c_62_50 : m_code 62 50 = some (.ireturn, 0, 0, 0, 0) := by decide +kernel
/-! X5 ordered -/
theorem c_63_0 : m_code 63 0 = some (.aload_n 0, 0, 0, 0, 0) := by decide +kernel
theorem c_63_1 : m_code 63 1 = some (.iload_n 1, 0, 0, 0, 0) := by decide +kernel
theorem c_63_2 : m_code 63 2 = some (.invokevirtual 48, 76, 201, 1, 0) := by decide +kernel
theorem c_63_5 : m_code 63 5 = some (.astore_n 3, 0, 0, 0, 0) := by decide +kernel
theorem c_63_6 : m_code 63 6 = some (.iconst 0, 0, 0, 0, 0) := by decide +kernel
theorem c_63_7 : m_code 63 7 = some (.iload_n 2, 0, 0, 0, 0) := by decide +kernel
theorem c_63_8 : m_code 63 8 = some (.aload_n 3, 0, 0, 0, 0) := by decide +kernel
theorem c_63_9 : m_code 63 9 = some (.invokevirtual 68, 31, 302, 1, 0) := by decide +kernel
theorem c_63_12 : m_code 63 12 = some (.iconst 1, 0, 0, 0, 0) := by decide +kernel
theorem c_63_13 : m_code 63 13 = some (.isub, 0, 0, 0, 0) := by decide +kernel
theorem c_63_14 : m_code 63 14 = some (.invokestatic 52, 81, 273, 1, 0) := by decide +kernel
theorem c_63_17 : m_code 63 17 = some (.invokestatic 135, 78, 313, 1, 0) := by decide +kernel
theorem c_63_20 : m_code 63 20 = some (.aload_n 0, 0, 0, 0, 0) := by decide +kernel
theorem c_63_21 : m_code 63 21 = some (.getfield 30, 5, 3, 0, 181) := by decide +kernel
theorem c_63_24 : m_code 63 24 = some (.aload_n 3, 0, 0, 0, 0) := by decide +kernel
theorem c_63_25 : m_code 63 25 = some (.invokevirtual 151, 40, 456, 1, 0) := by decide +kernel
theorem c_63_28 : m_code 63 28 = some (.aload_n 0, 0, 0, 0, 0) := by decide +kernel
theorem c_63_29 : m_code 63 29 = some (.getfield 30, 5, 3, 0, 181) := by decide +kernel
theorem c_63_32 : m_code 63 32 = some (.iload_n 2, 0, 0, 0, 0) := by decide +kernel
theorem c_63_33 : m_code 63 33 = some (.invokevirtual 166, 49, 525, 1, 0) := by decide +kernel
theorem c_63_36 : m_code 63 36 = some (.ireturn, 0, 0, 0, 0) := by decide +kernel
/-! X5 difference -/
theorem c_64_0 : m_code 64 0 = some (.aload_n 0, 0, 0, 0, 0) := by decide +kernel
theorem c_64_1 : m_code 64 1 = some (.iload_n 1, 0, 0, 0, 0) := by decide +kernel
theorem c_64_2 : m_code 64 2 = some (.invokevirtual 48, 76, 201, 1, 0) := by decide +kernel
theorem c_64_5 : m_code 64 5 = some (.astore_n 3, 0, 0, 0, 0) := by decide +kernel
theorem c_64_6 : m_code 64 6 = some (.aload_n 0, 0, 0, 0, 0) := by decide +kernel
theorem c_64_7 : m_code 64 7 = some (.iload_n 2, 0, 0, 0, 0) := by decide +kernel
theorem c_64_8 : m_code 64 8 = some (.invokevirtual 48, 76, 201, 1, 0) := by decide +kernel
theorem c_64_11 : m_code 64 11 = some (.astore 4, 0, 0, 0, 0) := by decide +kernel
theorem c_64_13 : m_code 64 13 = some (.aload_n 3, 0, 0, 0, 0) := by decide +kernel
theorem c_64_14 : m_code 64 14 = some (.aload 4, 0, 0, 0, 0) := by decide +kernel
theorem c_64_16 : m_code 64 16 = some (.invokevirtual 117, 36, 367, 1, 0) := by decide +kernel
theorem c_64_19 : m_code 64 19 = some (.invokestatic 124, 80, 379, 1, 0) := by decide +kernel
theorem c_64_22 : m_code 64 22 = some (.iconst 0, 0, 0, 0, 0) := by decide +kernel
theorem c_64_23 : m_code 64 23 = some (.istore 5, 0, 0, 0, 0) := by decide +kernel
theorem c_64_25 : m_code 64 25 = some (.iconst 0, 0, 0, 0, 0) := by decide +kernel
theorem c_64_26 : m_code 64 26 = some (.istore 6, 0, 0, 0, 0) := by decide +kernel
theorem c_64_28 : m_code 64 28 = some (.iload 6, 0, 0, 0, 0) := by decide +kernel
theorem c_64_30 : m_code 64 30 = some (.aload_n 3, 0, 0, 0, 0) := by decide +kernel
theorem c_64_31 : m_code 64 31 = some (.invokevirtual 68, 31, 302, 1, 0) := by decide +kernel
theorem c_64_34 : m_code 64 34 = some (.if_icmp .ge 33, 67, 0, 0, 0) := by decide +kernel
theorem c_64_37 : m_code 64 37 = some (.iload 5, 0, 0, 0, 0) := by decide +kernel
theorem c_64_39 : m_code 64 39 = some (.aload_n 3, 0, 0, 0, 0) := by decide +kernel
theorem c_64_40 : m_code 64 40 = some (.getfield 72, 3, 2, 0, 72) := by decide +kernel
theorem c_64_43 : m_code 64 43 = some (.iload 6, 0, 0, 0, 0) := by decide +kernel
theorem c_64_45 : m_code 64 45 = some (.iaload, 0, 0, 0, 0) := by decide +kernel
theorem c_64_46 : m_code 64 46 = some (.aload 4, 0, 0, 0, 0) := by decide +kernel
theorem c_64_48 : m_code 64 48 = some (.getfield 72, 3, 2, 0, 72) := by decide +kernel
theorem c_64_51 : m_code 64 51 = some (.iload 6, 0, 0, 0, 0) := by decide +kernel
theorem c_64_53 : m_code 64 53 = some (.iaload, 0, 0, 0, 0) := by decide +kernel
theorem c_64_54 : m_code 64 54 = some (.isub, 0, 0, 0, 0) := by decide +kernel
theorem c_64_55 : m_code 64 55 = some (.invokestatic 169, 0, 530, 5, 0) := by decide +kernel
theorem c_64_58 : m_code 64 58 = some (.iadd, 0, 0, 0, 0) := by decide +kernel
theorem c_64_59 : m_code 64 59 = some (.istore 5, 0, 0, 0, 0) := by decide +kernel
theorem c_64_61 : m_code 64 61 = some (.iinc 6 1, 0, 0, 0, 0) := by decide +kernel
theorem c_64_64 : m_code 64 64 = some (.goto (-36), 28, 0, 0, 0) := by decide +kernel
theorem c_64_67 : m_code 64 67 = some (.iload 5, 0, 0, 0, 0) := by decide +kernel
theorem c_64_69 : m_code 64 69 = some (.i2d, 0, 0, 0, 0) := by decide +kernel
theorem c_64_70 : m_code 64 70 = some (.aload_n 3, 0, 0, 0, 0) := by decide +kernel
theorem c_64_71 : m_code 64 71 = some (.invokevirtual 68, 31, 302, 1, 0) := by decide +kernel
theorem c_64_74 : m_code 64 74 = some (.i2d, 0, 0, 0, 0) := by decide +kernel
theorem c_64_75 : m_code 64 75 = some (.ddiv, 0, 0, 0, 0) := by decide +kernel
theorem c_64_76 : m_code 64 76 = some (.dreturn, 0, 0, 0, 0) := by decide +kernel
/-! X5 parts -/
theorem c_65_0 : m_code 65 0 = some (.aload_n 0, 0, 0, 0, 0) := by decide +kernel
theorem c_65_1 : m_code 65 1 = some (.iload_n 1, 0, 0, 0, 0) := by decide +kernel
theorem c_65_2 : m_code 65 2 = some (.invokevirtual 48, 76, 201, 1, 0) := by decide +kernel
theorem c_65_5 : m_code 65 5 = some (.astore_n 3, 0, 0, 0, 0) := by decide +kernel
theorem c_65_6 : m_code 65 6 = some (.iload_n 2, 0, 0, 0, 0) := by decide +kernel
theorem c_65_7 : m_code 65 7 = some (.invokestatic 172, 84, 535, 1, 0) := by decide +kernel
theorem c_65_10 : m_code 65 10 = some (.invokestatic 60, 79, 279, 1, 0) := by decide +kernel
theorem c_65_13 : m_code 65 13 = some (.aload_n 0, 0, 0, 0, 0) := by decide +kernel
theorem c_65_14 : m_code 65 14 = some (.aload_n 3, 0, 0, 0, 0) := by decide +kernel
theorem c_65_15 : m_code 65 15 = some (.iload_n 2, 0, 0, 0, 0) := by decide +kernel
theorem c_65_16 : m_code 65 16 = some (.sipush 128, 0, 0, 0, 0) := by decide +kernel
theorem c_65_19 : m_code 65 19 = some (.invokevirtual 175, 89, 538, 1, 0) := by decide +kernel
theorem c_65_22 : m_code 65 22 = some (.ireturn, 0, 0, 0, 0) := by decide +kernel
/-! X5 holes -/
theorem c_66_0 : m_code 66 0 = some (.aload_n 0, 0, 0, 0, 0) := by decide +kernel
theorem c_66_1 : m_code 66 1 = some (.iload_n 1, 0, 0, 0, 0) := by decide +kernel
theorem c_66_2 : m_code 66 2 = some (.invokevirtual 48, 76, 201, 1, 0) := by decide +kernel
theorem c_66_5 : m_code 66 5 = some (.astore_n 3, 0, 0, 0, 0) := by decide +kernel
theorem c_66_6 : m_code 66 6 = some (.iload_n 2, 0, 0, 0, 0) := by decide +kernel
theorem c_66_7 : m_code 66 7 = some (.invokestatic 172, 84, 535, 1, 0) := by decide +kernel
theorem c_66_10 : m_code 66 10 = some (.invokestatic 60, 79, 279, 1, 0) := by decide +kernel
theorem c_66_13 : m_code 66 13 = some (.aload_n 0, 0, 0, 0, 0) := by decide +kernel
theorem c_66_14 : m_code 66 14 = some (.aload_n 3, 0, 0, 0, 0) := by decide +kernel
theorem c_66_15 : m_code 66 15 = some (.iload_n 2, 0, 0, 0, 0) := by decide +kernel
theorem c_66_16 : m_code 66 16 = some (.invokevirtual 179, 90, 570, 1, 0) := by decide +kernel
theorem c_66_19 : m_code 66 19 = some (.ireturn, 0, 0, 0, 0) := by decide +kernel
/-! X5 partOf -/
theorem c_67_0 : m_code 67 0 = some (.aload_n 0, 0, 0, 0, 0) := by decide +kernel
theorem c_67_1 : m_code 67 1 = some (.iload_n 1, 0, 0, 0, 0) := by decide +kernel
theorem c_67_2 : m_code 67 2 = some (.invokevirtual 48, 76, 201, 1, 0) := by decide +kernel
theorem c_67_5 : m_code 67 5 = some (.astore 5, 0, 0, 0, 0) := by decide +kernel
theorem c_67_7 : m_code 67 7 = some (.aload 5, 0, 0, 0, 0) := by decide +kernel
theorem c_67_9 : m_code 67 9 = some (.iload_n 3, 0, 0, 0, 0) := by decide +kernel
theorem c_67_10 : m_code 67 10 = some (.iload 4, 0, 0, 0, 0) := by decide +kernel
theorem c_67_12 : m_code 67 12 = some (.invokestatic 76, 77, 310, 1, 0) := by decide +kernel
theorem c_67_15 : m_code 67 15 = some (.iload_n 2, 0, 0, 0, 0) := by decide +kernel
theorem c_67_16 : m_code 67 16 = some (.invokestatic 172, 84, 535, 1, 0) := by decide +kernel
theorem c_67_19 : m_code 67 19 = some (.invokestatic 60, 79, 279, 1, 0) := by decide +kernel
theorem c_67_22 : m_code 67 22 = some (.aload_n 0, 0, 0, 0, 0) := by decide +kernel
theorem c_67_23 : m_code 67 23 = some (.getfield 37, 5, 4, 0, 182) := by decide +kernel
theorem c_67_26 : m_code 67 26 = some (.aload 5, 0, 0, 0, 0) := by decide +kernel
theorem c_67_28 : m_code 67 28 = some (.iload_n 2, 0, 0, 0, 0) := by decide +kernel
theorem c_67_29 : m_code 67 29 = some (.sipush 128, 0, 0, 0, 0) := by decide +kernel
theorem c_67_32 : m_code 67 32 = some (.iconst 1, 0, 0, 0, 0) := by decide +kernel
theorem c_67_33 : m_code 67 33 = some (.invokevirtual 182, 12, 542, 1, 0) := by decide +kernel
theorem c_67_36 : m_code 67 36 = some (.aload_n 0, 0, 0, 0, 0) := by decide +kernel
theorem c_67_37 : m_code 67 37 = some (.getfield 37, 5, 4, 0, 182) := by decide +kernel
theorem c_67_40 : m_code 67 40 = some (.iload_n 3, 0, 0, 0, 0) := by decide +kernel
theorem c_67_41 : m_code 67 41 = some (.iload 4, 0, 0, 0, 0) := by decide +kernel
theorem c_67_43 : m_code 67 43 = some (.invokevirtual 186, 17, 582, 1, 0) := by decide +kernel
theorem c_67_46 : m_code 67 46 = some (.ireturn, 0, 0, 0, 0) := by decide +kernel
/-! X5 part -/
theorem c_68_0 : m_code 68 0 = some (.aload_n 0, 0, 0, 0, 0) := by decide +kernel
theorem c_68_1 : m_code 68 1 = some (.iload_n 1, 0, 0, 0, 0) := by decide +kernel
theorem c_68_2 : m_code 68 2 = some (.invokevirtual 48, 76, 201, 1, 0) := by decide +kernel
theorem c_68_5 : m_code 68 5 = some (.astore 5, 0, 0, 0, 0) := by decide +kernel
theorem c_68_7 : m_code 68 7 = some (.iload_n 2, 0, 0, 0, 0) := by decide +kernel
theorem c_68_8 : m_code 68 8 = some (.invokestatic 172, 84, 535, 1, 0) := by decide +kernel
theorem c_68_11 : m_code 68 11 = some (.ifCond .eq 17, 28, 0, 0, 0) := by decide +kernel
theorem c_68_14 : m_code 68 14 = some (.iconst 0, 0, 0, 0, 0) := by decide +kernel
theorem c_68_15 : m_code 68 15 = some (.iload 4, 0, 0, 0, 0) := by decide +kernel
theorem c_68_17 : m_code 68 17 = some (.iconst 5, 0, 0, 0, 0) := by decide +kernel
theorem c_68_18 : m_code 68 18 = some (.invokestatic 52, 81, 273, 1, 0) := by decide +kernel
theorem c_68_21 : m_code 68 21 = some (.ifCond .eq 7, 28, 0, 0, 0) := by decide +kernel
theorem c_68_24 : m_code 68 24 = some (.iconst 1, 0, 0, 0, 0) := by decide +kernel
theorem c_68_25 : m_code 68 25 = some (.goto 4, 29, 0, 0, 0) := by decide +kernel
theorem c_68_28 : m_code 68 28 = some (.iconst 0, 0, 0, 0, 0) := by decide +kernel
theorem c_68_29 : m_code 68 29 = some (.invokestatic 60, 79, 279, 1, 0) := by decide +kernel
theorem c_68_32 : m_code 68 32 = some (.aload_n 0, 0, 0, 0, 0) := by decide +kernel
theorem c_68_33 : m_code 68 33 = some (.getfield 37, 5, 4, 0, 182) := by decide +kernel
theorem c_68_36 : m_code 68 36 = some (.aload 5, 0, 0, 0, 0) := by decide +kernel
theorem c_68_38 : m_code 68 38 = some (.iload_n 2, 0, 0, 0, 0) := by decide +kernel
theorem c_68_39 : m_code 68 39 = some (.sipush 128, 0, 0, 0, 0) := by decide +kernel
theorem c_68_42 : m_code 68 42 = some (.iconst 1, 0, 0, 0, 0) := by decide +kernel
theorem c_68_43 : m_code 68 43 = some (.invokevirtual 182, 12, 542, 1, 0) := by decide +kernel
theorem c_68_46 : m_code 68 46 = some (.iconst 0, 0, 0, 0, 0) := by decide +kernel
theorem c_68_47 : m_code 68 47 = some (.iload_n 3, 0, 0, 0, 0) := by decide +kernel
theorem c_68_48 : m_code 68 48 = some (.aload_n 0, 0, 0, 0, 0) := by decide +kernel
theorem c_68_49 : m_code 68 49 = some (.getfield 37, 5, 4, 0, 182) := by decide +kernel
theorem c_68_52 : m_code 68 52 = some (.getfield 189, 1, 0, 0, 129) := by decide +kernel
theorem c_68_55 : m_code 68 55 = some (.iconst 1, 0, 0, 0, 0) := by decide +kernel
theorem c_68_56 : m_code 68 56 = some (.isub, 0, 0, 0, 0) := by decide +kernel
theorem c_68_57 : m_code 68 57 = some (.invokestatic 52, 81, 273, 1, 0) := by decide +kernel
theorem c_68_60 : m_code 68 60 = some (.invokestatic 60, 79, 279, 1, 0) := by decide +kernel
theorem c_68_63 : m_code 68 63 = some (.aload_n 0, 0, 0, 0, 0) := by decide +kernel
theorem c_68_64 : m_code 68 64 = some (.getfield 37, 5, 4, 0, 182) := by decide +kernel
theorem c_68_67 : m_code 68 67 = some (.iload_n 3, 0, 0, 0, 0) := by decide +kernel
theorem c_68_68 : m_code 68 68 = some (.iload 4, 0, 0, 0, 0) := by decide +kernel
theorem c_68_70 : m_code 68 70 = some (.invokevirtual 192, 19, 587, 1, 0) := by decide +kernel
theorem c_68_73 : m_code 68 73 = some (.ireturn, 0, 0, 0, 0) := by decide +kernel
/-! X5 far -/
theorem c_69_0 : m_code 69 0 = some (.aload_n 0, 0, 0, 0, 0) := by decide +kernel
theorem c_69_1 : m_code 69 1 = some (.iload_n 1, 0, 0, 0, 0) := by decide +kernel
theorem c_69_2 : m_code 69 2 = some (.invokevirtual 48, 76, 201, 1, 0) := by decide +kernel
theorem c_69_5 : m_code 69 5 = some (.astore 5, 0, 0, 0, 0) := by decide +kernel
theorem c_69_7 : m_code 69 7 = some (.aload 5, 0, 0, 0, 0) := by decide +kernel
theorem c_69_9 : m_code 69 9 = some (.iload_n 3, 0, 0, 0, 0) := by decide +kernel
theorem c_69_10 : m_code 69 10 = some (.iload 4, 0, 0, 0, 0) := by decide +kernel
theorem c_69_12 : m_code 69 12 = some (.invokestatic 76, 77, 310, 1, 0) := by decide +kernel
theorem c_69_15 : m_code 69 15 = some (.iconst 0, 0, 0, 0, 0) := by decide +kernel
theorem c_69_16 : m_code 69 16 = some (.iload_n 2, 0, 0, 0, 0) := by decide +kernel
theorem c_69_17 : m_code 69 17 = some (.iconst 2, 0, 0, 0, 0) := by decide +kernel
theorem c_69_18 : m_code 69 18 = some (.invokestatic 52, 81, 273, 1, 0) := by decide +kernel
theorem c_69_21 : m_code 69 21 = some (.invokestatic 60, 79, 279, 1, 0) := by decide +kernel
theorem c_69_24 : m_code 69 24 = some (.aload 5, 0, 0, 0, 0) := by decide +kernel
theorem c_69_26 : m_code 69 26 = some (.iload_n 2, 0, 0, 0, 0) := by decide +kernel
theorem c_69_27 : m_code 69 27 = some (.iload_n 3, 0, 0, 0, 0) := by decide +kernel
theorem c_69_28 : m_code 69 28 = some (.iload 4, 0, 0, 0, 0) := by decide +kernel
theorem c_69_30 : m_code 69 30 = some (.invokestatic 200, 91, 609, 1, 0) := by decide +kernel
theorem c_69_33 : m_code 69 33 = some (.ireturn, 0, 0, 0, 0) := by decide +kernel
/-! X5 carve -/
theorem c_70_0 : m_code 70 0 = some (.aload_n 0, 0, 0, 0, 0) := by decide +kernel
theorem c_70_1 : m_code 70 1 = some (.iload_n 1, 0, 0, 0, 0) := by decide +kernel
theorem c_70_2 : m_code 70 2 = some (.invokevirtual 48, 76, 201, 1, 0) := by decide +kernel
theorem c_70_5 : m_code 70 5 = some (.astore_n 2, 0, 0, 0, 0) := by decide +kernel
theorem c_70_6 : m_code 70 6 = some (.aload_n 2, 0, 0, 0, 0) := by decide +kernel
theorem c_70_7 : m_code 70 7 = some (.getfield 108, 3, 0, 0, 64) := by decide +kernel
theorem c_70_10 : m_code 70 10 = some (.iconst 1, 0, 0, 0, 0) := by decide +kernel
theorem c_70_11 : m_code 70 11 = some (.if_icmp .le 7, 18, 0, 0, 0) := by decide +kernel
theorem c_70_14 : m_code 70 14 = some (.iconst 1, 0, 0, 0, 0) := by decide +kernel
theorem c_70_15 : m_code 70 15 = some (.goto 4, 19, 0, 0, 0) := by decide +kernel
theorem c_70_18 : m_code 70 18 = some (.iconst 0, 0, 0, 0, 0) := by decide +kernel
theorem c_70_19 : m_code 70 19 = some (.invokestatic 124, 80, 379, 1, 0) := by decide +kernel
theorem c_70_22 : m_code 70 22 = some (.aload_n 0, 0, 0, 0, 0) := by decide +kernel
theorem c_70_23 : m_code 70 23 = some (.getfield 44, 5, 5, 0, 183) := by decide +kernel
theorem c_70_26 : m_code 70 26 = some (.aload_n 2, 0, 0, 0, 0) := by decide +kernel
theorem c_70_27 : m_code 70 27 = some (.invokevirtual 203, 24, 626, 1, 0) := by decide +kernel
theorem c_70_30 : m_code 70 30 = some (.aload_n 0, 0, 0, 0, 0) := by decide +kernel
theorem c_70_31 : m_code 70 31 = some (.getfield 44, 5, 5, 0, 183) := by decide +kernel
theorem c_70_34 : m_code 70 34 = some (.aload_n 2, 0, 0, 0, 0) := by decide +kernel
theorem c_70_35 : m_code 70 35 = some (.invokevirtual 205, 28, 645, 1, 0) := by decide +kernel
theorem c_70_38 : m_code 70 38 = some (.aload_n 0, 0, 0, 0, 0) := by decide +kernel
theorem c_70_39 : m_code 70 39 = some (.getfield 44, 5, 5, 0, 183) := by decide +kernel
theorem c_70_42 : m_code 70 42 = some (.getfield 208, 2, 0, 0, 164) := by decide +kernel
theorem c_70_45 : m_code 70 45 = some (.ireturn, 0, 0, 0, 0) := by decide +kernel
/-! X5 widen -/
theorem c_71_0 : m_code 71 0 = some (.aload_n 0, 0, 0, 0, 0) := by decide +kernel
theorem c_71_1 : m_code 71 1 = some (.iload_n 1, 0, 0, 0, 0) := by decide +kernel
theorem c_71_2 : m_code 71 2 = some (.invokevirtual 48, 76, 201, 1, 0) := by decide +kernel
theorem c_71_5 : m_code 71 5 = some (.astore_n 2, 0, 0, 0, 0) := by decide +kernel
theorem c_71_6 : m_code 71 6 = some (.aload_n 2, 0, 0, 0, 0) := by decide +kernel
theorem c_71_7 : m_code 71 7 = some (.getfield 108, 3, 0, 0, 64) := by decide +kernel
theorem c_71_10 : m_code 71 10 = some (.bipush 16, 0, 0, 0, 0) := by decide +kernel
theorem c_71_12 : m_code 71 12 = some (.if_icmp .ge 7, 19, 0, 0, 0) := by decide +kernel
theorem c_71_15 : m_code 71 15 = some (.iconst 1, 0, 0, 0, 0) := by decide +kernel
theorem c_71_16 : m_code 71 16 = some (.goto 4, 20, 0, 0, 0) := by decide +kernel
theorem c_71_19 : m_code 71 19 = some (.iconst 0, 0, 0, 0, 0) := by decide +kernel
theorem c_71_20 : m_code 71 20 = some (.invokestatic 124, 80, 379, 1, 0) := by decide +kernel
theorem c_71_23 : m_code 71 23 = some (.aload_n 0, 0, 0, 0, 0) := by decide +kernel
theorem c_71_24 : m_code 71 24 = some (.getfield 44, 5, 5, 0, 183) := by decide +kernel
theorem c_71_27 : m_code 71 27 = some (.aload_n 2, 0, 0, 0, 0) := by decide +kernel
theorem c_71_28 : m_code 71 28 = some (.invokevirtual 203, 24, 626, 1, 0) := by decide +kernel
theorem c_71_31 : m_code 71 31 = some (.aload_n 0, 0, 0, 0, 0) := by decide +kernel
theorem c_71_32 : m_code 71 32 = some (.getfield 44, 5, 5, 0, 183) := by decide +kernel
theorem c_71_35 : m_code 71 35 = some (.aload_n 2, 0, 0, 0, 0) := by decide +kernel
theorem c_71_36 : m_code 71 36 = some (.invokevirtual 210, 29, 656, 1, 0) := by decide +kernel
theorem c_71_39 : m_code 71 39 = some (.aload_n 0, 0, 0, 0, 0) := by decide +kernel
theorem c_71_40 : m_code 71 40 = some (.getfield 44, 5, 5, 0, 183) := by decide +kernel
theorem c_71_43 : m_code 71 43 = some (.getfield 208, 2, 0, 0, 164) := by decide +kernel
theorem c_71_46 : m_code 71 46 = some (.ireturn, 0, 0, 0, 0) := by decide +kernel
/-! X5 seam -/
theorem c_72_0 : m_code 72 0 = some (.aload_n 0, 0, 0, 0, 0) := by decide +kernel
theorem c_72_1 : m_code 72 1 = some (.iload_n 1, 0, 0, 0, 0) := by decide +kernel
theorem c_72_2 : m_code 72 2 = some (.invokevirtual 48, 76, 201, 1, 0) := by decide +kernel
theorem c_72_5 : m_code 72 5 = some (.astore_n 3, 0, 0, 0, 0) := by decide +kernel
theorem c_72_6 : m_code 72 6 = some (.iconst 0, 0, 0, 0, 0) := by decide +kernel
theorem c_72_7 : m_code 72 7 = some (.iload_n 2, 0, 0, 0, 0) := by decide +kernel
theorem c_72_8 : m_code 72 8 = some (.aload_n 3, 0, 0, 0, 0) := by decide +kernel
theorem c_72_9 : m_code 72 9 = some (.getfield 104, 3, 1, 0, 69) := by decide +kernel
theorem c_72_12 : m_code 72 12 = some (.iconst 1, 0, 0, 0, 0) := by decide +kernel
theorem c_72_13 : m_code 72 13 = some (.isub, 0, 0, 0, 0) := by decide +kernel
theorem c_72_14 : m_code 72 14 = some (.invokestatic 52, 81, 273, 1, 0) := by decide +kernel
theorem c_72_17 : m_code 72 17 = some (.invokestatic 135, 78, 313, 1, 0) := by decide +kernel
theorem c_72_20 : m_code 72 20 = some (.aload_n 0, 0, 0, 0, 0) := by decide +kernel
theorem c_72_21 : m_code 72 21 = some (.getfield 44, 5, 5, 0, 183) := by decide +kernel
theorem c_72_24 : m_code 72 24 = some (.aload_n 3, 0, 0, 0, 0) := by decide +kernel
theorem c_72_25 : m_code 72 25 = some (.invokevirtual 203, 24, 626, 1, 0) := by decide +kernel
theorem c_72_28 : m_code 72 28 = some (.aload_n 0, 0, 0, 0, 0) := by decide +kernel
theorem c_72_29 : m_code 72 29 = some (.getfield 44, 5, 5, 0, 183) := by decide +kernel
theorem c_72_32 : m_code 72 32 = some (.getfield 213, 2, 1, 0, 166) := by decide +kernel
theorem c_72_35 : m_code 72 35 = some (.iload_n 2, 0, 0, 0, 0) := by decide +kernel
theorem c_72_36 : m_code 72 36 = some (.iaload, 0, 0, 0, 0) := by decide +kernel
theorem c_72_37 : m_code 72 37 = some (.ireturn, 0, 0, 0, 0) := by decide +kernel
/-! X5 partsAt -/
theorem c_73_0 : m_code 73 0 = some (.aload_n 0, 0, 0, 0, 0) := by decide +kernel
theorem c_73_1 : m_code 73 1 = some (.iload_n 1, 0, 0, 0, 0) := by decide +kernel
theorem c_73_2 : m_code 73 2 = some (.invokevirtual 48, 76, 201, 1, 0) := by decide +kernel
theorem c_73_5 : m_code 73 5 = some (.astore 4, 0, 0, 0, 0) := by decide +kernel
theorem c_73_7 : m_code 73 7 = some (.iload_n 2, 0, 0, 0, 0) := by decide +kernel
theorem c_73_8 : m_code 73 8 = some (.invokestatic 172, 84, 535, 1, 0) := by decide +kernel
theorem c_73_11 : m_code 73 11 = some (.ifCond .eq 14, 25, 0, 0, 0) := by decide +kernel
theorem c_73_14 : m_code 73 14 = some (.iload_n 3, 0, 0, 0, 0) := by decide +kernel
theorem c_73_15 : m_code 73 15 = some (.invokestatic 56, 82, 276, 1, 0) := by decide +kernel
theorem c_73_18 : m_code 73 18 = some (.ifCond .eq 7, 25, 0, 0, 0) := by decide +kernel
theorem c_73_21 : m_code 73 21 = some (.iconst 1, 0, 0, 0, 0) := by decide +kernel
theorem c_73_22 : m_code 73 22 = some (.goto 4, 26, 0, 0, 0) := by decide +kernel
theorem c_73_25 : m_code 73 25 = some (.iconst 0, 0, 0, 0, 0) := by decide +kernel
theorem c_73_26 : m_code 73 26 = some (.invokestatic 60, 79, 279, 1, 0) := by decide +kernel
theorem c_73_29 : m_code 73 29 = some (.aload_n 0, 0, 0, 0, 0) := by decide +kernel
theorem c_73_30 : m_code 73 30 = some (.aload 4, 0, 0, 0, 0) := by decide +kernel
theorem c_73_32 : m_code 73 32 = some (.iload_n 2, 0, 0, 0, 0) := by decide +kernel
theorem c_73_33 : m_code 73 33 = some (.iload_n 3, 0, 0, 0, 0) := by decide +kernel
theorem c_73_34 : m_code 73 34 = some (.invokevirtual 175, 89, 538, 1, 0) := by decide +kernel
theorem c_73_37 : m_code 73 37 = some (.ireturn, 0, 0, 0, 0) := by decide +kernel
/-! X5 carvedBy -/
theorem c_74_0 : m_code 74 0 = some (.aload_n 0, 0, 0, 0, 0) := by decide +kernel
theorem c_74_1 : m_code 74 1 = some (.iload_n 1, 0, 0, 0, 0) := by decide +kernel
theorem c_74_2 : m_code 74 2 = some (.invokevirtual 48, 76, 201, 1, 0) := by decide +kernel
theorem c_74_5 : m_code 74 5 = some (.astore_n 3, 0, 0, 0, 0) := by decide +kernel
theorem c_74_6 : m_code 74 6 = some (.iconst 0, 0, 0, 0, 0) := by decide +kernel
theorem c_74_7 : m_code 74 7 = some (.iload_n 2, 0, 0, 0, 0) := by decide +kernel
theorem c_74_8 : m_code 74 8 = some (.aload_n 3, 0, 0, 0, 0) := by decide +kernel
theorem c_74_9 : m_code 74 9 = some (.getfield 108, 3, 0, 0, 64) := by decide +kernel
theorem c_74_12 : m_code 74 12 = some (.iconst 1, 0, 0, 0, 0) := by decide +kernel
theorem c_74_13 : m_code 74 13 = some (.isub, 0, 0, 0, 0) := by decide +kernel
theorem c_74_14 : m_code 74 14 = some (.invokestatic 52, 81, 273, 1, 0) := by decide +kernel
theorem c_74_17 : m_code 74 17 = some (.invokestatic 60, 79, 279, 1, 0) := by decide +kernel
theorem c_74_20 : m_code 74 20 = some (.aload_n 0, 0, 0, 0, 0) := by decide +kernel
theorem c_74_21 : m_code 74 21 = some (.aload_n 3, 0, 0, 0, 0) := by decide +kernel
theorem c_74_22 : m_code 74 22 = some (.iload_n 2, 0, 0, 0, 0) := by decide +kernel
theorem c_74_23 : m_code 74 23 = some (.invokevirtual 216, 95, 672, 1, 0) := by decide +kernel
theorem c_74_26 : m_code 74 26 = some (.ireturn, 0, 0, 0, 0) := by decide +kernel
/-! X5 digest -/
theorem c_75_0 : m_code 75 0 = some (.ldc2_w 219, 0, 680, 0, 58080) := by decide +kernel
theorem c_75_3 : m_code 75 3 = some (.lstore_n 1, 0, 0, 0, 0) := by decide +kernel
theorem c_75_4 : m_code 75 4 = some (.iconst 0, 0, 0, 0, 0) := by decide +kernel
theorem c_75_5 : m_code 75 5 = some (.istore_n 3, 0, 0, 0, 0) := by decide +kernel
theorem c_75_6 : m_code 75 6 = some (.iload_n 3, 0, 0, 0, 0) := by decide +kernel
theorem c_75_7 : m_code 75 7 = some (.iconst 4, 0, 0, 0, 0) := by decide +kernel
theorem c_75_8 : m_code 75 8 = some (.if_icmp .ge 40, 48, 0, 0, 0) := by decide +kernel
theorem c_75_11 : m_code 75 11 = some (.aload_n 0, 0, 0, 0, 0) := by decide +kernel
theorem c_75_12 : m_code 75 12 = some (.getfield 11, 5, 0, 0, 178) := by decide +kernel
theorem c_75_15 : m_code 75 15 = some (.iload_n 3, 0, 0, 0, 0) := by decide +kernel
theorem c_75_16 : m_code 75 16 = some (.aaload, 0, 0, 0, 0) := by decide +kernel
theorem c_75_17 : m_code 75 17 = some (.astore 4, 0, 0, 0, 0) := by decide +kernel
theorem c_75_19 : m_code 75 19 = some (.aload_n 0, 0, 0, 0, 0) := by decide +kernel
theorem c_75_20 : m_code 75 20 = some (.lload_n 1, 0, 0, 0, 0) := by decide +kernel
theorem c_75_21 : m_code 75 21 = some (.aload 4, 0, 0, 0, 0) := by decide +kernel
theorem c_75_23 : m_code 75 23 = some (.invokevirtual 221, 97, 681, 1, 0) := by decide +kernel
theorem c_75_26 : m_code 75 26 = some (.lstore_n 1, 0, 0, 0, 0) := by decide +kernel
theorem c_75_27 : m_code 75 27 = some (.aload_n 0, 0, 0, 0, 0) := by decide +kernel
theorem c_75_28 : m_code 75 28 = some (.lload_n 1, 0, 0, 0, 0) := by decide +kernel
theorem c_75_29 : m_code 75 29 = some (.aload 4, 0, 0, 0, 0) := by decide +kernel
theorem c_75_31 : m_code 75 31 = some (.invokevirtual 225, 98, 689, 1, 0) := by decide +kernel
theorem c_75_34 : m_code 75 34 = some (.lstore_n 1, 0, 0, 0, 0) := by decide +kernel
theorem c_75_35 : m_code 75 35 = some (.lload_n 1, 0, 0, 0, 0) := by decide +kernel
theorem c_75_36 : m_code 75 36 = some (.aload 4, 0, 0, 0, 0) := by decide +kernel
theorem c_75_38 : m_code 75 38 = some (.invokestatic 228, 99, 693, 1, 0) := by decide +kernel
theorem c_75_41 : m_code 75 41 = some (.lstore_n 1, 0, 0, 0, 0) := by decide +kernel
theorem c_75_42 : m_code 75 42 = some (.iinc 3 1, 0, 0, 0, 0) := by decide +kernel
theorem c_75_45 : m_code 75 45 = some (.goto (-39), 6, 0, 0, 0) := by decide +kernel
theorem c_75_48 : m_code 75 48 = some (.lload_n 1, 0, 0, 0, 0) := by decide +kernel
theorem c_75_49 : m_code 75 49 = some (.lreturn, 0, 0, 0, 0) := by decide +kernel
/-! X5 sheetAt -/
theorem c_76_0 : m_code 76 0 = some (.iload_n 1, 0, 0, 0, 0) := by decide +kernel
theorem c_76_1 : m_code 76 1 = some (.ifCond .lt 8, 9, 0, 0, 0) := by decide +kernel
theorem c_76_4 : m_code 76 4 = some (.iload_n 1, 0, 0, 0, 0) := by decide +kernel
theorem c_76_5 : m_code 76 5 = some (.iconst 4, 0, 0, 0, 0) := by decide +kernel
theorem c_76_6 : m_code 76 6 = some (.if_icmp .lt 13, 19, 0, 0, 0) := by decide +kernel
theorem c_76_12 : m_code 76 12 = some (.dup, 0, 0, 0, 0) := by decide +kernel
theorem c_76_18 : m_code 76 18 = some (.athrow, 0, 0, 0, 0) := by decide +kernel
theorem c_76_19 : m_code 76 19 = some (.aload_n 0, 0, 0, 0, 0) := by decide +kernel
theorem c_76_20 : m_code 76 20 = some (.getfield 11, 5, 0, 0, 178) := by decide +kernel
theorem c_76_23 : m_code 76 23 = some (.iload_n 1, 0, 0, 0, 0) := by decide +kernel
theorem c_76_24 : m_code 76 24 = some (.aaload, 0, 0, 0, 0) := by decide +kernel
theorem c_76_25 : m_code 76 25 = some (.areturn, 0, 0, 0, 0) := by decide +kernel
/-! X5 needField -/
theorem c_77_0 : m_code 77 0 = some (.iconst 0, 0, 0, 0, 0) := by decide +kernel
theorem c_77_1 : m_code 77 1 = some (.iload_n 1, 0, 0, 0, 0) := by decide +kernel
theorem c_77_2 : m_code 77 2 = some (.aload_n 0, 0, 0, 0, 0) := by decide +kernel
theorem c_77_3 : m_code 77 3 = some (.getfield 108, 3, 0, 0, 64) := by decide +kernel
theorem c_77_6 : m_code 77 6 = some (.iconst 1, 0, 0, 0, 0) := by decide +kernel
theorem c_77_7 : m_code 77 7 = some (.isub, 0, 0, 0, 0) := by decide +kernel
theorem c_77_8 : m_code 77 8 = some (.invokestatic 52, 81, 273, 1, 0) := by decide +kernel
theorem c_77_11 : m_code 77 11 = some (.ifCond .eq 21, 32, 0, 0, 0) := by decide +kernel
theorem c_77_14 : m_code 77 14 = some (.iconst 0, 0, 0, 0, 0) := by decide +kernel
theorem c_77_15 : m_code 77 15 = some (.iload_n 2, 0, 0, 0, 0) := by decide +kernel
theorem c_77_16 : m_code 77 16 = some (.aload_n 0, 0, 0, 0, 0) := by decide +kernel
theorem c_77_17 : m_code 77 17 = some (.getfield 104, 3, 1, 0, 69) := by decide +kernel
theorem c_77_20 : m_code 77 20 = some (.iconst 1, 0, 0, 0, 0) := by decide +kernel
theorem c_77_21 : m_code 77 21 = some (.isub, 0, 0, 0, 0) := by decide +kernel
theorem c_77_22 : m_code 77 22 = some (.invokestatic 52, 81, 273, 1, 0) := by decide +kernel
theorem c_77_25 : m_code 77 25 = some (.ifCond .eq 7, 32, 0, 0, 0) := by decide +kernel
theorem c_77_28 : m_code 77 28 = some (.iconst 1, 0, 0, 0, 0) := by decide +kernel
theorem c_77_29 : m_code 77 29 = some (.goto 4, 33, 0, 0, 0) := by decide +kernel
theorem c_77_32 : m_code 77 32 = some (.iconst 0, 0, 0, 0, 0) := by decide +kernel
theorem c_77_33 : m_code 77 33 = some (.invokestatic 135, 78, 313, 1, 0) := by decide +kernel
theorem c_77_36 : m_code 77 36 = some (.return_, 0, 0, 0, 0) := by decide +kernel
/-! X5 needPlace -/
theorem c_78_0 : m_code 78 0 = some (.iload_n 0, 0, 0, 0, 0) := by decide +kernel
theorem c_78_1 : m_code 78 1 = some (.ifCond .ne 13, 14, 0, 0, 0) := by decide +kernel
theorem c_78_7 : m_code 78 7 = some (.dup, 0, 0, 0, 0) := by decide +kernel
theorem c_78_13 : m_code 78 13 = some (.athrow, 0, 0, 0, 0) := by decide +kernel
theorem c_78_14 : m_code 78 14 = some (.return_, 0, 0, 0, 0) := by decide +kernel
/-! X5 refuseUnless -/
theorem c_79_0 : m_code 79 0 = some (.iload_n 0, 0, 0, 0, 0) := by decide +kernel
theorem c_79_1 : m_code 79 1 = some (.ifCond .ne 13, 14, 0, 0, 0) := by decide +kernel
theorem c_79_7 : m_code 79 7 = some (.dup, 0, 0, 0, 0) := by decide +kernel
theorem c_79_13 : m_code 79 13 = some (.athrow, 0, 0, 0, 0) := by decide +kernel
theorem c_79_14 : m_code 79 14 = some (.return_, 0, 0, 0, 0) := by decide +kernel
/-! X5 needState -/
theorem c_80_0 : m_code 80 0 = some (.iload_n 0, 0, 0, 0, 0) := by decide +kernel
theorem c_80_1 : m_code 80 1 = some (.ifCond .ne 13, 14, 0, 0, 0) := by decide +kernel
theorem c_80_7 : m_code 80 7 = some (.dup, 0, 0, 0, 0) := by decide +kernel
theorem c_80_13 : m_code 80 13 = some (.athrow, 0, 0, 0, 0) := by decide +kernel
theorem c_80_14 : m_code 80 14 = some (.return_, 0, 0, 0, 0) := by decide +kernel
/-! X5 isFrom -/
theorem c_81_0 : m_code 81 0 = some (.iload_n 0, 0, 0, 0, 0) := by decide +kernel
theorem c_81_1 : m_code 81 1 = some (.iload_n 1, 0, 0, 0, 0) := by decide +kernel
theorem c_81_2 : m_code 81 2 = some (.if_icmp .gt 12, 14, 0, 0, 0) := by decide +kernel
theorem c_81_5 : m_code 81 5 = some (.iload_n 1, 0, 0, 0, 0) := by decide +kernel
theorem c_81_6 : m_code 81 6 = some (.iload_n 2, 0, 0, 0, 0) := by decide +kernel
theorem c_81_7 : m_code 81 7 = some (.if_icmp .gt 7, 14, 0, 0, 0) := by decide +kernel
theorem c_81_10 : m_code 81 10 = some (.iconst 1, 0, 0, 0, 0) := by decide +kernel
theorem c_81_11 : m_code 81 11 = some (.goto 4, 15, 0, 0, 0) := by decide +kernel
theorem c_81_14 : m_code 81 14 = some (.iconst 0, 0, 0, 0, 0) := by decide +kernel
theorem c_81_15 : m_code 81 15 = some (.ireturn, 0, 0, 0, 0) := by decide +kernel
/-! X5 isValue -/
theorem c_82_0 : m_code 82 0 = some (.iconst 0, 0, 0, 0, 0) := by decide +kernel
theorem c_82_1 : m_code 82 1 = some (.iload_n 0, 0, 0, 0, 0) := by decide +kernel
theorem c_82_2 : m_code 82 2 = some (.sipush 255, 0, 0, 0, 0) := by decide +kernel
theorem c_82_5 : m_code 82 5 = some (.invokestatic 52, 81, 273, 1, 0) := by decide +kernel
theorem c_82_8 : m_code 82 8 = some (.ireturn, 0, 0, 0, 0) := by decide +kernel
/-! X5 isSlope -/
theorem c_83_0 : m_code 83 0 = some (.bipush (-50), 0, 0, 0, 0) := by decide +kernel
theorem c_83_2 : m_code 83 2 = some (.iload_n 0, 0, 0, 0, 0) := by decide +kernel
theorem c_83_3 : m_code 83 3 = some (.bipush 50, 0, 0, 0, 0) := by decide +kernel
theorem c_83_5 : m_code 83 5 = some (.invokestatic 52, 81, 273, 1, 0) := by decide +kernel
theorem c_83_8 : m_code 83 8 = some (.ireturn, 0, 0, 0, 0) := by decide +kernel
/-! X5 isWays -/
theorem c_84_0 : m_code 84 0 = some (.iload_n 0, 0, 0, 0, 0) := by decide +kernel
theorem c_84_1 : m_code 84 1 = some (.iconst 4, 0, 0, 0, 0) := by decide +kernel
theorem c_84_2 : m_code 84 2 = some (.if_icmp .eq 9, 11, 0, 0, 0) := by decide +kernel
theorem c_84_5 : m_code 84 5 = some (.iload_n 0, 0, 0, 0, 0) := by decide +kernel
theorem c_84_6 : m_code 84 6 = some (.bipush 8, 0, 0, 0, 0) := by decide +kernel
theorem c_84_8 : m_code 84 8 = some (.if_icmp .ne 7, 15, 0, 0, 0) := by decide +kernel
theorem c_84_11 : m_code 84 11 = some (.iconst 1, 0, 0, 0, 0) := by decide +kernel
theorem c_84_12 : m_code 84 12 = some (.goto 4, 16, 0, 0, 0) := by decide +kernel
theorem c_84_15 : m_code 84 15 = some (.iconst 0, 0, 0, 0, 0) := by decide +kernel
theorem c_84_16 : m_code 84 16 = some (.ireturn, 0, 0, 0, 0) := by decide +kernel
/-! X5 changeToNext -/
theorem c_85_0 : m_code 85 0 = some (.aload_n 1, 0, 0, 0, 0) := by decide +kernel
theorem c_85_1 : m_code 85 1 = some (.aload_n 0, 0, 0, 0, 0) := by decide +kernel
theorem c_85_2 : m_code 85 2 = some (.getfield 16, 5, 1, 0, 179) := by decide +kernel
theorem c_85_5 : m_code 85 5 = some (.invokevirtual 121, 37, 348, 1, 0) := by decide +kernel
theorem c_85_8 : m_code 85 8 = some (.istore_n 2, 0, 0, 0, 0) := by decide +kernel
theorem c_85_9 : m_code 85 9 = some (.aload_n 1, 0, 0, 0, 0) := by decide +kernel
theorem c_85_10 : m_code 85 10 = some (.aload_n 0, 0, 0, 0, 0) := by decide +kernel
theorem c_85_11 : m_code 85 11 = some (.getfield 16, 5, 1, 0, 179) := by decide +kernel
theorem c_85_14 : m_code 85 14 = some (.invokevirtual 88, 38, 335, 1, 0) := by decide +kernel
theorem c_85_17 : m_code 85 17 = some (.iload_n 2, 0, 0, 0, 0) := by decide +kernel
theorem c_85_18 : m_code 85 18 = some (.ireturn, 0, 0, 0, 0) := by decide +kernel
/-! X5 turnedSide -/
theorem c_86_0 : m_code 86 0 = some (.iload_n 2, 0, 0, 0, 0) := by decide +kernel
theorem c_86_1 : m_code 86 1 = some (.tableswitch 45 0 3 #[31, 45, 33, 41], 0, 0, 0, 31) := by decide +kernel
theorem c_86_32 : m_code 86 32 = some (.iload_n 1, 0, 0, 0, 0) := by decide +kernel
theorem c_86_33 : m_code 86 33 = some (.ireturn, 0, 0, 0, 0) := by decide +kernel
theorem c_86_34 : m_code 86 34 = some (.iconst 1, 0, 0, 0, 0) := by decide +kernel
theorem c_86_35 : m_code 86 35 = some (.iload_n 0, 0, 0, 0, 0) := by decide +kernel
theorem c_86_36 : m_code 86 36 = some (.iconst 2, 0, 0, 0, 0) := by decide +kernel
theorem c_86_37 : m_code 86 37 = some (.idiv, 0, 0, 0, 0) := by decide +kernel
theorem c_86_38 : m_code 86 38 = some (.invokestatic 97, 0, 378, 3, 0) := by decide +kernel
theorem c_86_41 : m_code 86 41 = some (.ireturn, 0, 0, 0, 0) := by decide +kernel
theorem c_86_42 : m_code 86 42 = some (.iload_n 0, 0, 0, 0, 0) := by decide +kernel
theorem c_86_43 : m_code 86 43 = some (.iconst 2, 0, 0, 0, 0) := by decide +kernel
theorem c_86_44 : m_code 86 44 = some (.imul, 0, 0, 0, 0) := by decide +kernel
theorem c_86_45 : m_code 86 45 = some (.ireturn, 0, 0, 0, 0) := by decide +kernel
theorem c_86_46 : m_code 86 46 = some (.iload_n 0, 0, 0, 0, 0) := by decide +kernel
theorem c_86_47 : m_code 86 47 = some (.ireturn, 0, 0, 0, 0) := by decide +kernel
/-! X5 turnedValue -/
theorem c_87_0 : m_code 87 0 = some (.iload_n 1, 0, 0, 0, 0) := by decide +kernel
theorem c_87_1 : m_code 87 1 = some (.tableswitch 109 0 2 #[27, 41, 55], 0, 0, 0, 27) := by decide +kernel
theorem c_87_28 : m_code 87 28 = some (.aload_n 0, 0, 0, 0, 0) := by decide +kernel
theorem c_87_29 : m_code 87 29 = some (.iload_n 3, 0, 0, 0, 0) := by decide +kernel
theorem c_87_30 : m_code 87 30 = some (.aload_n 0, 0, 0, 0, 0) := by decide +kernel
theorem c_87_31 : m_code 87 31 = some (.getfield 104, 3, 1, 0, 69) := by decide +kernel
theorem c_87_34 : m_code 87 34 = some (.iconst 1, 0, 0, 0, 0) := by decide +kernel
theorem c_87_35 : m_code 87 35 = some (.isub, 0, 0, 0, 0) := by decide +kernel
theorem c_87_36 : m_code 87 36 = some (.iload_n 2, 0, 0, 0, 0) := by decide +kernel
theorem c_87_37 : m_code 87 37 = some (.isub, 0, 0, 0, 0) := by decide +kernel
theorem c_87_38 : m_code 87 38 = some (.invokevirtual 80, 33, 317, 1, 0) := by decide +kernel
theorem c_87_41 : m_code 87 41 = some (.ireturn, 0, 0, 0, 0) := by decide +kernel
theorem c_87_42 : m_code 87 42 = some (.aload_n 0, 0, 0, 0, 0) := by decide +kernel
theorem c_87_43 : m_code 87 43 = some (.aload_n 0, 0, 0, 0, 0) := by decide +kernel
theorem c_87_44 : m_code 87 44 = some (.getfield 108, 3, 0, 0, 64) := by decide +kernel
theorem c_87_47 : m_code 87 47 = some (.iconst 1, 0, 0, 0, 0) := by decide +kernel
theorem c_87_48 : m_code 87 48 = some (.isub, 0, 0, 0, 0) := by decide +kernel
theorem c_87_49 : m_code 87 49 = some (.iload_n 2, 0, 0, 0, 0) := by decide +kernel
theorem c_87_50 : m_code 87 50 = some (.isub, 0, 0, 0, 0) := by decide +kernel
theorem c_87_51 : m_code 87 51 = some (.iload_n 3, 0, 0, 0, 0) := by decide +kernel
theorem c_87_52 : m_code 87 52 = some (.invokevirtual 80, 33, 317, 1, 0) := by decide +kernel
theorem c_87_55 : m_code 87 55 = some (.ireturn, 0, 0, 0, 0) := by decide +kernel
theorem c_87_56 : m_code 87 56 = some (.aload_n 0, 0, 0, 0, 0) := by decide +kernel
theorem c_87_57 : m_code 87 57 = some (.iconst 2, 0, 0, 0, 0) := by decide +kernel
theorem c_87_58 : m_code 87 58 = some (.iload_n 2, 0, 0, 0, 0) := by decide +kernel
theorem c_87_59 : m_code 87 59 = some (.imul, 0, 0, 0, 0) := by decide +kernel
theorem c_87_60 : m_code 87 60 = some (.iconst 2, 0, 0, 0, 0) := by decide +kernel
theorem c_87_61 : m_code 87 61 = some (.iload_n 3, 0, 0, 0, 0) := by decide +kernel
theorem c_87_62 : m_code 87 62 = some (.imul, 0, 0, 0, 0) := by decide +kernel
theorem c_87_63 : m_code 87 63 = some (.invokevirtual 80, 33, 317, 1, 0) := by decide +kernel
theorem c_87_66 : m_code 87 66 = some (.aload_n 0, 0, 0, 0, 0) := by decide +kernel
theorem c_87_67 : m_code 87 67 = some (.iconst 2, 0, 0, 0, 0) := by decide +kernel
theorem c_87_68 : m_code 87 68 = some (.iload_n 2, 0, 0, 0, 0) := by decide +kernel
theorem c_87_69 : m_code 87 69 = some (.imul, 0, 0, 0, 0) := by decide +kernel
theorem c_87_70 : m_code 87 70 = some (.iconst 1, 0, 0, 0, 0) := by decide +kernel
theorem c_87_71 : m_code 87 71 = some (.iadd, 0, 0, 0, 0) := by decide +kernel
theorem c_87_72 : m_code 87 72 = some (.iconst 2, 0, 0, 0, 0) := by decide +kernel
theorem c_87_73 : m_code 87 73 = some (.iload_n 3, 0, 0, 0, 0) := by decide +kernel
theorem c_87_74 : m_code 87 74 = some (.imul, 0, 0, 0, 0) := by decide +kernel
theorem c_87_75 : m_code 87 75 = some (.invokevirtual 80, 33, 317, 1, 0) := by decide +kernel
theorem c_87_78 : m_code 87 78 = some (.iadd, 0, 0, 0, 0) := by decide +kernel
theorem c_87_79 : m_code 87 79 = some (.aload_n 0, 0, 0, 0, 0) := by decide +kernel
theorem c_87_80 : m_code 87 80 = some (.iconst 2, 0, 0, 0, 0) := by decide +kernel
theorem c_87_81 : m_code 87 81 = some (.iload_n 2, 0, 0, 0, 0) := by decide +kernel
theorem c_87_82 : m_code 87 82 = some (.imul, 0, 0, 0, 0) := by decide +kernel
theorem c_87_83 : m_code 87 83 = some (.iconst 2, 0, 0, 0, 0) := by decide +kernel
theorem c_87_84 : m_code 87 84 = some (.iload_n 3, 0, 0, 0, 0) := by decide +kernel
theorem c_87_85 : m_code 87 85 = some (.imul, 0, 0, 0, 0) := by decide +kernel
theorem c_87_86 : m_code 87 86 = some (.iconst 1, 0, 0, 0, 0) := by decide +kernel
theorem c_87_87 : m_code 87 87 = some (.iadd, 0, 0, 0, 0) := by decide +kernel
theorem c_87_88 : m_code 87 88 = some (.invokevirtual 80, 33, 317, 1, 0) := by decide +kernel
theorem c_87_91 : m_code 87 91 = some (.iadd, 0, 0, 0, 0) := by decide +kernel
theorem c_87_92 : m_code 87 92 = some (.aload_n 0, 0, 0, 0, 0) := by decide +kernel
theorem c_87_93 : m_code 87 93 = some (.iconst 2, 0, 0, 0, 0) := by decide +kernel
theorem c_87_94 : m_code 87 94 = some (.iload_n 2, 0, 0, 0, 0) := by decide +kernel
theorem c_87_95 : m_code 87 95 = some (.imul, 0, 0, 0, 0) := by decide +kernel
theorem c_87_96 : m_code 87 96 = some (.iconst 1, 0, 0, 0, 0) := by decide +kernel
theorem c_87_97 : m_code 87 97 = some (.iadd, 0, 0, 0, 0) := by decide +kernel
theorem c_87_98 : m_code 87 98 = some (.iconst 2, 0, 0, 0, 0) := by decide +kernel
theorem c_87_99 : m_code 87 99 = some (.iload_n 3, 0, 0, 0, 0) := by decide +kernel
theorem c_87_100 : m_code 87 100 = some (.imul, 0, 0, 0, 0) := by decide +kernel
theorem c_87_101 : m_code 87 101 = some (.iconst 1, 0, 0, 0, 0) := by decide +kernel
theorem c_87_102 : m_code 87 102 = some (.iadd, 0, 0, 0, 0) := by decide +kernel
theorem c_87_103 : m_code 87 103 = some (.invokevirtual 80, 33, 317, 1, 0) := by decide +kernel
theorem c_87_106 : m_code 87 106 = some (.iadd, 0, 0, 0, 0) := by decide +kernel
theorem c_87_107 : m_code 87 107 = some (.iconst 4, 0, 0, 0, 0) := by decide +kernel
theorem c_87_108 : m_code 87 108 = some (.idiv, 0, 0, 0, 0) := by decide +kernel
theorem c_87_109 : m_code 87 109 = some (.ireturn, 0, 0, 0, 0) := by decide +kernel
theorem c_87_110 : m_code 87 110 = some (.aload_n 0, 0, 0, 0, 0) := by decide +kernel
theorem c_87_111 : m_code 87 111 = some (.iload_n 2, 0, 0, 0, 0) := by decide +kernel
theorem c_87_112 : m_code 87 112 = some (.iconst 2, 0, 0, 0, 0) := by decide +kernel
theorem c_87_113 : m_code 87 113 = some (.idiv, 0, 0, 0, 0) := by decide +kernel
theorem c_87_114 : m_code 87 114 = some (.iload_n 3, 0, 0, 0, 0) := by decide +kernel
theorem c_87_115 : m_code 87 115 = some (.iconst 2, 0, 0, 0, 0) := by decide +kernel
theorem c_87_116 : m_code 87 116 = some (.idiv, 0, 0, 0, 0) := by decide +kernel
theorem c_87_117 : m_code 87 117 = some (.invokevirtual 80, 33, 317, 1, 0) := by decide +kernel
theorem c_87_120 : m_code 87 120 = some (.ireturn, 0, 0, 0, 0) := by decide +kernel
/-! X5 factOf -/
theorem c_88_0 : m_code 88 0 = some (.aload_n 0, 0, 0, 0, 0) := by decide +kernel
theorem c_88_1 : m_code 88 1 = some (.getfield 30, 5, 3, 0, 181) := by decide +kernel
theorem c_88_4 : m_code 88 4 = some (.aload_n 1, 0, 0, 0, 0) := by decide +kernel
theorem c_88_5 : m_code 88 5 = some (.invokevirtual 151, 40, 456, 1, 0) := by decide +kernel
theorem c_88_8 : m_code 88 8 = some (.iload_n 2, 0, 0, 0, 0) := by decide +kernel
theorem c_88_9 : m_code 88 9 = some (.tableswitch 66 0 4 #[35, 40, 45, 53, 61], 0, 0, 0, 35) := by decide +kernel
theorem c_88_44 : m_code 88 44 = some (.aload_n 1, 0, 0, 0, 0) := by decide +kernel
theorem c_88_45 : m_code 88 45 = some (.getfield 108, 3, 0, 0, 64) := by decide +kernel
theorem c_88_48 : m_code 88 48 = some (.ireturn, 0, 0, 0, 0) := by decide +kernel
theorem c_88_49 : m_code 88 49 = some (.aload_n 1, 0, 0, 0, 0) := by decide +kernel
theorem c_88_50 : m_code 88 50 = some (.getfield 104, 3, 1, 0, 69) := by decide +kernel
theorem c_88_53 : m_code 88 53 = some (.ireturn, 0, 0, 0, 0) := by decide +kernel
theorem c_88_54 : m_code 88 54 = some (.aload_n 0, 0, 0, 0, 0) := by decide +kernel
theorem c_88_55 : m_code 88 55 = some (.getfield 30, 5, 3, 0, 181) := by decide +kernel
theorem c_88_58 : m_code 88 58 = some (.invokevirtual 250, 47, 514, 1, 0) := by decide +kernel
theorem c_88_61 : m_code 88 61 = some (.ireturn, 0, 0, 0, 0) := by decide +kernel
theorem c_88_62 : m_code 88 62 = some (.aload_n 0, 0, 0, 0, 0) := by decide +kernel
theorem c_88_63 : m_code 88 63 = some (.getfield 30, 5, 3, 0, 181) := by decide +kernel
theorem c_88_66 : m_code 88 66 = some (.invokevirtual 253, 48, 515, 1, 0) := by decide +kernel
theorem c_88_69 : m_code 88 69 = some (.ireturn, 0, 0, 0, 0) := by decide +kernel
theorem c_88_70 : m_code 88 70 = some (.aload_n 1, 0, 0, 0, 0) := by decide +kernel
theorem c_88_71 : m_code 88 71 = some (.invokevirtual 114, 35, 359, 1, 0) := by decide +kernel
theorem c_88_74 : m_code 88 74 = some (.ireturn, 0, 0, 0, 0) := by decide +kernel
theorem c_88_75 : m_code 88 75 = some (.aload_n 0, 0, 0, 0, 0) := by decide +kernel
theorem c_88_76 : m_code 88 76 = some (.getfield 30, 5, 3, 0, 181) := by decide +kernel
theorem c_88_79 : m_code 88 79 = some (.invokevirtual 256, 50, 516, 1, 0) := by decide +kernel
theorem c_88_82 : m_code 88 82 = some (.ireturn, 0, 0, 0, 0) := by decide +kernel
/-! X5 partsFrom -/
theorem c_89_0 : m_code 89 0 = some (.aload_n 0, 0, 0, 0, 0) := by decide +kernel
theorem c_89_1 : m_code 89 1 = some (.getfield 37, 5, 4, 0, 182) := by decide +kernel
theorem c_89_4 : m_code 89 4 = some (.aload_n 1, 0, 0, 0, 0) := by decide +kernel
theorem c_89_5 : m_code 89 5 = some (.iload_n 2, 0, 0, 0, 0) := by decide +kernel
theorem c_89_6 : m_code 89 6 = some (.iload_n 3, 0, 0, 0, 0) := by decide +kernel
theorem c_89_7 : m_code 89 7 = some (.iconst 1, 0, 0, 0, 0) := by decide +kernel
theorem c_89_8 : m_code 89 8 = some (.invokevirtual 182, 12, 542, 1, 0) := by decide +kernel
theorem c_89_11 : m_code 89 11 = some (.aload_n 0, 0, 0, 0, 0) := by decide +kernel
theorem c_89_12 : m_code 89 12 = some (.getfield 37, 5, 4, 0, 182) := by decide +kernel
theorem c_89_15 : m_code 89 15 = some (.getfield 189, 1, 0, 0, 129) := by decide +kernel
theorem c_89_18 : m_code 89 18 = some (.ireturn, 0, 0, 0, 0) := by decide +kernel
/-! X5 holesOf -/
theorem c_90_0 : m_code 90 0 = some (.iload_n 2, 0, 0, 0, 0) := by decide +kernel
theorem c_90_1 : m_code 90 1 = some (.iconst 4, 0, 0, 0, 0) := by decide +kernel
theorem c_90_2 : m_code 90 2 = some (.if_icmp .ne 8, 10, 0, 0, 0) := by decide +kernel
theorem c_90_5 : m_code 90 5 = some (.bipush 8, 0, 0, 0, 0) := by decide +kernel
theorem c_90_7 : m_code 90 7 = some (.goto 4, 11, 0, 0, 0) := by decide +kernel
theorem c_90_10 : m_code 90 10 = some (.iconst 4, 0, 0, 0, 0) := by decide +kernel
theorem c_90_11 : m_code 90 11 = some (.istore_n 3, 0, 0, 0, 0) := by decide +kernel
theorem c_90_12 : m_code 90 12 = some (.aload_n 0, 0, 0, 0, 0) := by decide +kernel
theorem c_90_13 : m_code 90 13 = some (.getfield 37, 5, 4, 0, 182) := by decide +kernel
theorem c_90_16 : m_code 90 16 = some (.aload_n 1, 0, 0, 0, 0) := by decide +kernel
theorem c_90_17 : m_code 90 17 = some (.iload_n 3, 0, 0, 0, 0) := by decide +kernel
theorem c_90_18 : m_code 90 18 = some (.sipush 128, 0, 0, 0, 0) := by decide +kernel
theorem c_90_21 : m_code 90 21 = some (.iconst 0, 0, 0, 0, 0) := by decide +kernel
theorem c_90_22 : m_code 90 22 = some (.invokevirtual 182, 12, 542, 1, 0) := by decide +kernel
theorem c_90_25 : m_code 90 25 = some (.aload_n 0, 0, 0, 0, 0) := by decide +kernel
theorem c_90_26 : m_code 90 26 = some (.getfield 37, 5, 4, 0, 182) := by decide +kernel
theorem c_90_29 : m_code 90 29 = some (.invokevirtual 259, 18, 574, 1, 0) := by decide +kernel
theorem c_90_32 : m_code 90 32 = some (.ireturn, 0, 0, 0, 0) := by decide +kernel
/-! X5 farOf -/
theorem c_91_0 : m_code 91 0 = some (.aload_n 0, 0, 0, 0, 0) := by decide +kernel
theorem c_91_1 : m_code 91 1 = some (.iload_n 2, 0, 0, 0, 0) := by decide +kernel
theorem c_91_2 : m_code 91 2 = some (.iload_n 3, 0, 0, 0, 0) := by decide +kernel
theorem c_91_3 : m_code 91 3 = some (.invokevirtual 80, 33, 317, 1, 0) := by decide +kernel
theorem c_91_6 : m_code 91 6 = some (.sipush 128, 0, 0, 0, 0) := by decide +kernel
theorem c_91_9 : m_code 91 9 = some (.if_icmp .ge 5, 14, 0, 0, 0) := by decide +kernel
theorem c_91_12 : m_code 91 12 = some (.iconst 0, 0, 0, 0, 0) := by decide +kernel
theorem c_91_13 : m_code 91 13 = some (.ireturn, 0, 0, 0, 0) := by decide +kernel
theorem c_91_14 : m_code 91 14 = some (.aload_n 0, 0, 0, 0, 0) := by decide +kernel
theorem c_91_15 : m_code 91 15 = some (.iload_n 1, 0, 0, 0, 0) := by decide +kernel
theorem c_91_16 : m_code 91 16 = some (.iload_n 2, 0, 0, 0, 0) := by decide +kernel
theorem c_91_17 : m_code 91 17 = some (.iload_n 3, 0, 0, 0, 0) := by decide +kernel
theorem c_91_18 : m_code 91 18 = some (.invokestatic 262, 92, 612, 1, 0) := by decide +kernel
theorem c_91_21 : m_code 91 21 = some (.istore 4, 0, 0, 0, 0) := by decide +kernel
theorem c_91_23 : m_code 91 23 = some (.iload 4, 0, 0, 0, 0) := by decide +kernel
theorem c_91_25 : m_code 91 25 = some (.ifCond .le 8, 33, 0, 0, 0) := by decide +kernel
theorem c_91_28 : m_code 91 28 = some (.iload 4, 0, 0, 0, 0) := by decide +kernel
theorem c_91_30 : m_code 91 30 = some (.goto 10, 40, 0, 0, 0) := by decide +kernel
theorem c_91_33 : m_code 91 33 = some (.aload_n 0, 0, 0, 0, 0) := by decide +kernel
theorem c_91_34 : m_code 91 34 = some (.iload_n 1, 0, 0, 0, 0) := by decide +kernel
theorem c_91_35 : m_code 91 35 = some (.iload_n 2, 0, 0, 0, 0) := by decide +kernel
theorem c_91_36 : m_code 91 36 = some (.iload_n 3, 0, 0, 0, 0) := by decide +kernel
theorem c_91_37 : m_code 91 37 = some (.invokestatic 265, 93, 619, 1, 0) := by decide +kernel
theorem c_91_40 : m_code 91 40 = some (.ireturn, 0, 0, 0, 0) := by decide +kernel
/-! X5 farWithin -/
theorem c_92_0 : m_code 92 0 = some (.iconst 0, 0, 0, 0, 0) := by decide +kernel
theorem c_92_1 : m_code 92 1 = some (.istore 4, 0, 0, 0, 0) := by decide +kernel
theorem c_92_3 : m_code 92 3 = some (.iconst 0, 0, 0, 0, 0) := by decide +kernel
theorem c_92_4 : m_code 92 4 = some (.istore 5, 0, 0, 0, 0) := by decide +kernel
theorem c_92_6 : m_code 92 6 = some (.iload 5, 0, 0, 0, 0) := by decide +kernel
theorem c_92_8 : m_code 92 8 = some (.aload_n 0, 0, 0, 0, 0) := by decide +kernel
theorem c_92_9 : m_code 92 9 = some (.getfield 104, 3, 1, 0, 69) := by decide +kernel
theorem c_92_12 : m_code 92 12 = some (.if_icmp .ge 74, 86, 0, 0, 0) := by decide +kernel
theorem c_92_15 : m_code 92 15 = some (.iconst 0, 0, 0, 0, 0) := by decide +kernel
theorem c_92_16 : m_code 92 16 = some (.istore 6, 0, 0, 0, 0) := by decide +kernel
theorem c_92_18 : m_code 92 18 = some (.iload 6, 0, 0, 0, 0) := by decide +kernel
theorem c_92_20 : m_code 92 20 = some (.aload_n 0, 0, 0, 0, 0) := by decide +kernel
theorem c_92_21 : m_code 92 21 = some (.getfield 108, 3, 0, 0, 64) := by decide +kernel
theorem c_92_24 : m_code 92 24 = some (.if_icmp .ge 56, 80, 0, 0, 0) := by decide +kernel
theorem c_92_27 : m_code 92 27 = some (.aload_n 0, 0, 0, 0, 0) := by decide +kernel
theorem c_92_28 : m_code 92 28 = some (.iload 6, 0, 0, 0, 0) := by decide +kernel
theorem c_92_30 : m_code 92 30 = some (.iload 5, 0, 0, 0, 0) := by decide +kernel
theorem c_92_32 : m_code 92 32 = some (.invokevirtual 80, 33, 317, 1, 0) := by decide +kernel
theorem c_92_35 : m_code 92 35 = some (.sipush 128, 0, 0, 0, 0) := by decide +kernel
theorem c_92_38 : m_code 92 38 = some (.if_icmp .ge 36, 74, 0, 0, 0) := by decide +kernel
theorem c_92_41 : m_code 92 41 = some (.iload_n 1, 0, 0, 0, 0) := by decide +kernel
theorem c_92_42 : m_code 92 42 = some (.iload 6, 0, 0, 0, 0) := by decide +kernel
theorem c_92_44 : m_code 92 44 = some (.iload_n 2, 0, 0, 0, 0) := by decide +kernel
theorem c_92_45 : m_code 92 45 = some (.isub, 0, 0, 0, 0) := by decide +kernel
theorem c_92_46 : m_code 92 46 = some (.iload 5, 0, 0, 0, 0) := by decide +kernel
theorem c_92_48 : m_code 92 48 = some (.iload_n 3, 0, 0, 0, 0) := by decide +kernel
theorem c_92_49 : m_code 92 49 = some (.isub, 0, 0, 0, 0) := by decide +kernel
theorem c_92_50 : m_code 92 50 = some (.invokestatic 268, 94, 615, 1, 0) := by decide +kernel
theorem c_92_53 : m_code 92 53 = some (.istore 7, 0, 0, 0, 0) := by decide +kernel
theorem c_92_55 : m_code 92 55 = some (.iload 4, 0, 0, 0, 0) := by decide +kernel
theorem c_92_57 : m_code 92 57 = some (.ifCond .ne 8, 65, 0, 0, 0) := by decide +kernel
theorem c_92_60 : m_code 92 60 = some (.iload 7, 0, 0, 0, 0) := by decide +kernel
theorem c_92_62 : m_code 92 62 = some (.goto 10, 72, 0, 0, 0) := by decide +kernel
theorem c_92_65 : m_code 92 65 = some (.iload 4, 0, 0, 0, 0) := by decide +kernel
theorem c_92_67 : m_code 92 67 = some (.iload 7, 0, 0, 0, 0) := by decide +kernel
theorem c_92_69 : m_code 92 69 = some (.invokestatic 92, 0, 618, 4, 0) := by decide +kernel
theorem c_92_72 : m_code 92 72 = some (.istore 4, 0, 0, 0, 0) := by decide +kernel
theorem c_92_74 : m_code 92 74 = some (.iinc 6 1, 0, 0, 0, 0) := by decide +kernel
theorem c_92_77 : m_code 92 77 = some (.goto (-59), 18, 0, 0, 0) := by decide +kernel
theorem c_92_80 : m_code 92 80 = some (.iinc 5 1, 0, 0, 0, 0) := by decide +kernel
theorem c_92_83 : m_code 92 83 = some (.goto (-77), 6, 0, 0, 0) := by decide +kernel
theorem c_92_86 : m_code 92 86 = some (.iload 4, 0, 0, 0, 0) := by decide +kernel
theorem c_92_88 : m_code 92 88 = some (.ireturn, 0, 0, 0, 0) := by decide +kernel
/-! X5 farToOutside -/
theorem c_93_0 : m_code 93 0 = some (.iload_n 2, 0, 0, 0, 0) := by decide +kernel
theorem c_93_1 : m_code 93 1 = some (.iconst 1, 0, 0, 0, 0) := by decide +kernel
theorem c_93_2 : m_code 93 2 = some (.iadd, 0, 0, 0, 0) := by decide +kernel
theorem c_93_3 : m_code 93 3 = some (.aload_n 0, 0, 0, 0, 0) := by decide +kernel
theorem c_93_4 : m_code 93 4 = some (.getfield 108, 3, 0, 0, 64) := by decide +kernel
theorem c_93_7 : m_code 93 7 = some (.iload_n 2, 0, 0, 0, 0) := by decide +kernel
theorem c_93_8 : m_code 93 8 = some (.isub, 0, 0, 0, 0) := by decide +kernel
theorem c_93_9 : m_code 93 9 = some (.invokestatic 92, 0, 618, 4, 0) := by decide +kernel
theorem c_93_12 : m_code 93 12 = some (.istore 4, 0, 0, 0, 0) := by decide +kernel
theorem c_93_14 : m_code 93 14 = some (.iload_n 3, 0, 0, 0, 0) := by decide +kernel
theorem c_93_15 : m_code 93 15 = some (.iconst 1, 0, 0, 0, 0) := by decide +kernel
theorem c_93_16 : m_code 93 16 = some (.iadd, 0, 0, 0, 0) := by decide +kernel
theorem c_93_17 : m_code 93 17 = some (.aload_n 0, 0, 0, 0, 0) := by decide +kernel
theorem c_93_18 : m_code 93 18 = some (.getfield 104, 3, 1, 0, 69) := by decide +kernel
theorem c_93_21 : m_code 93 21 = some (.iload_n 3, 0, 0, 0, 0) := by decide +kernel
theorem c_93_22 : m_code 93 22 = some (.isub, 0, 0, 0, 0) := by decide +kernel
theorem c_93_23 : m_code 93 23 = some (.invokestatic 92, 0, 618, 4, 0) := by decide +kernel
theorem c_93_26 : m_code 93 26 = some (.istore 5, 0, 0, 0, 0) := by decide +kernel
theorem c_93_28 : m_code 93 28 = some (.iload_n 1, 0, 0, 0, 0) := by decide +kernel
theorem c_93_29 : m_code 93 29 = some (.iload 4, 0, 0, 0, 0) := by decide +kernel
theorem c_93_31 : m_code 93 31 = some (.iload 5, 0, 0, 0, 0) := by decide +kernel
theorem c_93_33 : m_code 93 33 = some (.invokestatic 92, 0, 618, 4, 0) := by decide +kernel
theorem c_93_36 : m_code 93 36 = some (.iconst 0, 0, 0, 0, 0) := by decide +kernel
theorem c_93_37 : m_code 93 37 = some (.invokestatic 268, 94, 615, 1, 0) := by decide +kernel
theorem c_93_40 : m_code 93 40 = some (.ireturn, 0, 0, 0, 0) := by decide +kernel
/-! X5 distance -/
theorem c_94_0 : m_code 94 0 = some (.iload_n 0, 0, 0, 0, 0) := by decide +kernel
theorem c_94_1 : m_code 94 1 = some (.lookupswitch 49 #[(0, 27), (1, 37)], 0, 0, 0, 27) := by decide +kernel
theorem c_94_28 : m_code 94 28 = some (.iload_n 1, 0, 0, 0, 0) := by decide +kernel
theorem c_94_29 : m_code 94 29 = some (.invokestatic 169, 0, 530, 5, 0) := by decide +kernel
theorem c_94_32 : m_code 94 32 = some (.iload_n 2, 0, 0, 0, 0) := by decide +kernel
theorem c_94_33 : m_code 94 33 = some (.invokestatic 169, 0, 530, 5, 0) := by decide +kernel
theorem c_94_36 : m_code 94 36 = some (.iadd, 0, 0, 0, 0) := by decide +kernel
theorem c_94_37 : m_code 94 37 = some (.ireturn, 0, 0, 0, 0) := by decide +kernel
theorem c_94_38 : m_code 94 38 = some (.iload_n 1, 0, 0, 0, 0) := by decide +kernel
theorem c_94_39 : m_code 94 39 = some (.invokestatic 169, 0, 530, 5, 0) := by decide +kernel
theorem c_94_42 : m_code 94 42 = some (.iload_n 2, 0, 0, 0, 0) := by decide +kernel
theorem c_94_43 : m_code 94 43 = some (.invokestatic 169, 0, 530, 5, 0) := by decide +kernel
theorem c_94_46 : m_code 94 46 = some (.invokestatic 97, 0, 378, 3, 0) := by decide +kernel
theorem c_94_49 : m_code 94 49 = some (.ireturn, 0, 0, 0, 0) := by decide +kernel
theorem c_94_50 : m_code 94 50 = some (.iload_n 1, 0, 0, 0, 0) := by decide +kernel
theorem c_94_51 : m_code 94 51 = some (.iload_n 1, 0, 0, 0, 0) := by decide +kernel
theorem c_94_52 : m_code 94 52 = some (.imul, 0, 0, 0, 0) := by decide +kernel
theorem c_94_53 : m_code 94 53 = some (.iload_n 2, 0, 0, 0, 0) := by decide +kernel
theorem c_94_54 : m_code 94 54 = some (.iload_n 2, 0, 0, 0, 0) := by decide +kernel
theorem c_94_55 : m_code 94 55 = some (.imul, 0, 0, 0, 0) := by decide +kernel
theorem c_94_56 : m_code 94 56 = some (.iadd, 0, 0, 0, 0) := by decide +kernel
theorem c_94_57 : m_code 94 57 = some (.ireturn, 0, 0, 0, 0) := by decide +kernel
/-! X5 costOfCarving -/
theorem c_95_0 : m_code 95 0 = some (.aload_n 0, 0, 0, 0, 0) := by decide +kernel
theorem c_95_1 : m_code 95 1 = some (.getfield 16, 5, 1, 0, 179) := by decide +kernel
theorem c_95_4 : m_code 95 4 = some (.aload_n 1, 0, 0, 0, 0) := by decide +kernel
theorem c_95_5 : m_code 95 5 = some (.invokevirtual 88, 38, 335, 1, 0) := by decide +kernel
theorem c_95_8 : m_code 95 8 = some (.iconst 0, 0, 0, 0, 0) := by decide +kernel
theorem c_95_9 : m_code 95 9 = some (.istore_n 3, 0, 0, 0, 0) := by decide +kernel
theorem c_95_10 : m_code 95 10 = some (.iconst 0, 0, 0, 0, 0) := by decide +kernel
theorem c_95_11 : m_code 95 11 = some (.istore 4, 0, 0, 0, 0) := by decide +kernel
theorem c_95_13 : m_code 95 13 = some (.iload 4, 0, 0, 0, 0) := by decide +kernel
theorem c_95_15 : m_code 95 15 = some (.iload_n 2, 0, 0, 0, 0) := by decide +kernel
theorem c_95_16 : m_code 95 16 = some (.if_icmp .ge 41, 57, 0, 0, 0) := by decide +kernel
theorem c_95_19 : m_code 95 19 = some (.aload_n 0, 0, 0, 0, 0) := by decide +kernel
theorem c_95_20 : m_code 95 20 = some (.getfield 44, 5, 5, 0, 183) := by decide +kernel
theorem c_95_23 : m_code 95 23 = some (.aload_n 0, 0, 0, 0, 0) := by decide +kernel
theorem c_95_24 : m_code 95 24 = some (.getfield 16, 5, 1, 0, 179) := by decide +kernel
theorem c_95_27 : m_code 95 27 = some (.invokevirtual 203, 24, 626, 1, 0) := by decide +kernel
theorem c_95_30 : m_code 95 30 = some (.aload_n 0, 0, 0, 0, 0) := by decide +kernel
theorem c_95_31 : m_code 95 31 = some (.getfield 44, 5, 5, 0, 183) := by decide +kernel
theorem c_95_34 : m_code 95 34 = some (.aload_n 0, 0, 0, 0, 0) := by decide +kernel
theorem c_95_35 : m_code 95 35 = some (.getfield 16, 5, 1, 0, 179) := by decide +kernel
theorem c_95_38 : m_code 95 38 = some (.invokevirtual 205, 28, 645, 1, 0) := by decide +kernel
theorem c_95_41 : m_code 95 41 = some (.iload_n 3, 0, 0, 0, 0) := by decide +kernel
theorem c_95_42 : m_code 95 42 = some (.aload_n 0, 0, 0, 0, 0) := by decide +kernel
theorem c_95_43 : m_code 95 43 = some (.getfield 44, 5, 5, 0, 183) := by decide +kernel
theorem c_95_46 : m_code 95 46 = some (.getfield 208, 2, 0, 0, 164) := by decide +kernel
theorem c_95_49 : m_code 95 49 = some (.iadd, 0, 0, 0, 0) := by decide +kernel
theorem c_95_50 : m_code 95 50 = some (.istore_n 3, 0, 0, 0, 0) := by decide +kernel
theorem c_95_51 : m_code 95 51 = some (.iinc 4 1, 0, 0, 0, 0) := by decide +kernel
theorem c_95_54 : m_code 95 54 = some (.goto (-41), 13, 0, 0, 0) := by decide +kernel
theorem c_95_57 : m_code 95 57 = some (.iload_n 3, 0, 0, 0, 0) := by decide +kernel
theorem c_95_58 : m_code 95 58 = some (.ireturn, 0, 0, 0, 0) := by decide +kernel
/-! X5 digestWith -/
theorem c_96_0 : m_code 96 0 = some (.lload_n 0, 0, 0, 0, 0) := by decide +kernel
theorem c_96_1 : m_code 96 1 = some (.ldc2_w 271, 0, 688, 0, 31) := by decide +kernel
theorem c_96_4 : m_code 96 4 = some (.lmul, 0, 0, 0, 0) := by decide +kernel
theorem c_96_5 : m_code 96 5 = some (.iload_n 2, 0, 0, 0, 0) := by decide +kernel
theorem c_96_6 : m_code 96 6 = some (.i2l, 0, 0, 0, 0) := by decide +kernel
theorem c_96_7 : m_code 96 7 = some (.ladd, 0, 0, 0, 0) := by decide +kernel
theorem c_96_8 : m_code 96 8 = some (.lreturn, 0, 0, 0, 0) := by decide +kernel
/-! X5 digestFacts -/
theorem c_97_0 : m_code 97 0 = some (.lload_n 1, 0, 0, 0, 0) := by decide +kernel
theorem c_97_1 : m_code 97 1 = some (.lstore 4, 0, 0, 0, 0) := by decide +kernel
theorem c_97_3 : m_code 97 3 = some (.iconst 0, 0, 0, 0, 0) := by decide +kernel
theorem c_97_4 : m_code 97 4 = some (.istore 6, 0, 0, 0, 0) := by decide +kernel
theorem c_97_6 : m_code 97 6 = some (.iload 6, 0, 0, 0, 0) := by decide +kernel
theorem c_97_8 : m_code 97 8 = some (.iconst 5, 0, 0, 0, 0) := by decide +kernel
theorem c_97_9 : m_code 97 9 = some (.if_icmp .gt 23, 32, 0, 0, 0) := by decide +kernel
theorem c_97_12 : m_code 97 12 = some (.lload 4, 0, 0, 0, 0) := by decide +kernel
theorem c_97_14 : m_code 97 14 = some (.aload_n 0, 0, 0, 0, 0) := by decide +kernel
theorem c_97_15 : m_code 97 15 = some (.aload_n 3, 0, 0, 0, 0) := by decide +kernel
theorem c_97_16 : m_code 97 16 = some (.iload 6, 0, 0, 0, 0) := by decide +kernel
theorem c_97_18 : m_code 97 18 = some (.invokevirtual 162, 88, 510, 1, 0) := by decide +kernel
theorem c_97_21 : m_code 97 21 = some (.invokestatic 273, 96, 685, 1, 0) := by decide +kernel
theorem c_97_24 : m_code 97 24 = some (.lstore 4, 0, 0, 0, 0) := by decide +kernel
theorem c_97_26 : m_code 97 26 = some (.iinc 6 1, 0, 0, 0, 0) := by decide +kernel
theorem c_97_29 : m_code 97 29 = some (.goto (-23), 6, 0, 0, 0) := by decide +kernel
theorem c_97_32 : m_code 97 32 = some (.lload 4, 0, 0, 0, 0) := by decide +kernel
theorem c_97_34 : m_code 97 34 = some (.aload_n 0, 0, 0, 0, 0) := by decide +kernel
theorem c_97_35 : m_code 97 35 = some (.aload_n 3, 0, 0, 0, 0) := by decide +kernel
theorem c_97_36 : m_code 97 36 = some (.iconst 4, 0, 0, 0, 0) := by decide +kernel
theorem c_97_37 : m_code 97 37 = some (.sipush 128, 0, 0, 0, 0) := by decide +kernel
theorem c_97_40 : m_code 97 40 = some (.invokevirtual 175, 89, 538, 1, 0) := by decide +kernel
theorem c_97_43 : m_code 97 43 = some (.invokestatic 273, 96, 685, 1, 0) := by decide +kernel
theorem c_97_46 : m_code 97 46 = some (.lstore 4, 0, 0, 0, 0) := by decide +kernel
theorem c_97_48 : m_code 97 48 = some (.lload 4, 0, 0, 0, 0) := by decide +kernel
theorem c_97_50 : m_code 97 50 = some (.aload_n 0, 0, 0, 0, 0) := by decide +kernel
theorem c_97_51 : m_code 97 51 = some (.aload_n 3, 0, 0, 0, 0) := by decide +kernel
theorem c_97_52 : m_code 97 52 = some (.iconst 4, 0, 0, 0, 0) := by decide +kernel
theorem c_97_53 : m_code 97 53 = some (.invokevirtual 179, 90, 570, 1, 0) := by decide +kernel
theorem c_97_56 : m_code 97 56 = some (.invokestatic 273, 96, 685, 1, 0) := by decide +kernel
theorem c_97_59 : m_code 97 59 = some (.lstore 4, 0, 0, 0, 0) := by decide +kernel
theorem c_97_61 : m_code 97 61 = some (.lload 4, 0, 0, 0, 0) := by decide +kernel
theorem c_97_63 : m_code 97 63 = some (.aload_n 0, 0, 0, 0, 0) := by decide +kernel
theorem c_97_64 : m_code 97 64 = some (.aload_n 3, 0, 0, 0, 0) := by decide +kernel
theorem c_97_65 : m_code 97 65 = some (.bipush 8, 0, 0, 0, 0) := by decide +kernel
theorem c_97_67 : m_code 97 67 = some (.sipush 128, 0, 0, 0, 0) := by decide +kernel
theorem c_97_70 : m_code 97 70 = some (.invokevirtual 175, 89, 538, 1, 0) := by decide +kernel
theorem c_97_73 : m_code 97 73 = some (.invokestatic 273, 96, 685, 1, 0) := by decide +kernel
theorem c_97_76 : m_code 97 76 = some (.lstore 4, 0, 0, 0, 0) := by decide +kernel
theorem c_97_78 : m_code 97 78 = some (.lload 4, 0, 0, 0, 0) := by decide +kernel
theorem c_97_80 : m_code 97 80 = some (.aload_n 0, 0, 0, 0, 0) := by decide +kernel
theorem c_97_81 : m_code 97 81 = some (.aload_n 3, 0, 0, 0, 0) := by decide +kernel
theorem c_97_82 : m_code 97 82 = some (.bipush 8, 0, 0, 0, 0) := by decide +kernel
theorem c_97_84 : m_code 97 84 = some (.invokevirtual 179, 90, 570, 1, 0) := by decide +kernel
theorem c_97_87 : m_code 97 87 = some (.invokestatic 273, 96, 685, 1, 0) := by decide +kernel
theorem c_97_90 : m_code 97 90 = some (.lreturn, 0, 0, 0, 0) := by decide +kernel
/-! X5 digestSeams -/
theorem c_98_0 : m_code 98 0 = some (.lload_n 1, 0, 0, 0, 0) := by decide +kernel
theorem c_98_1 : m_code 98 1 = some (.lstore 4, 0, 0, 0, 0) := by decide +kernel
theorem c_98_3 : m_code 98 3 = some (.aload_n 0, 0, 0, 0, 0) := by decide +kernel
theorem c_98_4 : m_code 98 4 = some (.getfield 44, 5, 5, 0, 183) := by decide +kernel
theorem c_98_7 : m_code 98 7 = some (.aload_n 3, 0, 0, 0, 0) := by decide +kernel
theorem c_98_8 : m_code 98 8 = some (.invokevirtual 203, 24, 626, 1, 0) := by decide +kernel
theorem c_98_11 : m_code 98 11 = some (.iconst 0, 0, 0, 0, 0) := by decide +kernel
theorem c_98_12 : m_code 98 12 = some (.istore 6, 0, 0, 0, 0) := by decide +kernel
theorem c_98_14 : m_code 98 14 = some (.iload 6, 0, 0, 0, 0) := by decide +kernel
theorem c_98_16 : m_code 98 16 = some (.aload_n 3, 0, 0, 0, 0) := by decide +kernel
theorem c_98_17 : m_code 98 17 = some (.getfield 104, 3, 1, 0, 69) := by decide +kernel
theorem c_98_20 : m_code 98 20 = some (.if_icmp .ge 26, 46, 0, 0, 0) := by decide +kernel
theorem c_98_23 : m_code 98 23 = some (.lload 4, 0, 0, 0, 0) := by decide +kernel
theorem c_98_25 : m_code 98 25 = some (.aload_n 0, 0, 0, 0, 0) := by decide +kernel
theorem c_98_26 : m_code 98 26 = some (.getfield 44, 5, 5, 0, 183) := by decide +kernel
theorem c_98_29 : m_code 98 29 = some (.getfield 213, 2, 1, 0, 166) := by decide +kernel
theorem c_98_32 : m_code 98 32 = some (.iload 6, 0, 0, 0, 0) := by decide +kernel
theorem c_98_34 : m_code 98 34 = some (.iaload, 0, 0, 0, 0) := by decide +kernel
theorem c_98_35 : m_code 98 35 = some (.invokestatic 273, 96, 685, 1, 0) := by decide +kernel
theorem c_98_38 : m_code 98 38 = some (.lstore 4, 0, 0, 0, 0) := by decide +kernel
theorem c_98_40 : m_code 98 40 = some (.iinc 6 1, 0, 0, 0, 0) := by decide +kernel
theorem c_98_43 : m_code 98 43 = some (.goto (-29), 14, 0, 0, 0) := by decide +kernel
theorem c_98_46 : m_code 98 46 = some (.aload_n 3, 0, 0, 0, 0) := by decide +kernel
theorem c_98_47 : m_code 98 47 = some (.getfield 108, 3, 0, 0, 64) := by decide +kernel
theorem c_98_50 : m_code 98 50 = some (.iconst 1, 0, 0, 0, 0) := by decide +kernel
theorem c_98_51 : m_code 98 51 = some (.if_icmp .le 16, 67, 0, 0, 0) := by decide +kernel
theorem c_98_54 : m_code 98 54 = some (.lload 4, 0, 0, 0, 0) := by decide +kernel
theorem c_98_56 : m_code 98 56 = some (.aload_n 0, 0, 0, 0, 0) := by decide +kernel
theorem c_98_57 : m_code 98 57 = some (.aload_n 3, 0, 0, 0, 0) := by decide +kernel
theorem c_98_58 : m_code 98 58 = some (.iconst 1, 0, 0, 0, 0) := by decide +kernel
theorem c_98_59 : m_code 98 59 = some (.invokevirtual 216, 95, 672, 1, 0) := by decide +kernel
theorem c_98_62 : m_code 98 62 = some (.invokestatic 273, 96, 685, 1, 0) := by decide +kernel
theorem c_98_65 : m_code 98 65 = some (.lstore 4, 0, 0, 0, 0) := by decide +kernel
theorem c_98_67 : m_code 98 67 = some (.lload 4, 0, 0, 0, 0) := by decide +kernel
theorem c_98_69 : m_code 98 69 = some (.lreturn, 0, 0, 0, 0) := by decide +kernel
/-! X5 digestFields -/
theorem c_99_0 : m_code 99 0 = some (.lload_n 0, 0, 0, 0, 0) := by decide +kernel
theorem c_99_1 : m_code 99 1 = some (.lstore_n 3, 0, 0, 0, 0) := by decide +kernel
theorem c_99_2 : m_code 99 2 = some (.iconst 0, 0, 0, 0, 0) := by decide +kernel
theorem c_99_3 : m_code 99 3 = some (.istore 5, 0, 0, 0, 0) := by decide +kernel
theorem c_99_5 : m_code 99 5 = some (.iload 5, 0, 0, 0, 0) := by decide +kernel
theorem c_99_7 : m_code 99 7 = some (.aload_n 2, 0, 0, 0, 0) := by decide +kernel
theorem c_99_8 : m_code 99 8 = some (.getfield 108, 3, 0, 0, 64) := by decide +kernel
theorem c_99_11 : m_code 99 11 = some (.aload_n 2, 0, 0, 0, 0) := by decide +kernel
theorem c_99_12 : m_code 99 12 = some (.getfield 104, 3, 1, 0, 69) := by decide +kernel
theorem c_99_15 : m_code 99 15 = some (.invokestatic 92, 0, 618, 4, 0) := by decide +kernel
theorem c_99_18 : m_code 99 18 = some (.if_icmp .ge 23, 41, 0, 0, 0) := by decide +kernel
theorem c_99_21 : m_code 99 21 = some (.lload_n 3, 0, 0, 0, 0) := by decide +kernel
theorem c_99_22 : m_code 99 22 = some (.aload_n 2, 0, 0, 0, 0) := by decide +kernel
theorem c_99_23 : m_code 99 23 = some (.iconst 2, 0, 0, 0, 0) := by decide +kernel
theorem c_99_24 : m_code 99 24 = some (.iload 5, 0, 0, 0, 0) := by decide +kernel
theorem c_99_26 : m_code 99 26 = some (.iload 5, 0, 0, 0, 0) := by decide +kernel
theorem c_99_28 : m_code 99 28 = some (.invokestatic 200, 91, 609, 1, 0) := by decide +kernel
theorem c_99_31 : m_code 99 31 = some (.invokestatic 273, 96, 685, 1, 0) := by decide +kernel
theorem c_99_34 : m_code 99 34 = some (.lstore_n 3, 0, 0, 0, 0) := by decide +kernel
theorem c_99_35 : m_code 99 35 = some (.iinc 5 1, 0, 0, 0, 0) := by decide +kernel
theorem c_99_38 : m_code 99 38 = some (.goto (-33), 5, 0, 0, 0) := by decide +kernel
theorem c_99_41 : m_code 99 41 = some (.iconst 0, 0, 0, 0, 0) := by decide +kernel
theorem c_99_42 : m_code 99 42 = some (.istore 5, 0, 0, 0, 0) := by decide +kernel
theorem c_99_44 : m_code 99 44 = some (.iload 5, 0, 0, 0, 0) := by decide +kernel
theorem c_99_46 : m_code 99 46 = some (.aload_n 2, 0, 0, 0, 0) := by decide +kernel
theorem c_99_47 : m_code 99 47 = some (.invokevirtual 68, 31, 302, 1, 0) := by decide +kernel
theorem c_99_50 : m_code 99 50 = some (.if_icmp .ge 21, 71, 0, 0, 0) := by decide +kernel
theorem c_99_53 : m_code 99 53 = some (.lload_n 3, 0, 0, 0, 0) := by decide +kernel
theorem c_99_54 : m_code 99 54 = some (.aload_n 2, 0, 0, 0, 0) := by decide +kernel
theorem c_99_55 : m_code 99 55 = some (.getfield 72, 3, 2, 0, 72) := by decide +kernel
theorem c_99_58 : m_code 99 58 = some (.iload 5, 0, 0, 0, 0) := by decide +kernel
theorem c_99_60 : m_code 99 60 = some (.iaload, 0, 0, 0, 0) := by decide +kernel
theorem c_99_61 : m_code 99 61 = some (.invokestatic 273, 96, 685, 1, 0) := by decide +kernel
theorem c_99_64 : m_code 99 64 = some (.lstore_n 3, 0, 0, 0, 0) := by decide +kernel
theorem c_99_65 : m_code 99 65 = some (.iinc 5 1, 0, 0, 0, 0) := by decide +kernel
theorem c_99_68 : m_code 99 68 = some (.goto (-24), 44, 0, 0, 0) := by decide +kernel
theorem c_99_71 : m_code 99 71 = some (.lload_n 3, 0, 0, 0, 0) := by decide +kernel
theorem c_99_72 : m_code 99 72 = some (.lreturn, 0, 0, 0, 0) := by decide +kernel
/-! L below -/
theorem c_100_0 : m_code 100 0 = some (.iload_n 0, 0, 0, 0, 0) := by decide +kernel
theorem c_100_1 : m_code 100 1 = some (.ldc 7, 0, 699, 0, 2147483647) := by decide +kernel
theorem c_100_3 : m_code 100 3 = some (.iand, 0, 0, 0, 0) := by decide +kernel
theorem c_100_4 : m_code 100 4 = some (.iload_n 1, 0, 0, 0, 0) := by decide +kernel
theorem c_100_5 : m_code 100 5 = some (.irem, 0, 0, 0, 0) := by decide +kernel
theorem c_100_6 : m_code 100 6 = some (.ireturn, 0, 0, 0, 0) := by decide +kernel
/-! L cell -/
theorem c_101_0 : m_code 101 0 = some (.iload_n 1, 0, 0, 0, 0) := by decide +kernel
theorem c_101_1 : m_code 101 1 = some (.aload_n 0, 0, 0, 0, 0) := by decide +kernel
theorem c_101_2 : m_code 101 2 = some (.arraylength, 0, 0, 0, 0) := by decide +kernel
theorem c_101_3 : m_code 101 3 = some (.if_icmp .ge 9, 12, 0, 0, 0) := by decide +kernel
theorem c_101_6 : m_code 101 6 = some (.aload_n 0, 0, 0, 0, 0) := by decide +kernel
theorem c_101_7 : m_code 101 7 = some (.iload_n 1, 0, 0, 0, 0) := by decide +kernel
theorem c_101_8 : m_code 101 8 = some (.iaload, 0, 0, 0, 0) := by decide +kernel
theorem c_101_9 : m_code 101 9 = some (.goto 9, 18, 0, 0, 0) := by decide +kernel
theorem c_101_12 : m_code 101 12 = some (.ldc 8, 0, 703, 0, 790386105) := by decide +kernel
theorem c_101_14 : m_code 101 14 = some (.iload_n 1, 0, 0, 0, 0) := by decide +kernel
theorem c_101_15 : m_code 101 15 = some (.iconst 3, 0, 0, 0, 0) := by decide +kernel
theorem c_101_16 : m_code 101 16 = some (.iadd, 0, 0, 0, 0) := by decide +kernel
theorem c_101_17 : m_code 101 17 = some (.imul, 0, 0, 0, 0) := by decide +kernel
theorem c_101_18 : m_code 101 18 = some (.ireturn, 0, 0, 0, 0) := by decide +kernel
/-! L law -/
theorem c_102_0 : m_code 102 0 = some (.new 9, 5, 45, 0, 0) := by decide +kernel
theorem c_102_3 : m_code 102 3 = some (.dup, 0, 0, 0, 0) := by decide +kernel
theorem c_102_4 : m_code 102 4 = some (.invokespecial 11, 51, 47, 1, 0) := by decide +kernel
theorem c_102_7 : m_code 102 7 = some (.astore_n 1, 0, 0, 0, 0) := by decide +kernel
theorem c_102_8 : m_code 102 8 = some (.iconst 1, 0, 0, 0, 0) := by decide +kernel
theorem c_102_9 : m_code 102 9 = some (.aload_n 0, 0, 0, 0, 0) := by decide +kernel
theorem c_102_10 : m_code 102 10 = some (.iconst 0, 0, 0, 0, 0) := by decide +kernel
theorem c_102_11 : m_code 102 11 = some (.invokestatic 12, 101, 700, 1, 0) := by decide +kernel
theorem c_102_14 : m_code 102 14 = some (.bipush 8, 0, 0, 0, 0) := by decide +kernel
theorem c_102_16 : m_code 102 16 = some (.invokestatic 18, 100, 696, 1, 0) := by decide +kernel
theorem c_102_19 : m_code 102 19 = some (.iadd, 0, 0, 0, 0) := by decide +kernel
theorem c_102_20 : m_code 102 20 = some (.istore_n 2, 0, 0, 0, 0) := by decide +kernel
theorem c_102_21 : m_code 102 21 = some (.iconst 1, 0, 0, 0, 0) := by decide +kernel
theorem c_102_22 : m_code 102 22 = some (.aload_n 0, 0, 0, 0, 0) := by decide +kernel
theorem c_102_23 : m_code 102 23 = some (.iconst 1, 0, 0, 0, 0) := by decide +kernel
theorem c_102_24 : m_code 102 24 = some (.invokestatic 12, 101, 700, 1, 0) := by decide +kernel
theorem c_102_27 : m_code 102 27 = some (.bipush 8, 0, 0, 0, 0) := by decide +kernel
theorem c_102_29 : m_code 102 29 = some (.invokestatic 18, 100, 696, 1, 0) := by decide +kernel
theorem c_102_32 : m_code 102 32 = some (.iadd, 0, 0, 0, 0) := by decide +kernel
theorem c_102_33 : m_code 102 33 = some (.istore_n 3, 0, 0, 0, 0) := by decide +kernel
theorem c_102_34 : m_code 102 34 = some (.aload_n 1, 0, 0, 0, 0) := by decide +kernel
theorem c_102_35 : m_code 102 35 = some (.iconst 0, 0, 0, 0, 0) := by decide +kernel
theorem c_102_36 : m_code 102 36 = some (.iload_n 2, 0, 0, 0, 0) := by decide +kernel
theorem c_102_37 : m_code 102 37 = some (.iload_n 3, 0, 0, 0, 0) := by decide +kernel
theorem c_102_38 : m_code 102 38 = some (.aload_n 0, 0, 0, 0, 0) := by decide +kernel
theorem c_102_39 : m_code 102 39 = some (.iconst 2, 0, 0, 0, 0) := by decide +kernel
theorem c_102_40 : m_code 102 40 = some (.invokestatic 12, 101, 700, 1, 0) := by decide +kernel
theorem c_102_43 : m_code 102 43 = some (.sipush 256, 0, 0, 0, 0) := by decide +kernel
theorem c_102_46 : m_code 102 46 = some (.invokestatic 18, 100, 696, 1, 0) := by decide +kernel
theorem c_102_49 : m_code 102 49 = some (.invokevirtual 22, 52, 197, 1, 0) := by decide +kernel
theorem c_102_52 : m_code 102 52 = some (.iload_n 2, 0, 0, 0, 0) := by decide +kernel
theorem c_102_53 : m_code 102 53 = some (.iload_n 3, 0, 0, 0, 0) := by decide +kernel
theorem c_102_54 : m_code 102 54 = some (.imul, 0, 0, 0, 0) := by decide +kernel
theorem c_102_55 : m_code 102 55 = some (.if_icmp .eq 5, 60, 0, 0, 0) := by decide +kernel
theorem c_102_58 : m_code 102 58 = some (.iconst 0, 0, 0, 0, 0) := by decide +kernel
theorem c_102_59 : m_code 102 59 = some (.ireturn, 0, 0, 0, 0) := by decide +kernel
theorem c_102_60 : m_code 102 60 = some (.aload_n 1, 0, 0, 0, 0) := by decide +kernel
theorem c_102_61 : m_code 102 61 = some (.iconst 0, 0, 0, 0, 0) := by decide +kernel
theorem c_102_62 : m_code 102 62 = some (.aload_n 0, 0, 0, 0, 0) := by decide +kernel
theorem c_102_63 : m_code 102 63 = some (.iconst 3, 0, 0, 0, 0) := by decide +kernel
theorem c_102_64 : m_code 102 64 = some (.invokestatic 12, 101, 700, 1, 0) := by decide +kernel
theorem c_102_67 : m_code 102 67 = some (.bipush 41, 0, 0, 0, 0) := by decide +kernel
theorem c_102_69 : m_code 102 69 = some (.invokestatic 18, 100, 696, 1, 0) := by decide +kernel
theorem c_102_72 : m_code 102 72 = some (.bipush 20, 0, 0, 0, 0) := by decide +kernel
theorem c_102_74 : m_code 102 74 = some (.isub, 0, 0, 0, 0) := by decide +kernel
theorem c_102_75 : m_code 102 75 = some (.aload_n 0, 0, 0, 0, 0) := by decide +kernel
theorem c_102_76 : m_code 102 76 = some (.iconst 4, 0, 0, 0, 0) := by decide +kernel
theorem c_102_77 : m_code 102 77 = some (.invokestatic 12, 101, 700, 1, 0) := by decide +kernel
theorem c_102_80 : m_code 102 80 = some (.bipush 41, 0, 0, 0, 0) := by decide +kernel
theorem c_102_82 : m_code 102 82 = some (.invokestatic 18, 100, 696, 1, 0) := by decide +kernel
theorem c_102_85 : m_code 102 85 = some (.bipush 20, 0, 0, 0, 0) := by decide +kernel
theorem c_102_87 : m_code 102 87 = some (.isub, 0, 0, 0, 0) := by decide +kernel
theorem c_102_88 : m_code 102 88 = some (.aload_n 0, 0, 0, 0, 0) := by decide +kernel
theorem c_102_89 : m_code 102 89 = some (.iconst 5, 0, 0, 0, 0) := by decide +kernel
theorem c_102_90 : m_code 102 90 = some (.invokestatic 12, 101, 700, 1, 0) := by decide +kernel
theorem c_102_93 : m_code 102 93 = some (.bipush 61, 0, 0, 0, 0) := by decide +kernel
theorem c_102_95 : m_code 102 95 = some (.invokestatic 18, 100, 696, 1, 0) := by decide +kernel
theorem c_102_98 : m_code 102 98 = some (.bipush 30, 0, 0, 0, 0) := by decide +kernel
theorem c_102_100 : m_code 102 100 = some (.isub, 0, 0, 0, 0) := by decide +kernel
theorem c_102_101 : m_code 102 101 = some (.invokevirtual 26, 55, 352, 1, 0) := by decide +kernel
theorem c_102_104 : m_code 102 104 = some (.pop, 0, 0, 0, 0) := by decide +kernel
theorem c_102_105 : m_code 102 105 = some (.iconst 0, 0, 0, 0, 0) := by decide +kernel
theorem c_102_106 : m_code 102 106 = some (.istore 4, 0, 0, 0, 0) := by decide +kernel
theorem c_102_108 : m_code 102 108 = some (.iload 4, 0, 0, 0, 0) := by decide +kernel
theorem c_102_110 : m_code 102 110 = some (.bipush 6, 0, 0, 0, 0) := by decide +kernel
theorem c_102_112 : m_code 102 112 = some (.if_icmp .ge 98, 210, 0, 0, 0) := by decide +kernel
theorem c_102_115 : m_code 102 115 = some (.aload_n 0, 0, 0, 0, 0) := by decide +kernel
theorem c_102_116 : m_code 102 116 = some (.bipush 6, 0, 0, 0, 0) := by decide +kernel
theorem c_102_118 : m_code 102 118 = some (.iload 4, 0, 0, 0, 0) := by decide +kernel
theorem c_102_120 : m_code 102 120 = some (.iadd, 0, 0, 0, 0) := by decide +kernel
theorem c_102_121 : m_code 102 121 = some (.invokestatic 12, 101, 700, 1, 0) := by decide +kernel
theorem c_102_124 : m_code 102 124 = some (.istore 5, 0, 0, 0, 0) := by decide +kernel
theorem c_102_126 : m_code 102 126 = some (.iload 4, 0, 0, 0, 0) := by decide +kernel
theorem c_102_128 : m_code 102 128 = some (.iconst 2, 0, 0, 0, 0) := by decide +kernel
theorem c_102_129 : m_code 102 129 = some (.irem, 0, 0, 0, 0) := by decide +kernel
theorem c_102_130 : m_code 102 130 = some (.ifCond .ne 44, 174, 0, 0, 0) := by decide +kernel
theorem c_102_133 : m_code 102 133 = some (.aload_n 1, 0, 0, 0, 0) := by decide +kernel
theorem c_102_134 : m_code 102 134 = some (.iconst 0, 0, 0, 0, 0) := by decide +kernel
theorem c_102_135 : m_code 102 135 = some (.iload 5, 0, 0, 0, 0) := by decide +kernel
theorem c_102_137 : m_code 102 137 = some (.iload_n 2, 0, 0, 0, 0) := by decide +kernel
theorem c_102_138 : m_code 102 138 = some (.invokestatic 18, 100, 696, 1, 0) := by decide +kernel
theorem c_102_141 : m_code 102 141 = some (.iload 5, 0, 0, 0, 0) := by decide +kernel
theorem c_102_143 : m_code 102 143 = some (.iconst 3, 0, 0, 0, 0) := by decide +kernel
theorem c_102_144 : m_code 102 144 = some (.ishr, 0, 0, 0, 0) := by decide +kernel
theorem c_102_145 : m_code 102 145 = some (.iload_n 3, 0, 0, 0, 0) := by decide +kernel
theorem c_102_146 : m_code 102 146 = some (.invokestatic 18, 100, 696, 1, 0) := by decide +kernel
theorem c_102_149 : m_code 102 149 = some (.iload 5, 0, 0, 0, 0) := by decide +kernel
theorem c_102_151 : m_code 102 151 = some (.iconst 2, 0, 0, 0, 0) := by decide +kernel
theorem c_102_152 : m_code 102 152 = some (.ishr, 0, 0, 0, 0) := by decide +kernel
theorem c_102_153 : m_code 102 153 = some (.iconst 3, 0, 0, 0, 0) := by decide +kernel
theorem c_102_154 : m_code 102 154 = some (.invokestatic 18, 100, 696, 1, 0) := by decide +kernel
theorem c_102_157 : m_code 102 157 = some (.iload 5, 0, 0, 0, 0) := by decide +kernel
theorem c_102_159 : m_code 102 159 = some (.iconst 5, 0, 0, 0, 0) := by decide +kernel
theorem c_102_160 : m_code 102 160 = some (.ishr, 0, 0, 0, 0) := by decide +kernel
theorem c_102_161 : m_code 102 161 = some (.sipush 256, 0, 0, 0, 0) := by decide +kernel
theorem c_102_164 : m_code 102 164 = some (.invokestatic 18, 100, 696, 1, 0) := by decide +kernel
theorem c_102_167 : m_code 102 167 = some (.invokevirtual 29, 54, 331, 1, 0) := by decide +kernel
theorem c_102_170 : m_code 102 170 = some (.pop, 0, 0, 0, 0) := by decide +kernel
theorem c_102_171 : m_code 102 171 = some (.goto 33, 204, 0, 0, 0) := by decide +kernel
theorem c_102_174 : m_code 102 174 = some (.aload_n 1, 0, 0, 0, 0) := by decide +kernel
theorem c_102_175 : m_code 102 175 = some (.iconst 0, 0, 0, 0, 0) := by decide +kernel
theorem c_102_176 : m_code 102 176 = some (.iload 5, 0, 0, 0, 0) := by decide +kernel
theorem c_102_178 : m_code 102 178 = some (.iload_n 2, 0, 0, 0, 0) := by decide +kernel
theorem c_102_179 : m_code 102 179 = some (.invokestatic 18, 100, 696, 1, 0) := by decide +kernel
theorem c_102_182 : m_code 102 182 = some (.iload 5, 0, 0, 0, 0) := by decide +kernel
theorem c_102_184 : m_code 102 184 = some (.iconst 3, 0, 0, 0, 0) := by decide +kernel
theorem c_102_185 : m_code 102 185 = some (.ishr, 0, 0, 0, 0) := by decide +kernel
theorem c_102_186 : m_code 102 186 = some (.iload_n 3, 0, 0, 0, 0) := by decide +kernel
theorem c_102_187 : m_code 102 187 = some (.invokestatic 18, 100, 696, 1, 0) := by decide +kernel
theorem c_102_190 : m_code 102 190 = some (.iload 5, 0, 0, 0, 0) := by decide +kernel
theorem c_102_192 : m_code 102 192 = some (.iconst 5, 0, 0, 0, 0) := by decide +kernel
theorem c_102_193 : m_code 102 193 = some (.ishr, 0, 0, 0, 0) := by decide +kernel
theorem c_102_194 : m_code 102 194 = some (.sipush 256, 0, 0, 0, 0) := by decide +kernel
theorem c_102_197 : m_code 102 197 = some (.invokestatic 18, 100, 696, 1, 0) := by decide +kernel
theorem c_102_200 : m_code 102 200 = some (.invokevirtual 33, 53, 306, 1, 0) := by decide +kernel
theorem c_102_203 : m_code 102 203 = some (.pop, 0, 0, 0, 0) := by decide +kernel
theorem c_102_204 : m_code 102 204 = some (.iinc 4 1, 0, 0, 0, 0) := by decide +kernel
theorem c_102_207 : m_code 102 207 = some (.goto (-99), 108, 0, 0, 0) := by decide +kernel
theorem c_102_210 : m_code 102 210 = some (.iload_n 2, 0, 0, 0, 0) := by decide +kernel
theorem c_102_211 : m_code 102 211 = some (.iload_n 3, 0, 0, 0, 0) := by decide +kernel
theorem c_102_212 : m_code 102 212 = some (.imul, 0, 0, 0, 0) := by decide +kernel
theorem c_102_213 : m_code 102 213 = some (.istore 4, 0, 0, 0, 0) := by decide +kernel
theorem c_102_215 : m_code 102 215 = some (.aload_n 1, 0, 0, 0, 0) := by decide +kernel
theorem c_102_216 : m_code 102 216 = some (.invokevirtual 36, 75, 676, 1, 0) := by decide +kernel
theorem c_102_219 : m_code 102 219 = some (.lstore 5, 0, 0, 0, 0) := by decide +kernel
theorem c_102_221 : m_code 102 221 = some (.aload_n 1, 0, 0, 0, 0) := by decide +kernel
theorem c_102_222 : m_code 102 222 = some (.iconst 0, 0, 0, 0, 0) := by decide +kernel
theorem c_102_223 : m_code 102 223 = some (.iconst 0, 0, 0, 0, 0) := by decide +kernel
theorem c_102_224 : m_code 102 224 = some (.sipush 255, 0, 0, 0, 0) := by decide +kernel
theorem c_102_227 : m_code 102 227 = some (.invokevirtual 40, 62, 517, 1, 0) := by decide +kernel
theorem c_102_230 : m_code 102 230 = some (.iload 4, 0, 0, 0, 0) := by decide +kernel
theorem c_102_232 : m_code 102 232 = some (.if_icmp .ne 103, 335, 0, 0, 0) := by decide +kernel
theorem c_102_235 : m_code 102 235 = some (.aload_n 1, 0, 0, 0, 0) := by decide +kernel
theorem c_102_236 : m_code 102 236 = some (.iconst 0, 0, 0, 0, 0) := by decide +kernel
theorem c_102_237 : m_code 102 237 = some (.iconst 0, 0, 0, 0, 0) := by decide +kernel
theorem c_102_238 : m_code 102 238 = some (.invokevirtual 44, 63, 521, 1, 0) := by decide +kernel
theorem c_102_241 : m_code 102 241 = some (.aload_n 1, 0, 0, 0, 0) := by decide +kernel
theorem c_102_242 : m_code 102 242 = some (.iconst 0, 0, 0, 0, 0) := by decide +kernel
theorem c_102_243 : m_code 102 243 = some (.iconst 2, 0, 0, 0, 0) := by decide +kernel
theorem c_102_244 : m_code 102 244 = some (.invokevirtual 47, 61, 506, 1, 0) := by decide +kernel
theorem c_102_247 : m_code 102 247 = some (.if_icmp .ne 88, 335, 0, 0, 0) := by decide +kernel
theorem c_102_250 : m_code 102 250 = some (.aload_n 1, 0, 0, 0, 0) := by decide +kernel
theorem c_102_251 : m_code 102 251 = some (.iconst 0, 0, 0, 0, 0) := by decide +kernel
theorem c_102_252 : m_code 102 252 = some (.iload 4, 0, 0, 0, 0) := by decide +kernel
theorem c_102_254 : m_code 102 254 = some (.iconst 1, 0, 0, 0, 0) := by decide +kernel
theorem c_102_255 : m_code 102 255 = some (.isub, 0, 0, 0, 0) := by decide +kernel
theorem c_102_256 : m_code 102 256 = some (.invokevirtual 44, 63, 521, 1, 0) := by decide +kernel
theorem c_102_259 : m_code 102 259 = some (.aload_n 1, 0, 0, 0, 0) := by decide +kernel
theorem c_102_260 : m_code 102 260 = some (.iconst 0, 0, 0, 0, 0) := by decide +kernel
theorem c_102_261 : m_code 102 261 = some (.iconst 3, 0, 0, 0, 0) := by decide +kernel
theorem c_102_262 : m_code 102 262 = some (.invokevirtual 47, 61, 506, 1, 0) := by decide +kernel
theorem c_102_265 : m_code 102 265 = some (.if_icmp .ne 70, 335, 0, 0, 0) := by decide +kernel
theorem c_102_268 : m_code 102 268 = some (.aload_n 1, 0, 0, 0, 0) := by decide +kernel
theorem c_102_269 : m_code 102 269 = some (.iconst 0, 0, 0, 0, 0) := by decide +kernel
theorem c_102_270 : m_code 102 270 = some (.iconst 0, 0, 0, 0, 0) := by decide +kernel
theorem c_102_271 : m_code 102 271 = some (.invokevirtual 50, 64, 526, 1, 0) := by decide +kernel
theorem c_102_274 : m_code 102 274 = some (.dconst 0, 0, 0, 0, 0) := by decide +kernel
theorem c_102_275 : m_code 102 275 = some (.dcmp .l, 0, 0, 0, 0) := by decide +kernel
theorem c_102_276 : m_code 102 276 = some (.ifCond .ne 59, 335, 0, 0, 0) := by decide +kernel
theorem c_102_279 : m_code 102 279 = some (.aload_n 1, 0, 0, 0, 0) := by decide +kernel
theorem c_102_280 : m_code 102 280 = some (.iconst 0, 0, 0, 0, 0) := by decide +kernel
theorem c_102_281 : m_code 102 281 = some (.bipush 8, 0, 0, 0, 0) := by decide +kernel
theorem c_102_283 : m_code 102 283 = some (.invokevirtual 54, 65, 531, 1, 0) := by decide +kernel
theorem c_102_286 : m_code 102 286 = some (.aload_n 1, 0, 0, 0, 0) := by decide +kernel
theorem c_102_287 : m_code 102 287 = some (.iconst 0, 0, 0, 0, 0) := by decide +kernel
theorem c_102_288 : m_code 102 288 = some (.iconst 4, 0, 0, 0, 0) := by decide +kernel
theorem c_102_289 : m_code 102 289 = some (.invokevirtual 54, 65, 531, 1, 0) := by decide +kernel
theorem c_102_292 : m_code 102 292 = some (.if_icmp .gt 43, 335, 0, 0, 0) := by decide +kernel
theorem c_102_295 : m_code 102 295 = some (.aload_n 1, 0, 0, 0, 0) := by decide +kernel
theorem c_102_296 : m_code 102 296 = some (.iconst 0, 0, 0, 0, 0) := by decide +kernel
theorem c_102_297 : m_code 102 297 = some (.bipush 8, 0, 0, 0, 0) := by decide +kernel
theorem c_102_299 : m_code 102 299 = some (.invokevirtual 57, 66, 566, 1, 0) := by decide +kernel
theorem c_102_302 : m_code 102 302 = some (.ifCond .lt 33, 335, 0, 0, 0) := by decide +kernel
theorem c_102_305 : m_code 102 305 = some (.aload_n 1, 0, 0, 0, 0) := by decide +kernel
theorem c_102_306 : m_code 102 306 = some (.iconst 0, 0, 0, 0, 0) := by decide +kernel
theorem c_102_307 : m_code 102 307 = some (.iconst 4, 0, 0, 0, 0) := by decide +kernel
theorem c_102_308 : m_code 102 308 = some (.sipush 128, 0, 0, 0, 0) := by decide +kernel
theorem c_102_311 : m_code 102 311 = some (.invokevirtual 60, 73, 664, 1, 0) := by decide +kernel
theorem c_102_314 : m_code 102 314 = some (.aload_n 1, 0, 0, 0, 0) := by decide +kernel
theorem c_102_315 : m_code 102 315 = some (.iconst 0, 0, 0, 0, 0) := by decide +kernel
theorem c_102_316 : m_code 102 316 = some (.iconst 4, 0, 0, 0, 0) := by decide +kernel
theorem c_102_317 : m_code 102 317 = some (.invokevirtual 54, 65, 531, 1, 0) := by decide +kernel
theorem c_102_320 : m_code 102 320 = some (.if_icmp .ne 15, 335, 0, 0, 0) := by decide +kernel
theorem c_102_323 : m_code 102 323 = some (.aload_n 1, 0, 0, 0, 0) := by decide +kernel
theorem c_102_324 : m_code 102 324 = some (.iconst 0, 0, 0, 0, 0) := by decide +kernel
theorem c_102_325 : m_code 102 325 = some (.bipush 8, 0, 0, 0, 0) := by decide +kernel
theorem c_102_327 : m_code 102 327 = some (.iconst 0, 0, 0, 0, 0) := by decide +kernel
theorem c_102_328 : m_code 102 328 = some (.invokevirtual 60, 73, 664, 1, 0) := by decide +kernel
theorem c_102_331 : m_code 102 331 = some (.iconst 1, 0, 0, 0, 0) := by decide +kernel
theorem c_102_332 : m_code 102 332 = some (.if_icmp .eq 5, 337, 0, 0, 0) := by decide +kernel
theorem c_102_335 : m_code 102 335 = some (.iconst 0, 0, 0, 0, 0) := by decide +kernel
theorem c_102_336 : m_code 102 336 = some (.ireturn, 0, 0, 0, 0) := by decide +kernel
theorem c_102_337 : m_code 102 337 = some (.iconst 0, 0, 0, 0, 0) := by decide +kernel
theorem c_102_338 : m_code 102 338 = some (.istore 7, 0, 0, 0, 0) := by decide +kernel
theorem c_102_340 : m_code 102 340 = some (.iconst 0, 0, 0, 0, 0) := by decide +kernel
theorem c_102_341 : m_code 102 341 = some (.istore 8, 0, 0, 0, 0) := by decide +kernel
theorem c_102_343 : m_code 102 343 = some (.iload 8, 0, 0, 0, 0) := by decide +kernel
theorem c_102_345 : m_code 102 345 = some (.iload 4, 0, 0, 0, 0) := by decide +kernel
theorem c_102_347 : m_code 102 347 = some (.if_icmp .ge 47, 394, 0, 0, 0) := by decide +kernel
theorem c_102_350 : m_code 102 350 = some (.iload 7, 0, 0, 0, 0) := by decide +kernel
theorem c_102_352 : m_code 102 352 = some (.aload_n 1, 0, 0, 0, 0) := by decide +kernel
theorem c_102_353 : m_code 102 353 = some (.iconst 0, 0, 0, 0, 0) := by decide +kernel
theorem c_102_354 : m_code 102 354 = some (.iload 8, 0, 0, 0, 0) := by decide +kernel
theorem c_102_356 : m_code 102 356 = some (.invokevirtual 44, 63, 521, 1, 0) := by decide +kernel
theorem c_102_359 : m_code 102 359 = some (.iadd, 0, 0, 0, 0) := by decide +kernel
theorem c_102_360 : m_code 102 360 = some (.istore 7, 0, 0, 0, 0) := by decide +kernel
theorem c_102_362 : m_code 102 362 = some (.iload 8, 0, 0, 0, 0) := by decide +kernel
theorem c_102_364 : m_code 102 364 = some (.ifCond .le 24, 388, 0, 0, 0) := by decide +kernel
theorem c_102_367 : m_code 102 367 = some (.aload_n 1, 0, 0, 0, 0) := by decide +kernel
theorem c_102_368 : m_code 102 368 = some (.iconst 0, 0, 0, 0, 0) := by decide +kernel
theorem c_102_369 : m_code 102 369 = some (.iload 8, 0, 0, 0, 0) := by decide +kernel
theorem c_102_371 : m_code 102 371 = some (.invokevirtual 44, 63, 521, 1, 0) := by decide +kernel
theorem c_102_374 : m_code 102 374 = some (.aload_n 1, 0, 0, 0, 0) := by decide +kernel
theorem c_102_375 : m_code 102 375 = some (.iconst 0, 0, 0, 0, 0) := by decide +kernel
theorem c_102_376 : m_code 102 376 = some (.iload 8, 0, 0, 0, 0) := by decide +kernel
theorem c_102_378 : m_code 102 378 = some (.iconst 1, 0, 0, 0, 0) := by decide +kernel
theorem c_102_379 : m_code 102 379 = some (.isub, 0, 0, 0, 0) := by decide +kernel
theorem c_102_380 : m_code 102 380 = some (.invokevirtual 44, 63, 521, 1, 0) := by decide +kernel
theorem c_102_383 : m_code 102 383 = some (.if_icmp .ge 5, 388, 0, 0, 0) := by decide +kernel
theorem c_102_386 : m_code 102 386 = some (.iconst 0, 0, 0, 0, 0) := by decide +kernel
theorem c_102_387 : m_code 102 387 = some (.ireturn, 0, 0, 0, 0) := by decide +kernel
theorem c_102_388 : m_code 102 388 = some (.iinc 8 1, 0, 0, 0, 0) := by decide +kernel
theorem c_102_391 : m_code 102 391 = some (.goto (-48), 343, 0, 0, 0) := by decide +kernel
theorem c_102_394 : m_code 102 394 = some (.iload 7, 0, 0, 0, 0) := by decide +kernel
theorem c_102_396 : m_code 102 396 = some (.aload_n 1, 0, 0, 0, 0) := by decide +kernel
theorem c_102_397 : m_code 102 397 = some (.iconst 0, 0, 0, 0, 0) := by decide +kernel
theorem c_102_398 : m_code 102 398 = some (.iconst 4, 0, 0, 0, 0) := by decide +kernel
theorem c_102_399 : m_code 102 399 = some (.invokevirtual 47, 61, 506, 1, 0) := by decide +kernel
theorem c_102_402 : m_code 102 402 = some (.if_icmp .eq 5, 407, 0, 0, 0) := by decide +kernel
theorem c_102_405 : m_code 102 405 = some (.iconst 0, 0, 0, 0, 0) := by decide +kernel
theorem c_102_406 : m_code 102 406 = some (.ireturn, 0, 0, 0, 0) := by decide +kernel
theorem c_102_407 : m_code 102 407 = some (.iconst 0, 0, 0, 0, 0) := by decide +kernel
theorem c_102_408 : m_code 102 408 = some (.istore 8, 0, 0, 0, 0) := by decide +kernel
theorem c_102_410 : m_code 102 410 = some (.iconst 0, 0, 0, 0, 0) := by decide +kernel
theorem c_102_411 : m_code 102 411 = some (.istore 9, 0, 0, 0, 0) := by decide +kernel
theorem c_102_413 : m_code 102 413 = some (.iload 9, 0, 0, 0, 0) := by decide +kernel
theorem c_102_415 : m_code 102 415 = some (.aload_n 1, 0, 0, 0, 0) := by decide +kernel
theorem c_102_416 : m_code 102 416 = some (.iconst 0, 0, 0, 0, 0) := by decide +kernel
theorem c_102_417 : m_code 102 417 = some (.iconst 4, 0, 0, 0, 0) := by decide +kernel
theorem c_102_418 : m_code 102 418 = some (.invokevirtual 54, 65, 531, 1, 0) := by decide +kernel
theorem c_102_421 : m_code 102 421 = some (.if_icmp .ge 23, 444, 0, 0, 0) := by decide +kernel
theorem c_102_424 : m_code 102 424 = some (.iload 8, 0, 0, 0, 0) := by decide +kernel
theorem c_102_426 : m_code 102 426 = some (.aload_n 1, 0, 0, 0, 0) := by decide +kernel
theorem c_102_427 : m_code 102 427 = some (.iconst 0, 0, 0, 0, 0) := by decide +kernel
theorem c_102_428 : m_code 102 428 = some (.iconst 4, 0, 0, 0, 0) := by decide +kernel
theorem c_102_429 : m_code 102 429 = some (.iload 9, 0, 0, 0, 0) := by decide +kernel
theorem c_102_431 : m_code 102 431 = some (.iconst 0, 0, 0, 0, 0) := by decide +kernel
theorem c_102_432 : m_code 102 432 = some (.invokevirtual 63, 68, 583, 1, 0) := by decide +kernel
theorem c_102_435 : m_code 102 435 = some (.iadd, 0, 0, 0, 0) := by decide +kernel
theorem c_102_436 : m_code 102 436 = some (.istore 8, 0, 0, 0, 0) := by decide +kernel
theorem c_102_438 : m_code 102 438 = some (.iinc 9 1, 0, 0, 0, 0) := by decide +kernel
theorem c_102_441 : m_code 102 441 = some (.goto (-28), 413, 0, 0, 0) := by decide +kernel
theorem c_102_444 : m_code 102 444 = some (.iload 8, 0, 0, 0, 0) := by decide +kernel
theorem c_102_446 : m_code 102 446 = some (.aload_n 1, 0, 0, 0, 0) := by decide +kernel
theorem c_102_447 : m_code 102 447 = some (.iconst 0, 0, 0, 0, 0) := by decide +kernel
theorem c_102_448 : m_code 102 448 = some (.sipush 128, 0, 0, 0, 0) := by decide +kernel
theorem c_102_451 : m_code 102 451 = some (.sipush 255, 0, 0, 0, 0) := by decide +kernel
theorem c_102_454 : m_code 102 454 = some (.invokevirtual 40, 62, 517, 1, 0) := by decide +kernel
theorem c_102_457 : m_code 102 457 = some (.if_icmp .eq 5, 462, 0, 0, 0) := by decide +kernel
theorem c_102_460 : m_code 102 460 = some (.iconst 0, 0, 0, 0, 0) := by decide +kernel
theorem c_102_461 : m_code 102 461 = some (.ireturn, 0, 0, 0, 0) := by decide +kernel
theorem c_102_462 : m_code 102 462 = some (.iconst 0, 0, 0, 0, 0) := by decide +kernel
theorem c_102_463 : m_code 102 463 = some (.istore 9, 0, 0, 0, 0) := by decide +kernel
theorem c_102_465 : m_code 102 465 = some (.iload 9, 0, 0, 0, 0) := by decide +kernel
theorem c_102_467 : m_code 102 467 = some (.iload_n 3, 0, 0, 0, 0) := by decide +kernel
theorem c_102_468 : m_code 102 468 = some (.if_icmp .ge 264, 732, 0, 0, 0) := by decide +kernel
theorem c_102_471 : m_code 102 471 = some (.iconst 0, 0, 0, 0, 0) := by decide +kernel
theorem c_102_472 : m_code 102 472 = some (.istore 10, 0, 0, 0, 0) := by decide +kernel
theorem c_102_474 : m_code 102 474 = some (.iload 10, 0, 0, 0, 0) := by decide +kernel
theorem c_102_476 : m_code 102 476 = some (.iload_n 2, 0, 0, 0, 0) := by decide +kernel
theorem c_102_477 : m_code 102 477 = some (.if_icmp .ge 249, 726, 0, 0, 0) := by decide +kernel
theorem c_102_480 : m_code 102 480 = some (.aload_n 1, 0, 0, 0, 0) := by decide +kernel
theorem c_102_481 : m_code 102 481 = some (.iconst 0, 0, 0, 0, 0) := by decide +kernel
theorem c_102_482 : m_code 102 482 = some (.iload 10, 0, 0, 0, 0) := by decide +kernel
theorem c_102_484 : m_code 102 484 = some (.iload 9, 0, 0, 0, 0) := by decide +kernel
theorem c_102_486 : m_code 102 486 = some (.invokevirtual 66, 60, 502, 1, 0) := by decide +kernel
theorem c_102_489 : m_code 102 489 = some (.bipush 127, 0, 0, 0, 0) := by decide +kernel
theorem c_102_491 : m_code 102 491 = some (.if_icmp .le 7, 498, 0, 0, 0) := by decide +kernel
theorem c_102_494 : m_code 102 494 = some (.iconst 1, 0, 0, 0, 0) := by decide +kernel
theorem c_102_495 : m_code 102 495 = some (.goto 4, 499, 0, 0, 0) := by decide +kernel
theorem c_102_498 : m_code 102 498 = some (.iconst 0, 0, 0, 0, 0) := by decide +kernel
theorem c_102_499 : m_code 102 499 = some (.istore 11, 0, 0, 0, 0) := by decide +kernel
theorem c_102_501 : m_code 102 501 = some (.aload_n 1, 0, 0, 0, 0) := by decide +kernel
theorem c_102_502 : m_code 102 502 = some (.iconst 0, 0, 0, 0, 0) := by decide +kernel
theorem c_102_503 : m_code 102 503 = some (.iconst 0, 0, 0, 0, 0) := by decide +kernel
theorem c_102_504 : m_code 102 504 = some (.iload 10, 0, 0, 0, 0) := by decide +kernel
theorem c_102_506 : m_code 102 506 = some (.iload 9, 0, 0, 0, 0) := by decide +kernel
theorem c_102_508 : m_code 102 508 = some (.invokevirtual 69, 69, 605, 1, 0) := by decide +kernel
theorem c_102_511 : m_code 102 511 = some (.istore 12, 0, 0, 0, 0) := by decide +kernel
theorem c_102_513 : m_code 102 513 = some (.aload_n 1, 0, 0, 0, 0) := by decide +kernel
theorem c_102_514 : m_code 102 514 = some (.iconst 0, 0, 0, 0, 0) := by decide +kernel
theorem c_102_515 : m_code 102 515 = some (.iconst 4, 0, 0, 0, 0) := by decide +kernel
theorem c_102_516 : m_code 102 516 = some (.iload 10, 0, 0, 0, 0) := by decide +kernel
theorem c_102_518 : m_code 102 518 = some (.iload 9, 0, 0, 0, 0) := by decide +kernel
theorem c_102_520 : m_code 102 520 = some (.invokevirtual 72, 67, 578, 1, 0) := by decide +kernel
theorem c_102_523 : m_code 102 523 = some (.ifCond .lt 7, 530, 0, 0, 0) := by decide +kernel
theorem c_102_526 : m_code 102 526 = some (.iconst 1, 0, 0, 0, 0) := by decide +kernel
theorem c_102_527 : m_code 102 527 = some (.goto 4, 531, 0, 0, 0) := by decide +kernel
theorem c_102_530 : m_code 102 530 = some (.iconst 0, 0, 0, 0, 0) := by decide +kernel
theorem c_102_531 : m_code 102 531 = some (.iload 11, 0, 0, 0, 0) := by decide +kernel
theorem c_102_533 : m_code 102 533 = some (.if_icmp .ne 98, 631, 0, 0, 0) := by decide +kernel
theorem c_102_536 : m_code 102 536 = some (.aload_n 1, 0, 0, 0, 0) := by decide +kernel
theorem c_102_537 : m_code 102 537 = some (.iconst 0, 0, 0, 0, 0) := by decide +kernel
theorem c_102_538 : m_code 102 538 = some (.bipush 8, 0, 0, 0, 0) := by decide +kernel
theorem c_102_540 : m_code 102 540 = some (.iload 10, 0, 0, 0, 0) := by decide +kernel
theorem c_102_542 : m_code 102 542 = some (.iload 9, 0, 0, 0, 0) := by decide +kernel
theorem c_102_544 : m_code 102 544 = some (.invokevirtual 72, 67, 578, 1, 0) := by decide +kernel
theorem c_102_547 : m_code 102 547 = some (.ifCond .lt 7, 554, 0, 0, 0) := by decide +kernel
theorem c_102_550 : m_code 102 550 = some (.iconst 1, 0, 0, 0, 0) := by decide +kernel
theorem c_102_551 : m_code 102 551 = some (.goto 4, 555, 0, 0, 0) := by decide +kernel
theorem c_102_554 : m_code 102 554 = some (.iconst 0, 0, 0, 0, 0) := by decide +kernel
theorem c_102_555 : m_code 102 555 = some (.iload 11, 0, 0, 0, 0) := by decide +kernel
theorem c_102_557 : m_code 102 557 = some (.if_icmp .ne 74, 631, 0, 0, 0) := by decide +kernel
theorem c_102_560 : m_code 102 560 = some (.iload 12, 0, 0, 0, 0) := by decide +kernel
theorem c_102_562 : m_code 102 562 = some (.ifCond .le 7, 569, 0, 0, 0) := by decide +kernel
theorem c_102_565 : m_code 102 565 = some (.iconst 1, 0, 0, 0, 0) := by decide +kernel
theorem c_102_566 : m_code 102 566 = some (.goto 4, 570, 0, 0, 0) := by decide +kernel
theorem c_102_569 : m_code 102 569 = some (.iconst 0, 0, 0, 0, 0) := by decide +kernel
theorem c_102_570 : m_code 102 570 = some (.iload 11, 0, 0, 0, 0) := by decide +kernel
theorem c_102_572 : m_code 102 572 = some (.if_icmp .ne 59, 631, 0, 0, 0) := by decide +kernel
theorem c_102_575 : m_code 102 575 = some (.aload_n 1, 0, 0, 0, 0) := by decide +kernel
theorem c_102_576 : m_code 102 576 = some (.iconst 0, 0, 0, 0, 0) := by decide +kernel
theorem c_102_577 : m_code 102 577 = some (.iconst 1, 0, 0, 0, 0) := by decide +kernel
theorem c_102_578 : m_code 102 578 = some (.iload 10, 0, 0, 0, 0) := by decide +kernel
theorem c_102_580 : m_code 102 580 = some (.iload 9, 0, 0, 0, 0) := by decide +kernel
theorem c_102_582 : m_code 102 582 = some (.invokevirtual 69, 69, 605, 1, 0) := by decide +kernel
theorem c_102_585 : m_code 102 585 = some (.iload 12, 0, 0, 0, 0) := by decide +kernel
theorem c_102_587 : m_code 102 587 = some (.if_icmp .gt 44, 631, 0, 0, 0) := by decide +kernel
theorem c_102_590 : m_code 102 590 = some (.aload_n 1, 0, 0, 0, 0) := by decide +kernel
theorem c_102_591 : m_code 102 591 = some (.iconst 0, 0, 0, 0, 0) := by decide +kernel
theorem c_102_592 : m_code 102 592 = some (.iconst 2, 0, 0, 0, 0) := by decide +kernel
theorem c_102_593 : m_code 102 593 = some (.iload 10, 0, 0, 0, 0) := by decide +kernel
theorem c_102_595 : m_code 102 595 = some (.iload 9, 0, 0, 0, 0) := by decide +kernel
theorem c_102_597 : m_code 102 597 = some (.invokevirtual 69, 69, 605, 1, 0) := by decide +kernel
theorem c_102_600 : m_code 102 600 = some (.iload 12, 0, 0, 0, 0) := by decide +kernel
theorem c_102_602 : m_code 102 602 = some (.iload 12, 0, 0, 0, 0) := by decide +kernel
theorem c_102_604 : m_code 102 604 = some (.imul, 0, 0, 0, 0) := by decide +kernel
theorem c_102_605 : m_code 102 605 = some (.if_icmp .gt 26, 631, 0, 0, 0) := by decide +kernel
theorem c_102_608 : m_code 102 608 = some (.aload_n 1, 0, 0, 0, 0) := by decide +kernel
theorem c_102_609 : m_code 102 609 = some (.iconst 0, 0, 0, 0, 0) := by decide +kernel
theorem c_102_610 : m_code 102 610 = some (.iconst 2, 0, 0, 0, 0) := by decide +kernel
theorem c_102_611 : m_code 102 611 = some (.iload 10, 0, 0, 0, 0) := by decide +kernel
theorem c_102_613 : m_code 102 613 = some (.iload 9, 0, 0, 0, 0) := by decide +kernel
theorem c_102_615 : m_code 102 615 = some (.invokevirtual 69, 69, 605, 1, 0) := by decide +kernel
theorem c_102_618 : m_code 102 618 = some (.aload_n 1, 0, 0, 0, 0) := by decide +kernel
theorem c_102_619 : m_code 102 619 = some (.iconst 0, 0, 0, 0, 0) := by decide +kernel
theorem c_102_620 : m_code 102 620 = some (.iconst 1, 0, 0, 0, 0) := by decide +kernel
theorem c_102_621 : m_code 102 621 = some (.iload 10, 0, 0, 0, 0) := by decide +kernel
theorem c_102_623 : m_code 102 623 = some (.iload 9, 0, 0, 0, 0) := by decide +kernel
theorem c_102_625 : m_code 102 625 = some (.invokevirtual 69, 69, 605, 1, 0) := by decide +kernel
theorem c_102_628 : m_code 102 628 = some (.if_icmp .ge 5, 633, 0, 0, 0) := by decide +kernel
theorem c_102_631 : m_code 102 631 = some (.iconst 0, 0, 0, 0, 0) := by decide +kernel
theorem c_102_632 : m_code 102 632 = some (.ireturn, 0, 0, 0, 0) := by decide +kernel
theorem c_102_633 : m_code 102 633 = some (.iload 10, 0, 0, 0, 0) := by decide +kernel
theorem c_102_635 : m_code 102 635 = some (.ifCond .le 32, 667, 0, 0, 0) := by decide +kernel
theorem c_102_638 : m_code 102 638 = some (.iload 12, 0, 0, 0, 0) := by decide +kernel
theorem c_102_640 : m_code 102 640 = some (.aload_n 1, 0, 0, 0, 0) := by decide +kernel
theorem c_102_641 : m_code 102 641 = some (.iconst 0, 0, 0, 0, 0) := by decide +kernel
theorem c_102_642 : m_code 102 642 = some (.iconst 0, 0, 0, 0, 0) := by decide +kernel
theorem c_102_643 : m_code 102 643 = some (.iload 10, 0, 0, 0, 0) := by decide +kernel
theorem c_102_645 : m_code 102 645 = some (.iconst 1, 0, 0, 0, 0) := by decide +kernel
theorem c_102_646 : m_code 102 646 = some (.isub, 0, 0, 0, 0) := by decide +kernel
theorem c_102_647 : m_code 102 647 = some (.iload 9, 0, 0, 0, 0) := by decide +kernel
theorem c_102_649 : m_code 102 649 = some (.invokevirtual 69, 69, 605, 1, 0) := by decide +kernel
theorem c_102_652 : m_code 102 652 = some (.isub, 0, 0, 0, 0) := by decide +kernel
theorem c_102_653 : m_code 102 653 = some (.invokestatic 75, 0, 704, 5, 0) := by decide +kernel
theorem c_102_656 : m_code 102 656 = some (.iconst 1, 0, 0, 0, 0) := by decide +kernel
theorem c_102_657 : m_code 102 657 = some (.if_icmp .le 10, 667, 0, 0, 0) := by decide +kernel
theorem c_102_660 : m_code 102 660 = some (.iload 8, 0, 0, 0, 0) := by decide +kernel
theorem c_102_662 : m_code 102 662 = some (.iload 4, 0, 0, 0, 0) := by decide +kernel
theorem c_102_664 : m_code 102 664 = some (.if_icmp .lt 54, 718, 0, 0, 0) := by decide +kernel
theorem c_102_667 : m_code 102 667 = some (.iload 9, 0, 0, 0, 0) := by decide +kernel
theorem c_102_669 : m_code 102 669 = some (.ifCond .le 51, 720, 0, 0, 0) := by decide +kernel
theorem c_102_672 : m_code 102 672 = some (.iload 11, 0, 0, 0, 0) := by decide +kernel
theorem c_102_674 : m_code 102 674 = some (.ifCond .eq 46, 720, 0, 0, 0) := by decide +kernel
theorem c_102_677 : m_code 102 677 = some (.aload_n 1, 0, 0, 0, 0) := by decide +kernel
theorem c_102_678 : m_code 102 678 = some (.iconst 0, 0, 0, 0, 0) := by decide +kernel
theorem c_102_679 : m_code 102 679 = some (.iload 10, 0, 0, 0, 0) := by decide +kernel
theorem c_102_681 : m_code 102 681 = some (.iload 9, 0, 0, 0, 0) := by decide +kernel
theorem c_102_683 : m_code 102 683 = some (.iconst 1, 0, 0, 0, 0) := by decide +kernel
theorem c_102_684 : m_code 102 684 = some (.isub, 0, 0, 0, 0) := by decide +kernel
theorem c_102_685 : m_code 102 685 = some (.invokevirtual 66, 60, 502, 1, 0) := by decide +kernel
theorem c_102_688 : m_code 102 688 = some (.bipush 127, 0, 0, 0, 0) := by decide +kernel
theorem c_102_690 : m_code 102 690 = some (.if_icmp .le 30, 720, 0, 0, 0) := by decide +kernel
theorem c_102_693 : m_code 102 693 = some (.aload_n 1, 0, 0, 0, 0) := by decide +kernel
theorem c_102_694 : m_code 102 694 = some (.iconst 0, 0, 0, 0, 0) := by decide +kernel
theorem c_102_695 : m_code 102 695 = some (.iconst 4, 0, 0, 0, 0) := by decide +kernel
theorem c_102_696 : m_code 102 696 = some (.iload 10, 0, 0, 0, 0) := by decide +kernel
theorem c_102_698 : m_code 102 698 = some (.iload 9, 0, 0, 0, 0) := by decide +kernel
theorem c_102_700 : m_code 102 700 = some (.invokevirtual 72, 67, 578, 1, 0) := by decide +kernel
theorem c_102_703 : m_code 102 703 = some (.aload_n 1, 0, 0, 0, 0) := by decide +kernel
theorem c_102_704 : m_code 102 704 = some (.iconst 0, 0, 0, 0, 0) := by decide +kernel
theorem c_102_705 : m_code 102 705 = some (.iconst 4, 0, 0, 0, 0) := by decide +kernel
theorem c_102_706 : m_code 102 706 = some (.iload 10, 0, 0, 0, 0) := by decide +kernel
theorem c_102_708 : m_code 102 708 = some (.iload 9, 0, 0, 0, 0) := by decide +kernel
theorem c_102_710 : m_code 102 710 = some (.iconst 1, 0, 0, 0, 0) := by decide +kernel
theorem c_102_711 : m_code 102 711 = some (.isub, 0, 0, 0, 0) := by decide +kernel
theorem c_102_712 : m_code 102 712 = some (.invokevirtual 72, 67, 578, 1, 0) := by decide +kernel
theorem c_102_715 : m_code 102 715 = some (.if_icmp .eq 5, 720, 0, 0, 0) := by decide +kernel
theorem c_102_718 : m_code 102 718 = some (.iconst 0, 0, 0, 0, 0) := by decide +kernel
theorem c_102_719 : m_code 102 719 = some (.ireturn, 0, 0, 0, 0) := by decide +kernel
theorem c_102_720 : m_code 102 720 = some (.iinc 10 1, 0, 0, 0, 0) := by decide +kernel
theorem c_102_723 : m_code 102 723 = some (.goto (-249), 474, 0, 0, 0) := by decide +kernel
theorem c_102_726 : m_code 102 726 = some (.iinc 9 1, 0, 0, 0, 0) := by decide +kernel
theorem c_102_729 : m_code 102 729 = some (.goto (-264), 465, 0, 0, 0) := by decide +kernel
theorem c_102_732 : m_code 102 732 = some (.aload_n 1, 0, 0, 0, 0) := by decide +kernel
theorem c_102_733 : m_code 102 733 = some (.invokevirtual 36, 75, 676, 1, 0) := by decide +kernel
theorem c_102_736 : m_code 102 736 = some (.lload 5, 0, 0, 0, 0) := by decide +kernel
theorem c_102_738 : m_code 102 738 = some (.lcmp, 0, 0, 0, 0) := by decide +kernel
theorem c_102_739 : m_code 102 739 = some (.ifCond .eq 5, 744, 0, 0, 0) := by decide +kernel
theorem c_102_742 : m_code 102 742 = some (.iconst 0, 0, 0, 0, 0) := by decide +kernel
theorem c_102_743 : m_code 102 743 = some (.ireturn, 0, 0, 0, 0) := by decide +kernel
theorem c_102_744 : m_code 102 744 = some (.aload_n 1, 0, 0, 0, 0) := by decide +kernel
theorem c_102_745 : m_code 102 745 = some (.iconst 0, 0, 0, 0, 0) := by decide +kernel
theorem c_102_746 : m_code 102 746 = some (.iconst 1, 0, 0, 0, 0) := by decide +kernel
theorem c_102_747 : m_code 102 747 = some (.invokevirtual 81, 56, 363, 1, 0) := by decide +kernel
theorem c_102_750 : m_code 102 750 = some (.pop, 0, 0, 0, 0) := by decide +kernel
theorem c_102_751 : m_code 102 751 = some (.iconst 0, 0, 0, 0, 0) := by decide +kernel
theorem c_102_752 : m_code 102 752 = some (.istore 9, 0, 0, 0, 0) := by decide +kernel
theorem c_102_754 : m_code 102 754 = some (.iload 9, 0, 0, 0, 0) := by decide +kernel
theorem c_102_756 : m_code 102 756 = some (.iconst 4, 0, 0, 0, 0) := by decide +kernel
theorem c_102_757 : m_code 102 757 = some (.if_icmp .ge 22, 779, 0, 0, 0) := by decide +kernel
theorem c_102_760 : m_code 102 760 = some (.aload_n 1, 0, 0, 0, 0) := by decide +kernel
theorem c_102_761 : m_code 102 761 = some (.iconst 1, 0, 0, 0, 0) := by decide +kernel
theorem c_102_762 : m_code 102 762 = some (.iconst 0, 0, 0, 0, 0) := by decide +kernel
theorem c_102_763 : m_code 102 763 = some (.invokevirtual 84, 57, 371, 1, 0) := by decide +kernel
theorem c_102_766 : m_code 102 766 = some (.iload 4, 0, 0, 0, 0) := by decide +kernel
theorem c_102_768 : m_code 102 768 = some (.if_icmp .eq 5, 773, 0, 0, 0) := by decide +kernel
theorem c_102_771 : m_code 102 771 = some (.iconst 0, 0, 0, 0, 0) := by decide +kernel
theorem c_102_772 : m_code 102 772 = some (.ireturn, 0, 0, 0, 0) := by decide +kernel
theorem c_102_773 : m_code 102 773 = some (.iinc 9 1, 0, 0, 0, 0) := by decide +kernel
theorem c_102_776 : m_code 102 776 = some (.goto (-22), 754, 0, 0, 0) := by decide +kernel
theorem c_102_779 : m_code 102 779 = some (.iconst 0, 0, 0, 0, 0) := by decide +kernel
theorem c_102_780 : m_code 102 780 = some (.istore 9, 0, 0, 0, 0) := by decide +kernel
theorem c_102_782 : m_code 102 782 = some (.iload 9, 0, 0, 0, 0) := by decide +kernel
theorem c_102_784 : m_code 102 784 = some (.iconst 2, 0, 0, 0, 0) := by decide +kernel
theorem c_102_785 : m_code 102 785 = some (.if_icmp .ge 22, 807, 0, 0, 0) := by decide +kernel
theorem c_102_788 : m_code 102 788 = some (.aload_n 1, 0, 0, 0, 0) := by decide +kernel
theorem c_102_789 : m_code 102 789 = some (.iconst 1, 0, 0, 0, 0) := by decide +kernel
theorem c_102_790 : m_code 102 790 = some (.iconst 1, 0, 0, 0, 0) := by decide +kernel
theorem c_102_791 : m_code 102 791 = some (.invokevirtual 84, 57, 371, 1, 0) := by decide +kernel
theorem c_102_794 : m_code 102 794 = some (.iload 4, 0, 0, 0, 0) := by decide +kernel
theorem c_102_796 : m_code 102 796 = some (.if_icmp .eq 5, 801, 0, 0, 0) := by decide +kernel
theorem c_102_799 : m_code 102 799 = some (.iconst 0, 0, 0, 0, 0) := by decide +kernel
theorem c_102_800 : m_code 102 800 = some (.ireturn, 0, 0, 0, 0) := by decide +kernel
theorem c_102_801 : m_code 102 801 = some (.iinc 9 1, 0, 0, 0, 0) := by decide +kernel
theorem c_102_804 : m_code 102 804 = some (.goto (-22), 782, 0, 0, 0) := by decide +kernel
theorem c_102_807 : m_code 102 807 = some (.aload_n 1, 0, 0, 0, 0) := by decide +kernel
theorem c_102_808 : m_code 102 808 = some (.iconst 0, 0, 0, 0, 0) := by decide +kernel
theorem c_102_809 : m_code 102 809 = some (.iconst 1, 0, 0, 0, 0) := by decide +kernel
theorem c_102_810 : m_code 102 810 = some (.invokevirtual 50, 64, 526, 1, 0) := by decide +kernel
theorem c_102_813 : m_code 102 813 = some (.dconst 0, 0, 0, 0, 0) := by decide +kernel
theorem c_102_814 : m_code 102 814 = some (.dcmp .l, 0, 0, 0, 0) := by decide +kernel
theorem c_102_815 : m_code 102 815 = some (.ifCond .ne 36, 851, 0, 0, 0) := by decide +kernel
theorem c_102_818 : m_code 102 818 = some (.aload_n 1, 0, 0, 0, 0) := by decide +kernel
theorem c_102_819 : m_code 102 819 = some (.iconst 1, 0, 0, 0, 0) := by decide +kernel
theorem c_102_820 : m_code 102 820 = some (.iconst 3, 0, 0, 0, 0) := by decide +kernel
theorem c_102_821 : m_code 102 821 = some (.invokevirtual 84, 57, 371, 1, 0) := by decide +kernel
theorem c_102_824 : m_code 102 824 = some (.iconst 4, 0, 0, 0, 0) := by decide +kernel
theorem c_102_825 : m_code 102 825 = some (.iload 4, 0, 0, 0, 0) := by decide +kernel
theorem c_102_827 : m_code 102 827 = some (.imul, 0, 0, 0, 0) := by decide +kernel
theorem c_102_828 : m_code 102 828 = some (.if_icmp .ne 23, 851, 0, 0, 0) := by decide +kernel
theorem c_102_831 : m_code 102 831 = some (.aload_n 1, 0, 0, 0, 0) := by decide +kernel
theorem c_102_832 : m_code 102 832 = some (.iconst 1, 0, 0, 0, 0) := by decide +kernel
theorem c_102_833 : m_code 102 833 = some (.iconst 2, 0, 0, 0, 0) := by decide +kernel
theorem c_102_834 : m_code 102 834 = some (.invokevirtual 84, 57, 371, 1, 0) := by decide +kernel
theorem c_102_837 : m_code 102 837 = some (.iload 4, 0, 0, 0, 0) := by decide +kernel
theorem c_102_839 : m_code 102 839 = some (.if_icmp .ne 12, 851, 0, 0, 0) := by decide +kernel
theorem c_102_842 : m_code 102 842 = some (.aload_n 1, 0, 0, 0, 0) := by decide +kernel
theorem c_102_843 : m_code 102 843 = some (.iconst 1, 0, 0, 0, 0) := by decide +kernel
theorem c_102_844 : m_code 102 844 = some (.iconst 0, 0, 0, 0, 0) := by decide +kernel
theorem c_102_845 : m_code 102 845 = some (.invokevirtual 81, 56, 363, 1, 0) := by decide +kernel
theorem c_102_848 : m_code 102 848 = some (.ifCond .eq 5, 853, 0, 0, 0) := by decide +kernel
theorem c_102_851 : m_code 102 851 = some (.iconst 0, 0, 0, 0, 0) := by decide +kernel
theorem c_102_852 : m_code 102 852 = some (.ireturn, 0, 0, 0, 0) := by decide +kernel
theorem c_102_853 : m_code 102 853 = some (.bipush 7, 0, 0, 0, 0) := by decide +kernel
theorem c_102_855 : m_code 102 855 = some (.istore 9, 0, 0, 0, 0) := by decide +kernel
theorem c_102_857 : m_code 102 857 = some (.iload 9, 0, 0, 0, 0) := by decide +kernel
theorem c_102_859 : m_code 102 859 = some (.bipush 9, 0, 0, 0, 0) := by decide +kernel
theorem c_102_861 : m_code 102 861 = some (.if_icmp .ge 86, 947, 0, 0, 0) := by decide +kernel
theorem c_102_864 : m_code 102 864 = some (.aload_n 1, 0, 0, 0, 0) := by decide +kernel
theorem c_102_865 : m_code 102 865 = some (.iconst 0, 0, 0, 0, 0) := by decide +kernel
theorem c_102_866 : m_code 102 866 = some (.iconst 1, 0, 0, 0, 0) := by decide +kernel
theorem c_102_867 : m_code 102 867 = some (.invokevirtual 81, 56, 363, 1, 0) := by decide +kernel
theorem c_102_870 : m_code 102 870 = some (.pop, 0, 0, 0, 0) := by decide +kernel
theorem c_102_871 : m_code 102 871 = some (.aload_n 1, 0, 0, 0, 0) := by decide +kernel
theorem c_102_872 : m_code 102 872 = some (.iconst 1, 0, 0, 0, 0) := by decide +kernel
theorem c_102_873 : m_code 102 873 = some (.iload 9, 0, 0, 0, 0) := by decide +kernel
theorem c_102_875 : m_code 102 875 = some (.invokevirtual 87, 58, 401, 1, 0) := by decide +kernel
theorem c_102_878 : m_code 102 878 = some (.pop, 0, 0, 0, 0) := by decide +kernel
theorem c_102_879 : m_code 102 879 = some (.aload_n 1, 0, 0, 0, 0) := by decide +kernel
theorem c_102_880 : m_code 102 880 = some (.iconst 1, 0, 0, 0, 0) := by decide +kernel
theorem c_102_881 : m_code 102 881 = some (.iload 9, 0, 0, 0, 0) := by decide +kernel
theorem c_102_883 : m_code 102 883 = some (.invokevirtual 87, 58, 401, 1, 0) := by decide +kernel
theorem c_102_886 : m_code 102 886 = some (.ifCond .ne 53, 939, 0, 0, 0) := by decide +kernel
theorem c_102_889 : m_code 102 889 = some (.iload 9, 0, 0, 0, 0) := by decide +kernel
theorem c_102_891 : m_code 102 891 = some (.bipush 7, 0, 0, 0, 0) := by decide +kernel
theorem c_102_893 : m_code 102 893 = some (.if_icmp .ne 7, 900, 0, 0, 0) := by decide +kernel
theorem c_102_896 : m_code 102 896 = some (.iconst 1, 0, 0, 0, 0) := by decide +kernel
theorem c_102_897 : m_code 102 897 = some (.goto 4, 901, 0, 0, 0) := by decide +kernel
theorem c_102_900 : m_code 102 900 = some (.iconst 0, 0, 0, 0, 0) := by decide +kernel
theorem c_102_901 : m_code 102 901 = some (.aload_n 1, 0, 0, 0, 0) := by decide +kernel
theorem c_102_902 : m_code 102 902 = some (.iconst 1, 0, 0, 0, 0) := by decide +kernel
theorem c_102_903 : m_code 102 903 = some (.iconst 4, 0, 0, 0, 0) := by decide +kernel
theorem c_102_904 : m_code 102 904 = some (.invokevirtual 47, 61, 506, 1, 0) := by decide +kernel
theorem c_102_907 : m_code 102 907 = some (.aload_n 1, 0, 0, 0, 0) := by decide +kernel
theorem c_102_908 : m_code 102 908 = some (.iconst 0, 0, 0, 0, 0) := by decide +kernel
theorem c_102_909 : m_code 102 909 = some (.iconst 4, 0, 0, 0, 0) := by decide +kernel
theorem c_102_910 : m_code 102 910 = some (.invokevirtual 47, 61, 506, 1, 0) := by decide +kernel
theorem c_102_913 : m_code 102 913 = some (.if_icmp .gt 7, 920, 0, 0, 0) := by decide +kernel
theorem c_102_916 : m_code 102 916 = some (.iconst 1, 0, 0, 0, 0) := by decide +kernel
theorem c_102_917 : m_code 102 917 = some (.goto 4, 921, 0, 0, 0) := by decide +kernel
theorem c_102_920 : m_code 102 920 = some (.iconst 0, 0, 0, 0, 0) := by decide +kernel
theorem c_102_921 : m_code 102 921 = some (.if_icmp .eq 20, 941, 0, 0, 0) := by decide +kernel
theorem c_102_924 : m_code 102 924 = some (.aload_n 1, 0, 0, 0, 0) := by decide +kernel
theorem c_102_925 : m_code 102 925 = some (.iconst 1, 0, 0, 0, 0) := by decide +kernel
theorem c_102_926 : m_code 102 926 = some (.iconst 4, 0, 0, 0, 0) := by decide +kernel
theorem c_102_927 : m_code 102 927 = some (.invokevirtual 47, 61, 506, 1, 0) := by decide +kernel
theorem c_102_930 : m_code 102 930 = some (.aload_n 1, 0, 0, 0, 0) := by decide +kernel
theorem c_102_931 : m_code 102 931 = some (.iconst 0, 0, 0, 0, 0) := by decide +kernel
theorem c_102_932 : m_code 102 932 = some (.iconst 4, 0, 0, 0, 0) := by decide +kernel
theorem c_102_933 : m_code 102 933 = some (.invokevirtual 47, 61, 506, 1, 0) := by decide +kernel
theorem c_102_936 : m_code 102 936 = some (.if_icmp .eq 5, 941, 0, 0, 0) := by decide +kernel
theorem c_102_939 : m_code 102 939 = some (.iconst 0, 0, 0, 0, 0) := by decide +kernel
theorem c_102_940 : m_code 102 940 = some (.ireturn, 0, 0, 0, 0) := by decide +kernel
theorem c_102_941 : m_code 102 941 = some (.iinc 9 1, 0, 0, 0, 0) := by decide +kernel
theorem c_102_944 : m_code 102 944 = some (.goto (-87), 857, 0, 0, 0) := by decide +kernel
theorem c_102_947 : m_code 102 947 = some (.iconst 3, 0, 0, 0, 0) := by decide +kernel
theorem c_102_948 : m_code 102 948 = some (.istore 9, 0, 0, 0, 0) := by decide +kernel
theorem c_102_950 : m_code 102 950 = some (.iload 9, 0, 0, 0, 0) := by decide +kernel
theorem c_102_952 : m_code 102 952 = some (.iconst 5, 0, 0, 0, 0) := by decide +kernel
theorem c_102_953 : m_code 102 953 = some (.if_icmp .ge 115, 1068, 0, 0, 0) := by decide +kernel
theorem c_102_956 : m_code 102 956 = some (.aload_n 1, 0, 0, 0, 0) := by decide +kernel
theorem c_102_957 : m_code 102 957 = some (.iconst 0, 0, 0, 0, 0) := by decide +kernel
theorem c_102_958 : m_code 102 958 = some (.iconst 1, 0, 0, 0, 0) := by decide +kernel
theorem c_102_959 : m_code 102 959 = some (.invokevirtual 81, 56, 363, 1, 0) := by decide +kernel
theorem c_102_962 : m_code 102 962 = some (.pop, 0, 0, 0, 0) := by decide +kernel
theorem c_102_963 : m_code 102 963 = some (.aload_n 1, 0, 0, 0, 0) := by decide +kernel
theorem c_102_964 : m_code 102 964 = some (.iconst 0, 0, 0, 0, 0) := by decide +kernel
theorem c_102_965 : m_code 102 965 = some (.iconst 2, 0, 0, 0, 0) := by decide +kernel
theorem c_102_966 : m_code 102 966 = some (.invokevirtual 81, 56, 363, 1, 0) := by decide +kernel
theorem c_102_969 : m_code 102 969 = some (.pop, 0, 0, 0, 0) := by decide +kernel
theorem c_102_970 : m_code 102 970 = some (.aload_n 1, 0, 0, 0, 0) := by decide +kernel
theorem c_102_971 : m_code 102 971 = some (.iconst 1, 0, 0, 0, 0) := by decide +kernel
theorem c_102_972 : m_code 102 972 = some (.iload 9, 0, 0, 0, 0) := by decide +kernel
theorem c_102_974 : m_code 102 974 = some (.invokevirtual 87, 58, 401, 1, 0) := by decide +kernel
theorem c_102_977 : m_code 102 977 = some (.pop, 0, 0, 0, 0) := by decide +kernel
theorem c_102_978 : m_code 102 978 = some (.aload_n 1, 0, 0, 0, 0) := by decide +kernel
theorem c_102_979 : m_code 102 979 = some (.iconst 2, 0, 0, 0, 0) := by decide +kernel
theorem c_102_980 : m_code 102 980 = some (.iload 9, 0, 0, 0, 0) := by decide +kernel
theorem c_102_982 : m_code 102 982 = some (.iconst 2, 0, 0, 0, 0) := by decide +kernel
theorem c_102_983 : m_code 102 983 = some (.iadd, 0, 0, 0, 0) := by decide +kernel
theorem c_102_984 : m_code 102 984 = some (.invokevirtual 87, 58, 401, 1, 0) := by decide +kernel
theorem c_102_987 : m_code 102 987 = some (.pop, 0, 0, 0, 0) := by decide +kernel
theorem c_102_988 : m_code 102 988 = some (.iconst 0, 0, 0, 0, 0) := by decide +kernel
theorem c_102_989 : m_code 102 989 = some (.istore 10, 0, 0, 0, 0) := by decide +kernel
theorem c_102_991 : m_code 102 991 = some (.iload 10, 0, 0, 0, 0) := by decide +kernel
theorem c_102_993 : m_code 102 993 = some (.iload_n 3, 0, 0, 0, 0) := by decide +kernel
theorem c_102_994 : m_code 102 994 = some (.if_icmp .ge 68, 1062, 0, 0, 0) := by decide +kernel
theorem c_102_997 : m_code 102 997 = some (.iconst 0, 0, 0, 0, 0) := by decide +kernel
theorem c_102_998 : m_code 102 998 = some (.istore 11, 0, 0, 0, 0) := by decide +kernel
theorem c_102_1000 : m_code 102 1000 = some (.iload 11, 0, 0, 0, 0) := by decide +kernel
theorem c_102_1002 : m_code 102 1002 = some (.iload_n 2, 0, 0, 0, 0) := by decide +kernel
theorem c_102_1003 : m_code 102 1003 = some (.if_icmp .ge 53, 1056, 0, 0, 0) := by decide +kernel
theorem c_102_1006 : m_code 102 1006 = some (.aload_n 1, 0, 0, 0, 0) := by decide +kernel
theorem c_102_1007 : m_code 102 1007 = some (.iconst 1, 0, 0, 0, 0) := by decide +kernel
theorem c_102_1008 : m_code 102 1008 = some (.iload 11, 0, 0, 0, 0) := by decide +kernel
theorem c_102_1010 : m_code 102 1010 = some (.iload 10, 0, 0, 0, 0) := by decide +kernel
theorem c_102_1012 : m_code 102 1012 = some (.invokevirtual 66, 60, 502, 1, 0) := by decide +kernel
theorem c_102_1015 : m_code 102 1015 = some (.aload_n 1, 0, 0, 0, 0) := by decide +kernel
theorem c_102_1016 : m_code 102 1016 = some (.iconst 0, 0, 0, 0, 0) := by decide +kernel
theorem c_102_1017 : m_code 102 1017 = some (.iload 11, 0, 0, 0, 0) := by decide +kernel
theorem c_102_1019 : m_code 102 1019 = some (.iload 10, 0, 0, 0, 0) := by decide +kernel
theorem c_102_1021 : m_code 102 1021 = some (.invokevirtual 66, 60, 502, 1, 0) := by decide +kernel
theorem c_102_1024 : m_code 102 1024 = some (.if_icmp .gt 24, 1048, 0, 0, 0) := by decide +kernel
theorem c_102_1027 : m_code 102 1027 = some (.aload_n 1, 0, 0, 0, 0) := by decide +kernel
theorem c_102_1028 : m_code 102 1028 = some (.iconst 0, 0, 0, 0, 0) := by decide +kernel
theorem c_102_1029 : m_code 102 1029 = some (.iload 11, 0, 0, 0, 0) := by decide +kernel
theorem c_102_1031 : m_code 102 1031 = some (.iload 10, 0, 0, 0, 0) := by decide +kernel
theorem c_102_1033 : m_code 102 1033 = some (.invokevirtual 66, 60, 502, 1, 0) := by decide +kernel
theorem c_102_1036 : m_code 102 1036 = some (.aload_n 1, 0, 0, 0, 0) := by decide +kernel
theorem c_102_1037 : m_code 102 1037 = some (.iconst 2, 0, 0, 0, 0) := by decide +kernel
theorem c_102_1038 : m_code 102 1038 = some (.iload 11, 0, 0, 0, 0) := by decide +kernel
theorem c_102_1040 : m_code 102 1040 = some (.iload 10, 0, 0, 0, 0) := by decide +kernel
theorem c_102_1042 : m_code 102 1042 = some (.invokevirtual 66, 60, 502, 1, 0) := by decide +kernel
theorem c_102_1045 : m_code 102 1045 = some (.if_icmp .le 5, 1050, 0, 0, 0) := by decide +kernel
theorem c_102_1048 : m_code 102 1048 = some (.iconst 0, 0, 0, 0, 0) := by decide +kernel
theorem c_102_1049 : m_code 102 1049 = some (.ireturn, 0, 0, 0, 0) := by decide +kernel
theorem c_102_1050 : m_code 102 1050 = some (.iinc 11 1, 0, 0, 0, 0) := by decide +kernel
theorem c_102_1053 : m_code 102 1053 = some (.goto (-53), 1000, 0, 0, 0) := by decide +kernel
theorem c_102_1056 : m_code 102 1056 = some (.iinc 10 1, 0, 0, 0, 0) := by decide +kernel
theorem c_102_1059 : m_code 102 1059 = some (.goto (-68), 991, 0, 0, 0) := by decide +kernel
theorem c_102_1062 : m_code 102 1062 = some (.iinc 9 1, 0, 0, 0, 0) := by decide +kernel
theorem c_102_1065 : m_code 102 1065 = some (.goto (-115), 950, 0, 0, 0) := by decide +kernel
theorem c_102_1068 : m_code 102 1068 = some (.aload_n 1, 0, 0, 0, 0) := by decide +kernel
theorem c_102_1069 : m_code 102 1069 = some (.iconst 0, 0, 0, 0, 0) := by decide +kernel
theorem c_102_1070 : m_code 102 1070 = some (.iconst 1, 0, 0, 0, 0) := by decide +kernel
theorem c_102_1071 : m_code 102 1071 = some (.invokevirtual 81, 56, 363, 1, 0) := by decide +kernel
theorem c_102_1074 : m_code 102 1074 = some (.pop, 0, 0, 0, 0) := by decide +kernel
theorem c_102_1075 : m_code 102 1075 = some (.aload_n 1, 0, 0, 0, 0) := by decide +kernel
theorem c_102_1076 : m_code 102 1076 = some (.iconst 1, 0, 0, 0, 0) := by decide +kernel
theorem c_102_1077 : m_code 102 1077 = some (.iconst 0, 0, 0, 0, 0) := by decide +kernel
theorem c_102_1078 : m_code 102 1078 = some (.invokevirtual 90, 59, 452, 1, 0) := by decide +kernel
theorem c_102_1081 : m_code 102 1081 = some (.aload_n 1, 0, 0, 0, 0) := by decide +kernel
theorem c_102_1082 : m_code 102 1082 = some (.iconst 1, 0, 0, 0, 0) := by decide +kernel
theorem c_102_1083 : m_code 102 1083 = some (.iconst 0, 0, 0, 0, 0) := by decide +kernel
theorem c_102_1084 : m_code 102 1084 = some (.invokevirtual 90, 59, 452, 1, 0) := by decide +kernel
theorem c_102_1087 : m_code 102 1087 = some (.iadd, 0, 0, 0, 0) := by decide +kernel
theorem c_102_1088 : m_code 102 1088 = some (.ifCond .lt 14, 1102, 0, 0, 0) := by decide +kernel
theorem c_102_1091 : m_code 102 1091 = some (.aload_n 1, 0, 0, 0, 0) := by decide +kernel
theorem c_102_1092 : m_code 102 1092 = some (.iconst 0, 0, 0, 0, 0) := by decide +kernel
theorem c_102_1093 : m_code 102 1093 = some (.iconst 1, 0, 0, 0, 0) := by decide +kernel
theorem c_102_1094 : m_code 102 1094 = some (.invokevirtual 50, 64, 526, 1, 0) := by decide +kernel
theorem c_102_1097 : m_code 102 1097 = some (.dconst 0, 0, 0, 0, 0) := by decide +kernel
theorem c_102_1098 : m_code 102 1098 = some (.dcmp .l, 0, 0, 0, 0) := by decide +kernel
theorem c_102_1099 : m_code 102 1099 = some (.ifCond .eq 5, 1104, 0, 0, 0) := by decide +kernel
theorem c_102_1102 : m_code 102 1102 = some (.iconst 0, 0, 0, 0, 0) := by decide +kernel
theorem c_102_1103 : m_code 102 1103 = some (.ireturn, 0, 0, 0, 0) := by decide +kernel
theorem c_102_1104 : m_code 102 1104 = some (.aload_n 1, 0, 0, 0, 0) := by decide +kernel
theorem c_102_1105 : m_code 102 1105 = some (.iconst 1, 0, 0, 0, 0) := by decide +kernel
theorem c_102_1106 : m_code 102 1106 = some (.iconst 1, 0, 0, 0, 0) := by decide +kernel
theorem c_102_1107 : m_code 102 1107 = some (.aload_n 0, 0, 0, 0, 0) := by decide +kernel
theorem c_102_1108 : m_code 102 1108 = some (.bipush 12, 0, 0, 0, 0) := by decide +kernel
theorem c_102_1110 : m_code 102 1110 = some (.invokestatic 12, 101, 700, 1, 0) := by decide +kernel
theorem c_102_1113 : m_code 102 1113 = some (.iconst 2, 0, 0, 0, 0) := by decide +kernel
theorem c_102_1114 : m_code 102 1114 = some (.invokestatic 18, 100, 696, 1, 0) := by decide +kernel
theorem c_102_1117 : m_code 102 1117 = some (.iadd, 0, 0, 0, 0) := by decide +kernel
theorem c_102_1118 : m_code 102 1118 = some (.invokevirtual 90, 59, 452, 1, 0) := by decide +kernel
theorem c_102_1121 : m_code 102 1121 = some (.pop, 0, 0, 0, 0) := by decide +kernel
theorem c_102_1122 : m_code 102 1122 = some (.iconst 1, 0, 0, 0, 0) := by decide +kernel
theorem c_102_1123 : m_code 102 1123 = some (.istore 9, 0, 0, 0, 0) := by decide +kernel
theorem c_102_1125 : m_code 102 1125 = some (.iload 9, 0, 0, 0, 0) := by decide +kernel
theorem c_102_1127 : m_code 102 1127 = some (.iload 4, 0, 0, 0, 0) := by decide +kernel
theorem c_102_1129 : m_code 102 1129 = some (.if_icmp .ge 93, 1222, 0, 0, 0) := by decide +kernel
theorem c_102_1132 : m_code 102 1132 = some (.iload 9, 0, 0, 0, 0) := by decide +kernel
theorem c_102_1134 : m_code 102 1134 = some (.iload_n 2, 0, 0, 0, 0) := by decide +kernel
theorem c_102_1135 : m_code 102 1135 = some (.irem, 0, 0, 0, 0) := by decide +kernel
theorem c_102_1136 : m_code 102 1136 = some (.istore 10, 0, 0, 0, 0) := by decide +kernel
theorem c_102_1138 : m_code 102 1138 = some (.iload 9, 0, 0, 0, 0) := by decide +kernel
theorem c_102_1140 : m_code 102 1140 = some (.iload_n 2, 0, 0, 0, 0) := by decide +kernel
theorem c_102_1141 : m_code 102 1141 = some (.idiv, 0, 0, 0, 0) := by decide +kernel
theorem c_102_1142 : m_code 102 1142 = some (.istore 11, 0, 0, 0, 0) := by decide +kernel
theorem c_102_1144 : m_code 102 1144 = some (.aload_n 1, 0, 0, 0, 0) := by decide +kernel
theorem c_102_1145 : m_code 102 1145 = some (.iconst 0, 0, 0, 0, 0) := by decide +kernel
theorem c_102_1146 : m_code 102 1146 = some (.iload 10, 0, 0, 0, 0) := by decide +kernel
theorem c_102_1148 : m_code 102 1148 = some (.iload 11, 0, 0, 0, 0) := by decide +kernel
theorem c_102_1150 : m_code 102 1150 = some (.invokevirtual 66, 60, 502, 1, 0) := by decide +kernel
theorem c_102_1153 : m_code 102 1153 = some (.aload_n 1, 0, 0, 0, 0) := by decide +kernel
theorem c_102_1154 : m_code 102 1154 = some (.iconst 0, 0, 0, 0, 0) := by decide +kernel
theorem c_102_1155 : m_code 102 1155 = some (.iconst 0, 0, 0, 0, 0) := by decide +kernel
theorem c_102_1156 : m_code 102 1156 = some (.iconst 0, 0, 0, 0, 0) := by decide +kernel
theorem c_102_1157 : m_code 102 1157 = some (.invokevirtual 66, 60, 502, 1, 0) := by decide +kernel
theorem c_102_1160 : m_code 102 1160 = some (.if_icmp .gt 7, 1167, 0, 0, 0) := by decide +kernel
theorem c_102_1163 : m_code 102 1163 = some (.iconst 1, 0, 0, 0, 0) := by decide +kernel
theorem c_102_1164 : m_code 102 1164 = some (.goto 4, 1168, 0, 0, 0) := by decide +kernel
theorem c_102_1167 : m_code 102 1167 = some (.iconst 0, 0, 0, 0, 0) := by decide +kernel
theorem c_102_1168 : m_code 102 1168 = some (.aload_n 1, 0, 0, 0, 0) := by decide +kernel
theorem c_102_1169 : m_code 102 1169 = some (.iconst 1, 0, 0, 0, 0) := by decide +kernel
theorem c_102_1170 : m_code 102 1170 = some (.iload 10, 0, 0, 0, 0) := by decide +kernel
theorem c_102_1172 : m_code 102 1172 = some (.iload 11, 0, 0, 0, 0) := by decide +kernel
theorem c_102_1174 : m_code 102 1174 = some (.invokevirtual 66, 60, 502, 1, 0) := by decide +kernel
theorem c_102_1177 : m_code 102 1177 = some (.aload_n 1, 0, 0, 0, 0) := by decide +kernel
theorem c_102_1178 : m_code 102 1178 = some (.iconst 1, 0, 0, 0, 0) := by decide +kernel
theorem c_102_1179 : m_code 102 1179 = some (.iconst 0, 0, 0, 0, 0) := by decide +kernel
theorem c_102_1180 : m_code 102 1180 = some (.iconst 0, 0, 0, 0, 0) := by decide +kernel
theorem c_102_1181 : m_code 102 1181 = some (.invokevirtual 66, 60, 502, 1, 0) := by decide +kernel
theorem c_102_1184 : m_code 102 1184 = some (.if_icmp .gt 7, 1191, 0, 0, 0) := by decide +kernel
theorem c_102_1187 : m_code 102 1187 = some (.iconst 1, 0, 0, 0, 0) := by decide +kernel
theorem c_102_1188 : m_code 102 1188 = some (.goto 4, 1192, 0, 0, 0) := by decide +kernel
theorem c_102_1191 : m_code 102 1191 = some (.iconst 0, 0, 0, 0, 0) := by decide +kernel
theorem c_102_1192 : m_code 102 1192 = some (.if_icmp .eq 24, 1216, 0, 0, 0) := by decide +kernel
theorem c_102_1195 : m_code 102 1195 = some (.aload_n 1, 0, 0, 0, 0) := by decide +kernel
theorem c_102_1196 : m_code 102 1196 = some (.iconst 0, 0, 0, 0, 0) := by decide +kernel
theorem c_102_1197 : m_code 102 1197 = some (.iload 10, 0, 0, 0, 0) := by decide +kernel
theorem c_102_1199 : m_code 102 1199 = some (.iload 11, 0, 0, 0, 0) := by decide +kernel
theorem c_102_1201 : m_code 102 1201 = some (.invokevirtual 66, 60, 502, 1, 0) := by decide +kernel
theorem c_102_1204 : m_code 102 1204 = some (.aload_n 1, 0, 0, 0, 0) := by decide +kernel
theorem c_102_1205 : m_code 102 1205 = some (.iconst 0, 0, 0, 0, 0) := by decide +kernel
theorem c_102_1206 : m_code 102 1206 = some (.iconst 0, 0, 0, 0, 0) := by decide +kernel
theorem c_102_1207 : m_code 102 1207 = some (.iconst 0, 0, 0, 0, 0) := by decide +kernel
theorem c_102_1208 : m_code 102 1208 = some (.invokevirtual 66, 60, 502, 1, 0) := by decide +kernel
theorem c_102_1211 : m_code 102 1211 = some (.if_icmp .ge 5, 1216, 0, 0, 0) := by decide +kernel
theorem c_102_1214 : m_code 102 1214 = some (.iconst 0, 0, 0, 0, 0) := by decide +kernel
theorem c_102_1215 : m_code 102 1215 = some (.ireturn, 0, 0, 0, 0) := by decide +kernel
theorem c_102_1216 : m_code 102 1216 = some (.iinc 9 1, 0, 0, 0, 0) := by decide +kernel
theorem c_102_1219 : m_code 102 1219 = some (.goto (-94), 1125, 0, 0, 0) := by decide +kernel
theorem c_102_1222 : m_code 102 1222 = some (.iconst 0, 0, 0, 0, 0) := by decide +kernel
theorem c_102_1223 : m_code 102 1223 = some (.istore 9, 0, 0, 0, 0) := by decide +kernel
theorem c_102_1225 : m_code 102 1225 = some (.iconst 0, 0, 0, 0, 0) := by decide +kernel
theorem c_102_1226 : m_code 102 1226 = some (.istore 10, 0, 0, 0, 0) := by decide +kernel
theorem c_102_1228 : m_code 102 1228 = some (.iload 10, 0, 0, 0, 0) := by decide +kernel
theorem c_102_1230 : m_code 102 1230 = some (.iload_n 3, 0, 0, 0, 0) := by decide +kernel
theorem c_102_1231 : m_code 102 1231 = some (.if_icmp .ge 133, 1364, 0, 0, 0) := by decide +kernel
theorem c_102_1234 : m_code 102 1234 = some (.aload_n 1, 0, 0, 0, 0) := by decide +kernel
theorem c_102_1235 : m_code 102 1235 = some (.iconst 0, 0, 0, 0, 0) := by decide +kernel
theorem c_102_1236 : m_code 102 1236 = some (.iload 10, 0, 0, 0, 0) := by decide +kernel
theorem c_102_1238 : m_code 102 1238 = some (.invokevirtual 93, 72, 660, 1, 0) := by decide +kernel
theorem c_102_1241 : m_code 102 1241 = some (.istore 11, 0, 0, 0, 0) := by decide +kernel
theorem c_102_1243 : m_code 102 1243 = some (.iload 11, 0, 0, 0, 0) := by decide +kernel
theorem c_102_1245 : m_code 102 1245 = some (.ifCond .lt 33, 1278, 0, 0, 0) := by decide +kernel
theorem c_102_1248 : m_code 102 1248 = some (.iload 11, 0, 0, 0, 0) := by decide +kernel
theorem c_102_1250 : m_code 102 1250 = some (.iload_n 2, 0, 0, 0, 0) := by decide +kernel
theorem c_102_1251 : m_code 102 1251 = some (.if_icmp .ge 27, 1278, 0, 0, 0) := by decide +kernel
theorem c_102_1254 : m_code 102 1254 = some (.iload 10, 0, 0, 0, 0) := by decide +kernel
theorem c_102_1256 : m_code 102 1256 = some (.ifCond .le 24, 1280, 0, 0, 0) := by decide +kernel
theorem c_102_1259 : m_code 102 1259 = some (.iload 11, 0, 0, 0, 0) := by decide +kernel
theorem c_102_1261 : m_code 102 1261 = some (.aload_n 1, 0, 0, 0, 0) := by decide +kernel
theorem c_102_1262 : m_code 102 1262 = some (.iconst 0, 0, 0, 0, 0) := by decide +kernel
theorem c_102_1263 : m_code 102 1263 = some (.iload 10, 0, 0, 0, 0) := by decide +kernel
theorem c_102_1265 : m_code 102 1265 = some (.iconst 1, 0, 0, 0, 0) := by decide +kernel
theorem c_102_1266 : m_code 102 1266 = some (.isub, 0, 0, 0, 0) := by decide +kernel
theorem c_102_1267 : m_code 102 1267 = some (.invokevirtual 93, 72, 660, 1, 0) := by decide +kernel
theorem c_102_1270 : m_code 102 1270 = some (.isub, 0, 0, 0, 0) := by decide +kernel
theorem c_102_1271 : m_code 102 1271 = some (.invokestatic 75, 0, 704, 5, 0) := by decide +kernel
theorem c_102_1274 : m_code 102 1274 = some (.iconst 1, 0, 0, 0, 0) := by decide +kernel
theorem c_102_1275 : m_code 102 1275 = some (.if_icmp .le 5, 1280, 0, 0, 0) := by decide +kernel
theorem c_102_1278 : m_code 102 1278 = some (.iconst 0, 0, 0, 0, 0) := by decide +kernel
theorem c_102_1279 : m_code 102 1279 = some (.ireturn, 0, 0, 0, 0) := by decide +kernel
theorem c_102_1280 : m_code 102 1280 = some (.iload 9, 0, 0, 0, 0) := by decide +kernel
theorem c_102_1282 : m_code 102 1282 = some (.aload_n 1, 0, 0, 0, 0) := by decide +kernel
theorem c_102_1283 : m_code 102 1283 = some (.iconst 0, 0, 0, 0, 0) := by decide +kernel
theorem c_102_1284 : m_code 102 1284 = some (.iload_n 2, 0, 0, 0, 0) := by decide +kernel
theorem c_102_1285 : m_code 102 1285 = some (.iconst 1, 0, 0, 0, 0) := by decide +kernel
theorem c_102_1286 : m_code 102 1286 = some (.isub, 0, 0, 0, 0) := by decide +kernel
theorem c_102_1287 : m_code 102 1287 = some (.iload 11, 0, 0, 0, 0) := by decide +kernel
theorem c_102_1289 : m_code 102 1289 = some (.iconst 1, 0, 0, 0, 0) := by decide +kernel
theorem c_102_1290 : m_code 102 1290 = some (.iadd, 0, 0, 0, 0) := by decide +kernel
theorem c_102_1291 : m_code 102 1291 = some (.invokestatic 96, 0, 706, 4, 0) := by decide +kernel
theorem c_102_1294 : m_code 102 1294 = some (.iload 10, 0, 0, 0, 0) := by decide +kernel
theorem c_102_1296 : m_code 102 1296 = some (.invokevirtual 66, 60, 502, 1, 0) := by decide +kernel
theorem c_102_1299 : m_code 102 1299 = some (.aload_n 1, 0, 0, 0, 0) := by decide +kernel
theorem c_102_1300 : m_code 102 1300 = some (.iconst 0, 0, 0, 0, 0) := by decide +kernel
theorem c_102_1301 : m_code 102 1301 = some (.iconst 0, 0, 0, 0, 0) := by decide +kernel
theorem c_102_1302 : m_code 102 1302 = some (.iload 11, 0, 0, 0, 0) := by decide +kernel
theorem c_102_1304 : m_code 102 1304 = some (.iconst 1, 0, 0, 0, 0) := by decide +kernel
theorem c_102_1305 : m_code 102 1305 = some (.isub, 0, 0, 0, 0) := by decide +kernel
theorem c_102_1306 : m_code 102 1306 = some (.invokestatic 99, 0, 705, 3, 0) := by decide +kernel
theorem c_102_1309 : m_code 102 1309 = some (.iload 10, 0, 0, 0, 0) := by decide +kernel
theorem c_102_1311 : m_code 102 1311 = some (.invokevirtual 66, 60, 502, 1, 0) := by decide +kernel
theorem c_102_1314 : m_code 102 1314 = some (.isub, 0, 0, 0, 0) := by decide +kernel
theorem c_102_1315 : m_code 102 1315 = some (.invokestatic 75, 0, 704, 5, 0) := by decide +kernel
theorem c_102_1318 : m_code 102 1318 = some (.aload_n 1, 0, 0, 0, 0) := by decide +kernel
theorem c_102_1319 : m_code 102 1319 = some (.iconst 0, 0, 0, 0, 0) := by decide +kernel
theorem c_102_1320 : m_code 102 1320 = some (.iload 11, 0, 0, 0, 0) := by decide +kernel
theorem c_102_1322 : m_code 102 1322 = some (.iload_n 3, 0, 0, 0, 0) := by decide +kernel
theorem c_102_1323 : m_code 102 1323 = some (.iconst 1, 0, 0, 0, 0) := by decide +kernel
theorem c_102_1324 : m_code 102 1324 = some (.isub, 0, 0, 0, 0) := by decide +kernel
theorem c_102_1325 : m_code 102 1325 = some (.iload 10, 0, 0, 0, 0) := by decide +kernel
theorem c_102_1327 : m_code 102 1327 = some (.iconst 1, 0, 0, 0, 0) := by decide +kernel
theorem c_102_1328 : m_code 102 1328 = some (.iadd, 0, 0, 0, 0) := by decide +kernel
theorem c_102_1329 : m_code 102 1329 = some (.invokestatic 96, 0, 706, 4, 0) := by decide +kernel
theorem c_102_1332 : m_code 102 1332 = some (.invokevirtual 66, 60, 502, 1, 0) := by decide +kernel
theorem c_102_1335 : m_code 102 1335 = some (.aload_n 1, 0, 0, 0, 0) := by decide +kernel
theorem c_102_1336 : m_code 102 1336 = some (.iconst 0, 0, 0, 0, 0) := by decide +kernel
theorem c_102_1337 : m_code 102 1337 = some (.iload 11, 0, 0, 0, 0) := by decide +kernel
theorem c_102_1339 : m_code 102 1339 = some (.iconst 0, 0, 0, 0, 0) := by decide +kernel
theorem c_102_1340 : m_code 102 1340 = some (.iload 10, 0, 0, 0, 0) := by decide +kernel
theorem c_102_1342 : m_code 102 1342 = some (.iconst 1, 0, 0, 0, 0) := by decide +kernel
theorem c_102_1343 : m_code 102 1343 = some (.isub, 0, 0, 0, 0) := by decide +kernel
theorem c_102_1344 : m_code 102 1344 = some (.invokestatic 99, 0, 705, 3, 0) := by decide +kernel
theorem c_102_1347 : m_code 102 1347 = some (.invokevirtual 66, 60, 502, 1, 0) := by decide +kernel
theorem c_102_1350 : m_code 102 1350 = some (.isub, 0, 0, 0, 0) := by decide +kernel
theorem c_102_1351 : m_code 102 1351 = some (.invokestatic 75, 0, 704, 5, 0) := by decide +kernel
theorem c_102_1354 : m_code 102 1354 = some (.iadd, 0, 0, 0, 0) := by decide +kernel
theorem c_102_1355 : m_code 102 1355 = some (.iadd, 0, 0, 0, 0) := by decide +kernel
theorem c_102_1356 : m_code 102 1356 = some (.istore 9, 0, 0, 0, 0) := by decide +kernel
theorem c_102_1358 : m_code 102 1358 = some (.iinc 10 1, 0, 0, 0, 0) := by decide +kernel
theorem c_102_1361 : m_code 102 1361 = some (.goto (-133), 1228, 0, 0, 0) := by decide +kernel
theorem c_102_1364 : m_code 102 1364 = some (.iload_n 2, 0, 0, 0, 0) := by decide +kernel
theorem c_102_1365 : m_code 102 1365 = some (.iconst 1, 0, 0, 0, 0) := by decide +kernel
theorem c_102_1366 : m_code 102 1366 = some (.if_icmp .ne 29, 1395, 0, 0, 0) := by decide +kernel
theorem c_102_1369 : m_code 102 1369 = some (.aload_n 1, 0, 0, 0, 0) := by decide +kernel
theorem c_102_1370 : m_code 102 1370 = some (.iconst 0, 0, 0, 0, 0) := by decide +kernel
theorem c_102_1371 : m_code 102 1371 = some (.invokevirtual 102, 71, 652, 1, 0) := by decide +kernel
theorem c_102_1374 : m_code 102 1374 = some (.iload 9, 0, 0, 0, 0) := by decide +kernel
theorem c_102_1376 : m_code 102 1376 = some (.if_icmp .ne 17, 1393, 0, 0, 0) := by decide +kernel
theorem c_102_1379 : m_code 102 1379 = some (.aload_n 1, 0, 0, 0, 0) := by decide +kernel
theorem c_102_1380 : m_code 102 1380 = some (.iconst 0, 0, 0, 0, 0) := by decide +kernel
theorem c_102_1381 : m_code 102 1381 = some (.iconst 0, 0, 0, 0, 0) := by decide +kernel
theorem c_102_1382 : m_code 102 1382 = some (.invokevirtual 47, 61, 506, 1, 0) := by decide +kernel
theorem c_102_1385 : m_code 102 1385 = some (.iconst 2, 0, 0, 0, 0) := by decide +kernel
theorem c_102_1386 : m_code 102 1386 = some (.if_icmp .ne 7, 1393, 0, 0, 0) := by decide +kernel
theorem c_102_1389 : m_code 102 1389 = some (.iconst 1, 0, 0, 0, 0) := by decide +kernel
theorem c_102_1390 : m_code 102 1390 = some (.goto 4, 1394, 0, 0, 0) := by decide +kernel
theorem c_102_1393 : m_code 102 1393 = some (.iconst 0, 0, 0, 0, 0) := by decide +kernel
theorem c_102_1394 : m_code 102 1394 = some (.ireturn, 0, 0, 0, 0) := by decide +kernel
theorem c_102_1395 : m_code 102 1395 = some (.aload_n 1, 0, 0, 0, 0) := by decide +kernel
theorem c_102_1396 : m_code 102 1396 = some (.iconst 0, 0, 0, 0, 0) := by decide +kernel
theorem c_102_1397 : m_code 102 1397 = some (.iconst 1, 0, 0, 0, 0) := by decide +kernel
theorem c_102_1398 : m_code 102 1398 = some (.invokevirtual 105, 74, 668, 1, 0) := by decide +kernel
theorem c_102_1401 : m_code 102 1401 = some (.iload 9, 0, 0, 0, 0) := by decide +kernel
theorem c_102_1403 : m_code 102 1403 = some (.if_icmp .ne 29, 1432, 0, 0, 0) := by decide +kernel
theorem c_102_1406 : m_code 102 1406 = some (.aload_n 1, 0, 0, 0, 0) := by decide +kernel
theorem c_102_1407 : m_code 102 1407 = some (.iconst 0, 0, 0, 0, 0) := by decide +kernel
theorem c_102_1408 : m_code 102 1408 = some (.invokevirtual 108, 70, 622, 1, 0) := by decide +kernel
theorem c_102_1411 : m_code 102 1411 = some (.iload 9, 0, 0, 0, 0) := by decide +kernel
theorem c_102_1413 : m_code 102 1413 = some (.if_icmp .ne 19, 1432, 0, 0, 0) := by decide +kernel
theorem c_102_1416 : m_code 102 1416 = some (.aload_n 1, 0, 0, 0, 0) := by decide +kernel
theorem c_102_1417 : m_code 102 1417 = some (.iconst 0, 0, 0, 0, 0) := by decide +kernel
theorem c_102_1418 : m_code 102 1418 = some (.iconst 0, 0, 0, 0, 0) := by decide +kernel
theorem c_102_1419 : m_code 102 1419 = some (.invokevirtual 47, 61, 506, 1, 0) := by decide +kernel
theorem c_102_1422 : m_code 102 1422 = some (.iload_n 2, 0, 0, 0, 0) := by decide +kernel
theorem c_102_1423 : m_code 102 1423 = some (.iconst 1, 0, 0, 0, 0) := by decide +kernel
theorem c_102_1424 : m_code 102 1424 = some (.isub, 0, 0, 0, 0) := by decide +kernel
theorem c_102_1425 : m_code 102 1425 = some (.if_icmp .ne 7, 1432, 0, 0, 0) := by decide +kernel
theorem c_102_1428 : m_code 102 1428 = some (.iconst 1, 0, 0, 0, 0) := by decide +kernel
theorem c_102_1429 : m_code 102 1429 = some (.goto 4, 1433, 0, 0, 0) := by decide +kernel
theorem c_102_1432 : m_code 102 1432 = some (.iconst 0, 0, 0, 0, 0) := by decide +kernel
theorem c_102_1433 : m_code 102 1433 = some (.ireturn, 0, 0, 0, 0) := by decide +kernel
