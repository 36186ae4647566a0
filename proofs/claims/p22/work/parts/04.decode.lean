theorem dX0_init_0 : decode cX0_init 0 = .ok (.aload_n 0, 1) := by decide +kernel
theorem dX0_init_1 : decode cX0_init 1 = .ok (.invokespecial 3, 3) := by decide +kernel
theorem dX0_init_4 : decode cX0_init 4 = .ok (.return_, 1) := by decide +kernel
theorem dX0_begin_0 : decode cX0_begin 0 = .ok (.aload_n 0, 1) := by decide +kernel
theorem dX0_begin_1 : decode cX0_begin 1 = .ok (.iload_n 3, 1) := by decide +kernel
theorem dX0_begin_2 : decode cX0_begin 2 = .ok (.putfield 9, 3) := by decide +kernel
theorem dX0_begin_5 : decode cX0_begin 5 = .ok (.aload_n 0, 1) := by decide +kernel
theorem dX0_begin_6 : decode cX0_begin 6 = .ok (.iload_n 2, 1) := by decide +kernel
theorem dX0_begin_7 : decode cX0_begin 7 = .ok (.putfield 15, 3) := by decide +kernel
theorem dX0_begin_10 : decode cX0_begin 10 = .ok (.aload_n 0, 1) := by decide +kernel
theorem dX0_begin_11 : decode cX0_begin 11 = .ok (.iconst 0, 1) := by decide +kernel
theorem dX0_begin_12 : decode cX0_begin 12 = .ok (.putfield 18, 3) := by decide +kernel
theorem dX0_begin_15 : decode cX0_begin 15 = .ok (.aload_n 0, 1) := by decide +kernel
theorem dX0_begin_16 : decode cX0_begin 16 = .ok (.iload_n 1, 1) := by decide +kernel
theorem dX0_begin_17 : decode cX0_begin 17 = .ok (.putfield 21, 3) := by decide +kernel
theorem dX0_begin_20 : decode cX0_begin 20 = .ok (.aload_n 0, 1) := by decide +kernel
theorem dX0_begin_21 : decode cX0_begin 21 = .ok (.iconst (-1), 1) := by decide +kernel
theorem dX0_begin_22 : decode cX0_begin 22 = .ok (.putfield 24, 3) := by decide +kernel
theorem dX0_begin_25 : decode cX0_begin 25 = .ok (.return_, 1) := by decide +kernel
theorem dX0_isOn_0 : decode cX0_isOn 0 = .ok (.aload_n 0, 1) := by decide +kernel
theorem dX0_isOn_1 : decode cX0_isOn 1 = .ok (.getfield 18, 3) := by decide +kernel
theorem dX0_isOn_4 : decode cX0_isOn 4 = .ok (.iconst 1, 1) := by decide +kernel
theorem dX0_isOn_5 : decode cX0_isOn 5 = .ok (.if_icmp .ne 15, 3) := by decide +kernel
theorem dX0_isOn_8 : decode cX0_isOn 8 = .ok (.aload_n 0, 1) := by decide +kernel
theorem dX0_isOn_9 : decode cX0_isOn 9 = .ok (.getfield 21, 3) := by decide +kernel
theorem dX0_isOn_12 : decode cX0_isOn 12 = .ok (.iload_n 1, 1) := by decide +kernel
theorem dX0_isOn_13 : decode cX0_isOn 13 = .ok (.if_icmp .ne 7, 3) := by decide +kernel
theorem dX0_isOn_16 : decode cX0_isOn 16 = .ok (.iconst 1, 1) := by decide +kernel
theorem dX0_isOn_17 : decode cX0_isOn 17 = .ok (.goto 4, 3) := by decide +kernel
theorem dX0_isOn_20 : decode cX0_isOn 20 = .ok (.iconst 0, 1) := by decide +kernel
theorem dX0_isOn_21 : decode cX0_isOn 21 = .ok (.ireturn, 1) := by decide +kernel
theorem dX0_lose_0 : decode cX0_lose 0 = .ok (.aload_n 0, 1) := by decide +kernel
theorem dX0_lose_1 : decode cX0_lose 1 = .ok (.iconst 3, 1) := by decide +kernel
theorem dX0_lose_2 : decode cX0_lose 2 = .ok (.putfield 18, 3) := by decide +kernel
theorem dX0_lose_5 : decode cX0_lose 5 = .ok (.aload_n 0, 1) := by decide +kernel
theorem dX0_lose_6 : decode cX0_lose 6 = .ok (.iconst (-1), 1) := by decide +kernel
theorem dX0_lose_7 : decode cX0_lose 7 = .ok (.putfield 21, 3) := by decide +kernel
theorem dX0_lose_10 : decode cX0_lose 10 = .ok (.return_, 1) := by decide +kernel
theorem dX0_putDown_0 : decode cX0_putDown 0 = .ok (.aload_n 0, 1) := by decide +kernel
theorem dX0_putDown_1 : decode cX0_putDown 1 = .ok (.iload_n 1, 1) := by decide +kernel
theorem dX0_putDown_2 : decode cX0_putDown 2 = .ok (.putfield 21, 3) := by decide +kernel
theorem dX0_putDown_5 : decode cX0_putDown 5 = .ok (.iload_n 1, 1) := by decide +kernel
theorem dX0_putDown_6 : decode cX0_putDown 6 = .ok (.aload_n 0, 1) := by decide +kernel
theorem dX0_putDown_7 : decode cX0_putDown 7 = .ok (.getfield 15, 3) := by decide +kernel
theorem dX0_putDown_10 : decode cX0_putDown 10 = .ok (.if_icmp .eq 10, 3) := by decide +kernel
theorem dX0_putDown_13 : decode cX0_putDown 13 = .ok (.aload_n 0, 1) := by decide +kernel
theorem dX0_putDown_14 : decode cX0_putDown 14 = .ok (.iconst 0, 1) := by decide +kernel
theorem dX0_putDown_15 : decode cX0_putDown 15 = .ok (.putfield 18, 3) := by decide +kernel
theorem dX0_putDown_18 : decode cX0_putDown 18 = .ok (.iconst 0, 1) := by decide +kernel
theorem dX0_putDown_19 : decode cX0_putDown 19 = .ok (.ireturn, 1) := by decide +kernel
theorem dX0_putDown_20 : decode cX0_putDown 20 = .ok (.aload_n 0, 1) := by decide +kernel
theorem dX0_putDown_21 : decode cX0_putDown 21 = .ok (.iconst 2, 1) := by decide +kernel
theorem dX0_putDown_22 : decode cX0_putDown 22 = .ok (.putfield 18, 3) := by decide +kernel
theorem dX0_putDown_25 : decode cX0_putDown 25 = .ok (.aload_n 0, 1) := by decide +kernel
theorem dX0_putDown_26 : decode cX0_putDown 26 = .ok (.iload_n 2, 1) := by decide +kernel
theorem dX0_putDown_27 : decode cX0_putDown 27 = .ok (.putfield 24, 3) := by decide +kernel
theorem dX0_putDown_30 : decode cX0_putDown 30 = .ok (.iconst 1, 1) := by decide +kernel
theorem dX0_putDown_31 : decode cX0_putDown 31 = .ok (.ireturn, 1) := by decide +kernel
theorem dX0_tell_0 : decode cX0_tell 0 = .ok (.iload_n 1, 1) := by decide +kernel
theorem dX0_tell_1 : decode cX0_tell 1 = .ok (.tableswitch 51 0 3 #[31, 36, 41, 46], 31) := by decide +kernel
theorem dX0_tell_32 : decode cX0_tell 32 = .ok (.aload_n 0, 1) := by decide +kernel
theorem dX0_tell_33 : decode cX0_tell 33 = .ok (.getfield 9, 3) := by decide +kernel
theorem dX0_tell_36 : decode cX0_tell 36 = .ok (.ireturn, 1) := by decide +kernel
theorem dX0_tell_37 : decode cX0_tell 37 = .ok (.aload_n 0, 1) := by decide +kernel
theorem dX0_tell_38 : decode cX0_tell 38 = .ok (.getfield 15, 3) := by decide +kernel
theorem dX0_tell_41 : decode cX0_tell 41 = .ok (.ireturn, 1) := by decide +kernel
theorem dX0_tell_42 : decode cX0_tell 42 = .ok (.aload_n 0, 1) := by decide +kernel
theorem dX0_tell_43 : decode cX0_tell 43 = .ok (.getfield 18, 3) := by decide +kernel
theorem dX0_tell_46 : decode cX0_tell 46 = .ok (.ireturn, 1) := by decide +kernel
theorem dX0_tell_47 : decode cX0_tell 47 = .ok (.aload_n 0, 1) := by decide +kernel
theorem dX0_tell_48 : decode cX0_tell 48 = .ok (.getfield 21, 3) := by decide +kernel
theorem dX0_tell_51 : decode cX0_tell 51 = .ok (.ireturn, 1) := by decide +kernel
theorem dX0_tell_52 : decode cX0_tell 52 = .ok (.aload_n 0, 1) := by decide +kernel
theorem dX0_tell_53 : decode cX0_tell 53 = .ok (.getfield 24, 3) := by decide +kernel
theorem dX0_tell_56 : decode cX0_tell 56 = .ok (.ireturn, 1) := by decide +kernel
theorem dX1_init_0 : decode cX1_init 0 = .ok (.aload_n 0, 1) := by decide +kernel
theorem dX1_init_1 : decode cX1_init 1 = .ok (.invokespecial 3, 3) := by decide +kernel
theorem dX1_init_4 : decode cX1_init 4 = .ok (.aload_n 0, 1) := by decide +kernel
theorem dX1_init_5 : decode cX1_init 5 = .ok (.sipush 160, 3) := by decide +kernel
theorem dX1_init_8 : decode cX1_init 8 = .ok (.newarray .int, 2) := by decide +kernel
theorem dX1_init_10 : decode cX1_init 10 = .ok (.putfield 9, 3) := by decide +kernel
theorem dX1_init_13 : decode cX1_init 13 = .ok (.aload_n 0, 1) := by decide +kernel
theorem dX1_init_14 : decode cX1_init 14 = .ok (.sipush 160, 3) := by decide +kernel
theorem dX1_init_17 : decode cX1_init 17 = .ok (.newarray .int, 2) := by decide +kernel
theorem dX1_init_19 : decode cX1_init 19 = .ok (.putfield 15, 3) := by decide +kernel
theorem dX1_init_22 : decode cX1_init 22 = .ok (.aload_n 0, 1) := by decide +kernel
theorem dX1_init_23 : decode cX1_init 23 = .ok (.sipush 160, 3) := by decide +kernel
theorem dX1_init_26 : decode cX1_init 26 = .ok (.newarray .int, 2) := by decide +kernel
theorem dX1_init_28 : decode cX1_init 28 = .ok (.putfield 18, 3) := by decide +kernel
theorem dX1_init_31 : decode cX1_init 31 = .ok (.aload_n 0, 1) := by decide +kernel
theorem dX1_init_32 : decode cX1_init 32 = .ok (.sipush 160, 3) := by decide +kernel
theorem dX1_init_35 : decode cX1_init 35 = .ok (.newarray .boolean, 2) := by decide +kernel
theorem dX1_init_37 : decode cX1_init 37 = .ok (.putfield 21, 3) := by decide +kernel
theorem dX1_init_40 : decode cX1_init 40 = .ok (.aload_n 0, 1) := by decide +kernel
theorem dX1_init_41 : decode cX1_init 41 = .ok (.sipush 160, 3) := by decide +kernel
theorem dX1_init_44 : decode cX1_init 44 = .ok (.newarray .boolean, 2) := by decide +kernel
theorem dX1_init_46 : decode cX1_init 46 = .ok (.putfield 25, 3) := by decide +kernel
theorem dX1_init_49 : decode cX1_init 49 = .ok (.aload_n 0, 1) := by decide +kernel
theorem dX1_init_50 : decode cX1_init 50 = .ok (.bipush 8, 2) := by decide +kernel
theorem dX1_init_52 : decode cX1_init 52 = .ok (.newarray .int, 2) := by decide +kernel
theorem dX1_init_54 : decode cX1_init 54 = .ok (.putfield 28, 3) := by decide +kernel
theorem dX1_init_57 : decode cX1_init 57 = .ok (.aload_n 0, 1) := by decide +kernel
theorem dX1_init_58 : decode cX1_init 58 = .ok (.getfield 9, 3) := by decide +kernel
theorem dX1_init_61 : decode cX1_init 61 = .ok (.bipush 30, 2) := by decide +kernel
theorem dX1_init_63 : decode cX1_init 63 = .ok (.invokestatic 31, 3) := by decide +kernel
theorem dX1_init_66 : decode cX1_init 66 = .ok (.aload_n 0, 1) := by decide +kernel
theorem dX1_init_67 : decode cX1_init 67 = .ok (.getfield 15, 3) := by decide +kernel
theorem dX1_init_70 : decode cX1_init 70 = .ok (.iconst 1, 1) := by decide +kernel
theorem dX1_init_71 : decode cX1_init 71 = .ok (.invokestatic 31, 3) := by decide +kernel
theorem dX1_init_74 : decode cX1_init 74 = .ok (.aload_n 0, 1) := by decide +kernel
theorem dX1_init_75 : decode cX1_init 75 = .ok (.getfield 28, 3) := by decide +kernel
theorem dX1_init_78 : decode cX1_init 78 = .ok (.iconst 5, 1) := by decide +kernel
theorem dX1_init_79 : decode cX1_init 79 = .ok (.invokestatic 31, 3) := by decide +kernel
theorem dX1_init_82 : decode cX1_init 82 = .ok (.return_, 1) := by decide +kernel
theorem dX1_copyLake_0 : decode cX1_copyLake 0 = .ok (.aload_n 1, 1) := by decide +kernel
theorem dX1_copyLake_1 : decode cX1_copyLake 1 = .ok (.getfield 9, 3) := by decide +kernel
theorem dX1_copyLake_4 : decode cX1_copyLake 4 = .ok (.iconst 0, 1) := by decide +kernel
theorem dX1_copyLake_5 : decode cX1_copyLake 5 = .ok (.aload_n 0, 1) := by decide +kernel
theorem dX1_copyLake_6 : decode cX1_copyLake 6 = .ok (.getfield 9, 3) := by decide +kernel
theorem dX1_copyLake_9 : decode cX1_copyLake 9 = .ok (.iconst 0, 1) := by decide +kernel
theorem dX1_copyLake_10 : decode cX1_copyLake 10 = .ok (.sipush 160, 3) := by decide +kernel
theorem dX1_copyLake_13 : decode cX1_copyLake 13 = .ok (.invokestatic 37, 3) := by decide +kernel
theorem dX1_copyLake_16 : decode cX1_copyLake 16 = .ok (.aload_n 1, 1) := by decide +kernel
theorem dX1_copyLake_17 : decode cX1_copyLake 17 = .ok (.getfield 15, 3) := by decide +kernel
theorem dX1_copyLake_20 : decode cX1_copyLake 20 = .ok (.iconst 0, 1) := by decide +kernel
theorem dX1_copyLake_21 : decode cX1_copyLake 21 = .ok (.aload_n 0, 1) := by decide +kernel
theorem dX1_copyLake_22 : decode cX1_copyLake 22 = .ok (.getfield 15, 3) := by decide +kernel
theorem dX1_copyLake_25 : decode cX1_copyLake 25 = .ok (.iconst 0, 1) := by decide +kernel
theorem dX1_copyLake_26 : decode cX1_copyLake 26 = .ok (.sipush 160, 3) := by decide +kernel
theorem dX1_copyLake_29 : decode cX1_copyLake 29 = .ok (.invokestatic 37, 3) := by decide +kernel
theorem dX1_copyLake_32 : decode cX1_copyLake 32 = .ok (.aload_n 1, 1) := by decide +kernel
theorem dX1_copyLake_33 : decode cX1_copyLake 33 = .ok (.getfield 18, 3) := by decide +kernel
theorem dX1_copyLake_36 : decode cX1_copyLake 36 = .ok (.iconst 0, 1) := by decide +kernel
theorem dX1_copyLake_37 : decode cX1_copyLake 37 = .ok (.aload_n 0, 1) := by decide +kernel
theorem dX1_copyLake_38 : decode cX1_copyLake 38 = .ok (.getfield 18, 3) := by decide +kernel
theorem dX1_copyLake_41 : decode cX1_copyLake 41 = .ok (.iconst 0, 1) := by decide +kernel
theorem dX1_copyLake_42 : decode cX1_copyLake 42 = .ok (.sipush 160, 3) := by decide +kernel
theorem dX1_copyLake_45 : decode cX1_copyLake 45 = .ok (.invokestatic 37, 3) := by decide +kernel
theorem dX1_copyLake_48 : decode cX1_copyLake 48 = .ok (.aload_n 1, 1) := by decide +kernel
theorem dX1_copyLake_49 : decode cX1_copyLake 49 = .ok (.getfield 28, 3) := by decide +kernel
theorem dX1_copyLake_52 : decode cX1_copyLake 52 = .ok (.iconst 0, 1) := by decide +kernel
theorem dX1_copyLake_53 : decode cX1_copyLake 53 = .ok (.aload_n 0, 1) := by decide +kernel
theorem dX1_copyLake_54 : decode cX1_copyLake 54 = .ok (.getfield 28, 3) := by decide +kernel
theorem dX1_copyLake_57 : decode cX1_copyLake 57 = .ok (.iconst 0, 1) := by decide +kernel
theorem dX1_copyLake_58 : decode cX1_copyLake 58 = .ok (.bipush 8, 2) := by decide +kernel
theorem dX1_copyLake_60 : decode cX1_copyLake 60 = .ok (.invokestatic 37, 3) := by decide +kernel
theorem dX1_copyLake_63 : decode cX1_copyLake 63 = .ok (.iconst 0, 1) := by decide +kernel
theorem dX1_copyLake_64 : decode cX1_copyLake 64 = .ok (.istore_n 2, 1) := by decide +kernel
theorem dX1_copyLake_65 : decode cX1_copyLake 65 = .ok (.iload_n 2, 1) := by decide +kernel
theorem dX1_copyLake_66 : decode cX1_copyLake 66 = .ok (.sipush 160, 3) := by decide +kernel
theorem dX1_copyLake_69 : decode cX1_copyLake 69 = .ok (.if_icmp .ge 21, 3) := by decide +kernel
theorem dX1_copyLake_72 : decode cX1_copyLake 72 = .ok (.aload_n 0, 1) := by decide +kernel
theorem dX1_copyLake_73 : decode cX1_copyLake 73 = .ok (.getfield 21, 3) := by decide +kernel
theorem dX1_copyLake_76 : decode cX1_copyLake 76 = .ok (.iload_n 2, 1) := by decide +kernel
theorem dX1_copyLake_77 : decode cX1_copyLake 77 = .ok (.aload_n 1, 1) := by decide +kernel
theorem dX1_copyLake_78 : decode cX1_copyLake 78 = .ok (.getfield 21, 3) := by decide +kernel
theorem dX1_copyLake_81 : decode cX1_copyLake 81 = .ok (.iload_n 2, 1) := by decide +kernel
theorem dX1_copyLake_82 : decode cX1_copyLake 82 = .ok (.baload, 1) := by decide +kernel
theorem dX1_copyLake_83 : decode cX1_copyLake 83 = .ok (.bastore, 1) := by decide +kernel
theorem dX1_copyLake_84 : decode cX1_copyLake 84 = .ok (.iinc 2 1, 3) := by decide +kernel
theorem dX1_copyLake_87 : decode cX1_copyLake 87 = .ok (.goto (-22), 3) := by decide +kernel
theorem dX1_copyLake_90 : decode cX1_copyLake 90 = .ok (.return_, 1) := by decide +kernel
theorem dX1_lay_0 : decode cX1_lay 0 = .ok (.iload_n 1, 1) := by decide +kernel
theorem dX1_lay_1 : decode cX1_lay 1 = .ok (.invokestatic 43, 3) := by decide +kernel
theorem dX1_lay_4 : decode cX1_lay 4 = .ok (.ifCond .eq 34, 3) := by decide +kernel
theorem dX1_lay_7 : decode cX1_lay 7 = .ok (.aload_n 0, 1) := by decide +kernel
theorem dX1_lay_8 : decode cX1_lay 8 = .ok (.getfield 9, 3) := by decide +kernel
theorem dX1_lay_11 : decode cX1_lay 11 = .ok (.iload_n 1, 1) := by decide +kernel
theorem dX1_lay_12 : decode cX1_lay 12 = .ok (.iload_n 2, 1) := by decide +kernel
theorem dX1_lay_13 : decode cX1_lay 13 = .ok (.iastore, 1) := by decide +kernel
theorem dX1_lay_14 : decode cX1_lay 14 = .ok (.aload_n 0, 1) := by decide +kernel
theorem dX1_lay_15 : decode cX1_lay 15 = .ok (.getfield 18, 3) := by decide +kernel
theorem dX1_lay_18 : decode cX1_lay 18 = .ok (.iload_n 1, 1) := by decide +kernel
theorem dX1_lay_19 : decode cX1_lay 19 = .ok (.iconst 0, 1) := by decide +kernel
theorem dX1_lay_20 : decode cX1_lay 20 = .ok (.iastore, 1) := by decide +kernel
theorem dX1_lay_21 : decode cX1_lay 21 = .ok (.aload_n 0, 1) := by decide +kernel
theorem dX1_lay_22 : decode cX1_lay 22 = .ok (.getfield 21, 3) := by decide +kernel
theorem dX1_lay_25 : decode cX1_lay 25 = .ok (.iload_n 1, 1) := by decide +kernel
theorem dX1_lay_26 : decode cX1_lay 26 = .ok (.iconst 0, 1) := by decide +kernel
theorem dX1_lay_27 : decode cX1_lay 27 = .ok (.bastore, 1) := by decide +kernel
theorem dX1_lay_28 : decode cX1_lay 28 = .ok (.aload_n 0, 1) := by decide +kernel
theorem dX1_lay_29 : decode cX1_lay 29 = .ok (.dup, 1) := by decide +kernel
theorem dX1_lay_30 : decode cX1_lay 30 = .ok (.getfield 47, 3) := by decide +kernel
theorem dX1_lay_33 : decode cX1_lay 33 = .ok (.iconst 1, 1) := by decide +kernel
theorem dX1_lay_34 : decode cX1_lay 34 = .ok (.iadd, 1) := by decide +kernel
theorem dX1_lay_35 : decode cX1_lay 35 = .ok (.putfield 47, 3) := by decide +kernel
theorem dX1_lay_38 : decode cX1_lay 38 = .ok (.return_, 1) := by decide +kernel
theorem dX1_snowOver_0 : decode cX1_snowOver 0 = .ok (.iload_n 1, 1) := by decide +kernel
theorem dX1_snowOver_1 : decode cX1_snowOver 1 = .ok (.invokestatic 43, 3) := by decide +kernel
theorem dX1_snowOver_4 : decode cX1_snowOver 4 = .ok (.ifCond .eq 10, 3) := by decide +kernel
theorem dX1_snowOver_7 : decode cX1_snowOver 7 = .ok (.aload_n 0, 1) := by decide +kernel
theorem dX1_snowOver_8 : decode cX1_snowOver 8 = .ok (.getfield 15, 3) := by decide +kernel
theorem dX1_snowOver_11 : decode cX1_snowOver 11 = .ok (.iload_n 1, 1) := by decide +kernel
theorem dX1_snowOver_12 : decode cX1_snowOver 12 = .ok (.iload_n 2, 1) := by decide +kernel
theorem dX1_snowOver_13 : decode cX1_snowOver 13 = .ok (.iastore, 1) := by decide +kernel
theorem dX1_snowOver_14 : decode cX1_snowOver 14 = .ok (.return_, 1) := by decide +kernel
theorem dX1_thicknessOf_0 : decode cX1_thicknessOf 0 = .ok (.iload_n 1, 1) := by decide +kernel
theorem dX1_thicknessOf_1 : decode cX1_thicknessOf 1 = .ok (.invokestatic 43, 3) := by decide +kernel
theorem dX1_thicknessOf_4 : decode cX1_thicknessOf 4 = .ok (.ifCond .eq 12, 3) := by decide +kernel
theorem dX1_thicknessOf_7 : decode cX1_thicknessOf 7 = .ok (.aload_n 0, 1) := by decide +kernel
theorem dX1_thicknessOf_8 : decode cX1_thicknessOf 8 = .ok (.getfield 9, 3) := by decide +kernel
theorem dX1_thicknessOf_11 : decode cX1_thicknessOf 11 = .ok (.iload_n 1, 1) := by decide +kernel
theorem dX1_thicknessOf_12 : decode cX1_thicknessOf 12 = .ok (.iaload, 1) := by decide +kernel
theorem dX1_thicknessOf_13 : decode cX1_thicknessOf 13 = .ok (.goto 4, 3) := by decide +kernel
theorem dX1_thicknessOf_16 : decode cX1_thicknessOf 16 = .ok (.iconst (-1), 1) := by decide +kernel
theorem dX1_thicknessOf_17 : decode cX1_thicknessOf 17 = .ok (.ireturn, 1) := by decide +kernel
theorem dX1_snowOf_0 : decode cX1_snowOf 0 = .ok (.iload_n 1, 1) := by decide +kernel
theorem dX1_snowOf_1 : decode cX1_snowOf 1 = .ok (.ifCond .lt 10, 3) := by decide +kernel
theorem dX1_snowOf_4 : decode cX1_snowOf 4 = .ok (.iload_n 1, 1) := by decide +kernel
theorem dX1_snowOf_5 : decode cX1_snowOf 5 = .ok (.sipush 160, 3) := by decide +kernel
theorem dX1_snowOf_8 : decode cX1_snowOf 8 = .ok (.if_icmp .lt 7, 3) := by decide +kernel
theorem dX1_snowOf_11 : decode cX1_snowOf 11 = .ok (.iconst 1, 1) := by decide +kernel
theorem dX1_snowOf_12 : decode cX1_snowOf 12 = .ok (.goto 9, 3) := by decide +kernel
theorem dX1_snowOf_15 : decode cX1_snowOf 15 = .ok (.aload_n 0, 1) := by decide +kernel
theorem dX1_snowOf_16 : decode cX1_snowOf 16 = .ok (.getfield 15, 3) := by decide +kernel
theorem dX1_snowOf_19 : decode cX1_snowOf 19 = .ok (.iload_n 1, 1) := by decide +kernel
theorem dX1_snowOf_20 : decode cX1_snowOf 20 = .ok (.iaload, 1) := by decide +kernel
theorem dX1_snowOf_21 : decode cX1_snowOf 21 = .ok (.ireturn, 1) := by decide +kernel
theorem dX1_strainOf_0 : decode cX1_strainOf 0 = .ok (.iload_n 1, 1) := by decide +kernel
theorem dX1_strainOf_1 : decode cX1_strainOf 1 = .ok (.invokestatic 43, 3) := by decide +kernel
theorem dX1_strainOf_4 : decode cX1_strainOf 4 = .ok (.ifCond .eq 12, 3) := by decide +kernel
theorem dX1_strainOf_7 : decode cX1_strainOf 7 = .ok (.aload_n 0, 1) := by decide +kernel
theorem dX1_strainOf_8 : decode cX1_strainOf 8 = .ok (.getfield 18, 3) := by decide +kernel
theorem dX1_strainOf_11 : decode cX1_strainOf 11 = .ok (.iload_n 1, 1) := by decide +kernel
theorem dX1_strainOf_12 : decode cX1_strainOf 12 = .ok (.iaload, 1) := by decide +kernel
theorem dX1_strainOf_13 : decode cX1_strainOf 13 = .ok (.goto 4, 3) := by decide +kernel
theorem dX1_strainOf_16 : decode cX1_strainOf 16 = .ok (.iconst 0, 1) := by decide +kernel
theorem dX1_strainOf_17 : decode cX1_strainOf 17 = .ok (.ireturn, 1) := by decide +kernel
theorem dX1_isCracked_0 : decode cX1_isCracked 0 = .ok (.iload_n 1, 1) := by decide +kernel
theorem dX1_isCracked_1 : decode cX1_isCracked 1 = .ok (.invokestatic 43, 3) := by decide +kernel
theorem dX1_isCracked_4 : decode cX1_isCracked 4 = .ok (.ifCond .eq 16, 3) := by decide +kernel
theorem dX1_isCracked_7 : decode cX1_isCracked 7 = .ok (.aload_n 0, 1) := by decide +kernel
theorem dX1_isCracked_8 : decode cX1_isCracked 8 = .ok (.getfield 21, 3) := by decide +kernel
theorem dX1_isCracked_11 : decode cX1_isCracked 11 = .ok (.iload_n 1, 1) := by decide +kernel
theorem dX1_isCracked_12 : decode cX1_isCracked 12 = .ok (.baload, 1) := by decide +kernel
theorem dX1_isCracked_13 : decode cX1_isCracked 13 = .ok (.ifCond .eq 7, 3) := by decide +kernel
theorem dX1_isCracked_16 : decode cX1_isCracked 16 = .ok (.iconst 1, 1) := by decide +kernel
theorem dX1_isCracked_17 : decode cX1_isCracked 17 = .ok (.goto 4, 3) := by decide +kernel
theorem dX1_isCracked_20 : decode cX1_isCracked 20 = .ok (.iconst 0, 1) := by decide +kernel
theorem dX1_isCracked_21 : decode cX1_isCracked 21 = .ok (.ireturn, 1) := by decide +kernel
theorem dX1_holds_0 : decode cX1_holds 0 = .ok (.iload_n 1, 1) := by decide +kernel
theorem dX1_holds_1 : decode cX1_holds 1 = .ok (.ifCond .lt 19, 3) := by decide +kernel
theorem dX1_holds_4 : decode cX1_holds 4 = .ok (.iload_n 1, 1) := by decide +kernel
theorem dX1_holds_5 : decode cX1_holds 5 = .ok (.sipush 160, 3) := by decide +kernel
theorem dX1_holds_8 : decode cX1_holds 8 = .ok (.if_icmp .ge 12, 3) := by decide +kernel
theorem dX1_holds_11 : decode cX1_holds 11 = .ok (.aload_n 0, 1) := by decide +kernel
theorem dX1_holds_12 : decode cX1_holds 12 = .ok (.getfield 9, 3) := by decide +kernel
theorem dX1_holds_15 : decode cX1_holds 15 = .ok (.iload_n 1, 1) := by decide +kernel
theorem dX1_holds_16 : decode cX1_holds 16 = .ok (.iaload, 1) := by decide +kernel
theorem dX1_holds_17 : decode cX1_holds 17 = .ok (.ifCond .ge 5, 3) := by decide +kernel
theorem dX1_holds_20 : decode cX1_holds 20 = .ok (.iconst 1, 1) := by decide +kernel
theorem dX1_holds_21 : decode cX1_holds 21 = .ok (.ireturn, 1) := by decide +kernel
theorem dX1_holds_22 : decode cX1_holds 22 = .ok (.aload_n 0, 1) := by decide +kernel
theorem dX1_holds_23 : decode cX1_holds 23 = .ok (.getfield 9, 3) := by decide +kernel
theorem dX1_holds_26 : decode cX1_holds 26 = .ok (.iload_n 1, 1) := by decide +kernel
theorem dX1_holds_27 : decode cX1_holds 27 = .ok (.iaload, 1) := by decide +kernel
theorem dX1_holds_28 : decode cX1_holds 28 = .ok (.aload_n 0, 1) := by decide +kernel
theorem dX1_holds_29 : decode cX1_holds 29 = .ok (.getfield 21, 3) := by decide +kernel
theorem dX1_holds_32 : decode cX1_holds 32 = .ok (.iload_n 1, 1) := by decide +kernel
theorem dX1_holds_33 : decode cX1_holds 33 = .ok (.baload, 1) := by decide +kernel
theorem dX1_holds_34 : decode cX1_holds 34 = .ok (.ifCond .eq 9, 3) := by decide +kernel
theorem dX1_holds_37 : decode cX1_holds 37 = .ok (.iconst 2, 1) := by decide +kernel
theorem dX1_holds_38 : decode cX1_holds 38 = .ok (.iload_n 2, 1) := by decide +kernel
theorem dX1_holds_39 : decode cX1_holds 39 = .ok (.imul, 1) := by decide +kernel
theorem dX1_holds_40 : decode cX1_holds 40 = .ok (.goto 4, 3) := by decide +kernel
theorem dX1_holds_43 : decode cX1_holds 43 = .ok (.iload_n 2, 1) := by decide +kernel
theorem dX1_holds_44 : decode cX1_holds 44 = .ok (.if_icmp .lt 7, 3) := by decide +kernel
theorem dX1_holds_47 : decode cX1_holds 47 = .ok (.iconst 1, 1) := by decide +kernel
theorem dX1_holds_48 : decode cX1_holds 48 = .ok (.goto 4, 3) := by decide +kernel
theorem dX1_holds_51 : decode cX1_holds 51 = .ok (.iconst 0, 1) := by decide +kernel
theorem dX1_holds_52 : decode cX1_holds 52 = .ok (.ireturn, 1) := by decide +kernel
theorem dX1_strainUnder_0 : decode cX1_strainUnder 0 = .ok (.iload_n 1, 1) := by decide +kernel
theorem dX1_strainUnder_1 : decode cX1_strainUnder 1 = .ok (.invokestatic 43, 3) := by decide +kernel
theorem dX1_strainUnder_4 : decode cX1_strainUnder 4 = .ok (.ifCond .eq 12, 3) := by decide +kernel
theorem dX1_strainUnder_7 : decode cX1_strainUnder 7 = .ok (.aload_n 0, 1) := by decide +kernel
theorem dX1_strainUnder_8 : decode cX1_strainUnder 8 = .ok (.getfield 9, 3) := by decide +kernel
theorem dX1_strainUnder_11 : decode cX1_strainUnder 11 = .ok (.iload_n 1, 1) := by decide +kernel
theorem dX1_strainUnder_12 : decode cX1_strainUnder 12 = .ok (.iaload, 1) := by decide +kernel
theorem dX1_strainUnder_13 : decode cX1_strainUnder 13 = .ok (.ifCond .ge 4, 3) := by decide +kernel
theorem dX1_strainUnder_16 : decode cX1_strainUnder 16 = .ok (.return_, 1) := by decide +kernel
theorem dX1_strainUnder_17 : decode cX1_strainUnder 17 = .ok (.aload_n 0, 1) := by decide +kernel
theorem dX1_strainUnder_18 : decode cX1_strainUnder 18 = .ok (.getfield 21, 3) := by decide +kernel
theorem dX1_strainUnder_21 : decode cX1_strainUnder 21 = .ok (.iload_n 1, 1) := by decide +kernel
theorem dX1_strainUnder_22 : decode cX1_strainUnder 22 = .ok (.baload, 1) := by decide +kernel
theorem dX1_strainUnder_23 : decode cX1_strainUnder 23 = .ok (.ifCond .eq 9, 3) := by decide +kernel
theorem dX1_strainUnder_26 : decode cX1_strainUnder 26 = .ok (.iconst 2, 1) := by decide +kernel
theorem dX1_strainUnder_27 : decode cX1_strainUnder 27 = .ok (.iload_n 2, 1) := by decide +kernel
theorem dX1_strainUnder_28 : decode cX1_strainUnder 28 = .ok (.imul, 1) := by decide +kernel
theorem dX1_strainUnder_29 : decode cX1_strainUnder 29 = .ok (.goto 4, 3) := by decide +kernel
theorem dX1_strainUnder_32 : decode cX1_strainUnder 32 = .ok (.iload_n 2, 1) := by decide +kernel
theorem dX1_strainUnder_33 : decode cX1_strainUnder 33 = .ok (.istore_n 3, 1) := by decide +kernel
theorem dX1_strainUnder_34 : decode cX1_strainUnder 34 = .ok (.aload_n 0, 1) := by decide +kernel
theorem dX1_strainUnder_35 : decode cX1_strainUnder 35 = .ok (.getfield 9, 3) := by decide +kernel
theorem dX1_strainUnder_38 : decode cX1_strainUnder 38 = .ok (.iload_n 1, 1) := by decide +kernel
theorem dX1_strainUnder_39 : decode cX1_strainUnder 39 = .ok (.iaload, 1) := by decide +kernel
theorem dX1_strainUnder_40 : decode cX1_strainUnder 40 = .ok (.iload_n 3, 1) := by decide +kernel
theorem dX1_strainUnder_41 : decode cX1_strainUnder 41 = .ok (.bipush 10, 2) := by decide +kernel
theorem dX1_strainUnder_43 : decode cX1_strainUnder 43 = .ok (.iadd, 1) := by decide +kernel
theorem dX1_strainUnder_44 : decode cX1_strainUnder 44 = .ok (.if_icmp .ge 52, 3) := by decide +kernel
theorem dX1_strainUnder_47 : decode cX1_strainUnder 47 = .ok (.aload_n 0, 1) := by decide +kernel
theorem dX1_strainUnder_48 : decode cX1_strainUnder 48 = .ok (.getfield 18, 3) := by decide +kernel
theorem dX1_strainUnder_51 : decode cX1_strainUnder 51 = .ok (.iload_n 1, 1) := by decide +kernel
theorem dX1_strainUnder_52 : decode cX1_strainUnder 52 = .ok (.bipush 9, 2) := by decide +kernel
theorem dX1_strainUnder_54 : decode cX1_strainUnder 54 = .ok (.aload_n 0, 1) := by decide +kernel
theorem dX1_strainUnder_55 : decode cX1_strainUnder 55 = .ok (.getfield 18, 3) := by decide +kernel
theorem dX1_strainUnder_58 : decode cX1_strainUnder 58 = .ok (.iload_n 1, 1) := by decide +kernel
theorem dX1_strainUnder_59 : decode cX1_strainUnder 59 = .ok (.iaload, 1) := by decide +kernel
theorem dX1_strainUnder_60 : decode cX1_strainUnder 60 = .ok (.iconst 1, 1) := by decide +kernel
theorem dX1_strainUnder_61 : decode cX1_strainUnder 61 = .ok (.iadd, 1) := by decide +kernel
theorem dX1_strainUnder_62 : decode cX1_strainUnder 62 = .ok (.invokestatic 51, 3) := by decide +kernel
theorem dX1_strainUnder_65 : decode cX1_strainUnder 65 = .ok (.iastore, 1) := by decide +kernel
theorem dX1_strainUnder_66 : decode cX1_strainUnder 66 = .ok (.aload_n 0, 1) := by decide +kernel
theorem dX1_strainUnder_67 : decode cX1_strainUnder 67 = .ok (.getfield 21, 3) := by decide +kernel
theorem dX1_strainUnder_70 : decode cX1_strainUnder 70 = .ok (.iload_n 1, 1) := by decide +kernel
theorem dX1_strainUnder_71 : decode cX1_strainUnder 71 = .ok (.aload_n 0, 1) := by decide +kernel
theorem dX1_strainUnder_72 : decode cX1_strainUnder 72 = .ok (.getfield 21, 3) := by decide +kernel
theorem dX1_strainUnder_75 : decode cX1_strainUnder 75 = .ok (.iload_n 1, 1) := by decide +kernel
theorem dX1_strainUnder_76 : decode cX1_strainUnder 76 = .ok (.baload, 1) := by decide +kernel
theorem dX1_strainUnder_77 : decode cX1_strainUnder 77 = .ok (.ifCond .ne 13, 3) := by decide +kernel
theorem dX1_strainUnder_80 : decode cX1_strainUnder 80 = .ok (.aload_n 0, 1) := by decide +kernel
theorem dX1_strainUnder_81 : decode cX1_strainUnder 81 = .ok (.getfield 18, 3) := by decide +kernel
theorem dX1_strainUnder_84 : decode cX1_strainUnder 84 = .ok (.iload_n 1, 1) := by decide +kernel
theorem dX1_strainUnder_85 : decode cX1_strainUnder 85 = .ok (.iaload, 1) := by decide +kernel
theorem dX1_strainUnder_86 : decode cX1_strainUnder 86 = .ok (.iconst 3, 1) := by decide +kernel
theorem dX1_strainUnder_87 : decode cX1_strainUnder 87 = .ok (.if_icmp .lt 7, 3) := by decide +kernel
theorem dX1_strainUnder_90 : decode cX1_strainUnder 90 = .ok (.iconst 1, 1) := by decide +kernel
theorem dX1_strainUnder_91 : decode cX1_strainUnder 91 = .ok (.goto 4, 3) := by decide +kernel
theorem dX1_strainUnder_94 : decode cX1_strainUnder 94 = .ok (.iconst 0, 1) := by decide +kernel
theorem dX1_strainUnder_95 : decode cX1_strainUnder 95 = .ok (.bastore, 1) := by decide +kernel
theorem dX1_strainUnder_96 : decode cX1_strainUnder 96 = .ok (.return_, 1) := by decide +kernel
theorem dX1_beginDay_0 : decode cX1_beginDay 0 = .ok (.aload_n 0, 1) := by decide +kernel
theorem dX1_beginDay_1 : decode cX1_beginDay 1 = .ok (.getfield 28, 3) := by decide +kernel
theorem dX1_beginDay_4 : decode cX1_beginDay 4 = .ok (.iload_n 1, 1) := by decide +kernel
theorem dX1_beginDay_5 : decode cX1_beginDay 5 = .ok (.bipush 8, 2) := by decide +kernel
theorem dX1_beginDay_7 : decode cX1_beginDay 7 = .ok (.invokestatic 57, 3) := by decide +kernel
theorem dX1_beginDay_10 : decode cX1_beginDay 10 = .ok (.iaload, 1) := by decide +kernel
theorem dX1_beginDay_11 : decode cX1_beginDay 11 = .ok (.istore_n 2, 1) := by decide +kernel
theorem dX1_beginDay_12 : decode cX1_beginDay 12 = .ok (.iload_n 2, 1) := by decide +kernel
theorem dX1_beginDay_13 : decode cX1_beginDay 13 = .ok (.ifCond .le 11, 3) := by decide +kernel
theorem dX1_beginDay_16 : decode cX1_beginDay 16 = .ok (.aload_n 0, 1) := by decide +kernel
theorem dX1_beginDay_17 : decode cX1_beginDay 17 = .ok (.iload_n 2, 1) := by decide +kernel
theorem dX1_beginDay_18 : decode cX1_beginDay 18 = .ok (.invokevirtual 60, 3) := by decide +kernel
theorem dX1_beginDay_21 : decode cX1_beginDay 21 = .ok (.goto 17, 3) := by decide +kernel
theorem dX1_beginDay_24 : decode cX1_beginDay 24 = .ok (.iload_n 2, 1) := by decide +kernel
theorem dX1_beginDay_25 : decode cX1_beginDay 25 = .ok (.ifCond .ge 13, 3) := by decide +kernel
theorem dX1_beginDay_28 : decode cX1_beginDay 28 = .ok (.aload_n 0, 1) := by decide +kernel
theorem dX1_beginDay_29 : decode cX1_beginDay 29 = .ok (.iload_n 2, 1) := by decide +kernel
theorem dX1_beginDay_30 : decode cX1_beginDay 30 = .ok (.ineg, 1) := by decide +kernel
theorem dX1_beginDay_31 : decode cX1_beginDay 31 = .ok (.invokevirtual 64, 3) := by decide +kernel
theorem dX1_beginDay_34 : decode cX1_beginDay 34 = .ok (.aload_n 0, 1) := by decide +kernel
theorem dX1_beginDay_35 : decode cX1_beginDay 35 = .ok (.invokevirtual 67, 3) := by decide +kernel
theorem dX1_beginDay_38 : decode cX1_beginDay 38 = .ok (.return_, 1) := by decide +kernel
theorem dX1_freeze_0 : decode cX1_freeze 0 = .ok (.aload_n 0, 1) := by decide +kernel
theorem dX1_freeze_1 : decode cX1_freeze 1 = .ok (.dup, 1) := by decide +kernel
theorem dX1_freeze_2 : decode cX1_freeze 2 = .ok (.getfield 47, 3) := by decide +kernel
theorem dX1_freeze_5 : decode cX1_freeze 5 = .ok (.iconst 1, 1) := by decide +kernel
theorem dX1_freeze_6 : decode cX1_freeze 6 = .ok (.iadd, 1) := by decide +kernel
theorem dX1_freeze_7 : decode cX1_freeze 7 = .ok (.putfield 47, 3) := by decide +kernel
theorem dX1_freeze_10 : decode cX1_freeze 10 = .ok (.iconst 0, 1) := by decide +kernel
theorem dX1_freeze_11 : decode cX1_freeze 11 = .ok (.istore_n 2, 1) := by decide +kernel
theorem dX1_freeze_12 : decode cX1_freeze 12 = .ok (.iload_n 2, 1) := by decide +kernel
theorem dX1_freeze_13 : decode cX1_freeze 13 = .ok (.sipush 160, 3) := by decide +kernel
theorem dX1_freeze_16 : decode cX1_freeze 16 = .ok (.if_icmp .ge 74, 3) := by decide +kernel
theorem dX1_freeze_19 : decode cX1_freeze 19 = .ok (.aload_n 0, 1) := by decide +kernel
theorem dX1_freeze_20 : decode cX1_freeze 20 = .ok (.getfield 9, 3) := by decide +kernel
theorem dX1_freeze_23 : decode cX1_freeze 23 = .ok (.iload_n 2, 1) := by decide +kernel
theorem dX1_freeze_24 : decode cX1_freeze 24 = .ok (.iaload, 1) := by decide +kernel
theorem dX1_freeze_25 : decode cX1_freeze 25 = .ok (.ifCond .lt 59, 3) := by decide +kernel
theorem dX1_freeze_28 : decode cX1_freeze 28 = .ok (.iload_n 1, 1) := by decide +kernel
theorem dX1_freeze_29 : decode cX1_freeze 29 = .ok (.bipush 12, 2) := by decide +kernel
theorem dX1_freeze_31 : decode cX1_freeze 31 = .ok (.imul, 1) := by decide +kernel
theorem dX1_freeze_32 : decode cX1_freeze 32 = .ok (.bipush 6, 2) := by decide +kernel
theorem dX1_freeze_34 : decode cX1_freeze 34 = .ok (.aload_n 0, 1) := by decide +kernel
theorem dX1_freeze_35 : decode cX1_freeze 35 = .ok (.getfield 9, 3) := by decide +kernel
theorem dX1_freeze_38 : decode cX1_freeze 38 = .ok (.iload_n 2, 1) := by decide +kernel
theorem dX1_freeze_39 : decode cX1_freeze 39 = .ok (.iaload, 1) := by decide +kernel
theorem dX1_freeze_40 : decode cX1_freeze 40 = .ok (.bipush 10, 2) := by decide +kernel
theorem dX1_freeze_42 : decode cX1_freeze 42 = .ok (.idiv, 1) := by decide +kernel
theorem dX1_freeze_43 : decode cX1_freeze 43 = .ok (.iadd, 1) := by decide +kernel
theorem dX1_freeze_44 : decode cX1_freeze 44 = .ok (.idiv, 1) := by decide +kernel
theorem dX1_freeze_45 : decode cX1_freeze 45 = .ok (.istore_n 3, 1) := by decide +kernel
theorem dX1_freeze_46 : decode cX1_freeze 46 = .ok (.aload_n 0, 1) := by decide +kernel
theorem dX1_freeze_47 : decode cX1_freeze 47 = .ok (.getfield 9, 3) := by decide +kernel
theorem dX1_freeze_50 : decode cX1_freeze 50 = .ok (.iload_n 2, 1) := by decide +kernel
theorem dX1_freeze_51 : decode cX1_freeze 51 = .ok (.sipush 200, 3) := by decide +kernel
theorem dX1_freeze_54 : decode cX1_freeze 54 = .ok (.aload_n 0, 1) := by decide +kernel
theorem dX1_freeze_55 : decode cX1_freeze 55 = .ok (.getfield 9, 3) := by decide +kernel
theorem dX1_freeze_58 : decode cX1_freeze 58 = .ok (.iload_n 2, 1) := by decide +kernel
theorem dX1_freeze_59 : decode cX1_freeze 59 = .ok (.iaload, 1) := by decide +kernel
theorem dX1_freeze_60 : decode cX1_freeze 60 = .ok (.iload_n 3, 1) := by decide +kernel
theorem dX1_freeze_61 : decode cX1_freeze 61 = .ok (.iadd, 1) := by decide +kernel
theorem dX1_freeze_62 : decode cX1_freeze 62 = .ok (.invokestatic 51, 3) := by decide +kernel
theorem dX1_freeze_65 : decode cX1_freeze 65 = .ok (.iastore, 1) := by decide +kernel
theorem dX1_freeze_66 : decode cX1_freeze 66 = .ok (.aload_n 0, 1) := by decide +kernel
theorem dX1_freeze_67 : decode cX1_freeze 67 = .ok (.getfield 18, 3) := by decide +kernel
theorem dX1_freeze_70 : decode cX1_freeze 70 = .ok (.iload_n 2, 1) := by decide +kernel
theorem dX1_freeze_71 : decode cX1_freeze 71 = .ok (.iconst 0, 1) := by decide +kernel
theorem dX1_freeze_72 : decode cX1_freeze 72 = .ok (.aload_n 0, 1) := by decide +kernel
theorem dX1_freeze_73 : decode cX1_freeze 73 = .ok (.getfield 18, 3) := by decide +kernel
theorem dX1_freeze_76 : decode cX1_freeze 76 = .ok (.iload_n 2, 1) := by decide +kernel
theorem dX1_freeze_77 : decode cX1_freeze 77 = .ok (.iaload, 1) := by decide +kernel
theorem dX1_freeze_78 : decode cX1_freeze 78 = .ok (.iconst 2, 1) := by decide +kernel
theorem dX1_freeze_79 : decode cX1_freeze 79 = .ok (.isub, 1) := by decide +kernel
theorem dX1_freeze_80 : decode cX1_freeze 80 = .ok (.invokestatic 70, 3) := by decide +kernel
theorem dX1_freeze_83 : decode cX1_freeze 83 = .ok (.iastore, 1) := by decide +kernel
theorem dX1_freeze_84 : decode cX1_freeze 84 = .ok (.iinc 2 1, 3) := by decide +kernel
theorem dX1_freeze_87 : decode cX1_freeze 87 = .ok (.goto (-75), 3) := by decide +kernel
theorem dX1_freeze_90 : decode cX1_freeze 90 = .ok (.return_, 1) := by decide +kernel
theorem dX1_thin_0 : decode cX1_thin 0 = .ok (.iconst 0, 1) := by decide +kernel
theorem dX1_thin_1 : decode cX1_thin 1 = .ok (.istore_n 2, 1) := by decide +kernel
theorem dX1_thin_2 : decode cX1_thin 2 = .ok (.iload_n 2, 1) := by decide +kernel
theorem dX1_thin_3 : decode cX1_thin 3 = .ok (.sipush 160, 3) := by decide +kernel
theorem dX1_thin_6 : decode cX1_thin 6 = .ok (.if_icmp .ge 38, 3) := by decide +kernel
theorem dX1_thin_9 : decode cX1_thin 9 = .ok (.aload_n 0, 1) := by decide +kernel
theorem dX1_thin_10 : decode cX1_thin 10 = .ok (.getfield 9, 3) := by decide +kernel
theorem dX1_thin_13 : decode cX1_thin 13 = .ok (.iload_n 2, 1) := by decide +kernel
theorem dX1_thin_14 : decode cX1_thin 14 = .ok (.iaload, 1) := by decide +kernel
theorem dX1_thin_15 : decode cX1_thin 15 = .ok (.ifCond .lt 23, 3) := by decide +kernel
theorem dX1_thin_18 : decode cX1_thin 18 = .ok (.aload_n 0, 1) := by decide +kernel
theorem dX1_thin_19 : decode cX1_thin 19 = .ok (.getfield 9, 3) := by decide +kernel
theorem dX1_thin_22 : decode cX1_thin 22 = .ok (.iload_n 2, 1) := by decide +kernel
theorem dX1_thin_23 : decode cX1_thin 23 = .ok (.iconst 0, 1) := by decide +kernel
theorem dX1_thin_24 : decode cX1_thin 24 = .ok (.aload_n 0, 1) := by decide +kernel
theorem dX1_thin_25 : decode cX1_thin 25 = .ok (.getfield 9, 3) := by decide +kernel
theorem dX1_thin_28 : decode cX1_thin 28 = .ok (.iload_n 2, 1) := by decide +kernel
theorem dX1_thin_29 : decode cX1_thin 29 = .ok (.iaload, 1) := by decide +kernel
theorem dX1_thin_30 : decode cX1_thin 30 = .ok (.iconst 3, 1) := by decide +kernel
theorem dX1_thin_31 : decode cX1_thin 31 = .ok (.iload_n 1, 1) := by decide +kernel
theorem dX1_thin_32 : decode cX1_thin 32 = .ok (.imul, 1) := by decide +kernel
theorem dX1_thin_33 : decode cX1_thin 33 = .ok (.isub, 1) := by decide +kernel
theorem dX1_thin_34 : decode cX1_thin 34 = .ok (.invokestatic 70, 3) := by decide +kernel
theorem dX1_thin_37 : decode cX1_thin 37 = .ok (.iastore, 1) := by decide +kernel
theorem dX1_thin_38 : decode cX1_thin 38 = .ok (.iinc 2 1, 3) := by decide +kernel
theorem dX1_thin_41 : decode cX1_thin 41 = .ok (.goto (-39), 3) := by decide +kernel
theorem dX1_thin_44 : decode cX1_thin 44 = .ok (.return_, 1) := by decide +kernel
theorem dX1_spreadCracks_0 : decode cX1_spreadCracks 0 = .ok (.iconst 0, 1) := by decide +kernel
theorem dX1_spreadCracks_1 : decode cX1_spreadCracks 1 = .ok (.istore_n 1, 1) := by decide +kernel
theorem dX1_spreadCracks_2 : decode cX1_spreadCracks 2 = .ok (.iload_n 1, 1) := by decide +kernel
theorem dX1_spreadCracks_3 : decode cX1_spreadCracks 3 = .ok (.sipush 160, 3) := by decide +kernel
theorem dX1_spreadCracks_6 : decode cX1_spreadCracks 6 = .ok (.if_icmp .ge 21, 3) := by decide +kernel
theorem dX1_spreadCracks_9 : decode cX1_spreadCracks 9 = .ok (.aload_n 0, 1) := by decide +kernel
theorem dX1_spreadCracks_10 : decode cX1_spreadCracks 10 = .ok (.getfield 25, 3) := by decide +kernel
theorem dX1_spreadCracks_13 : decode cX1_spreadCracks 13 = .ok (.iload_n 1, 1) := by decide +kernel
theorem dX1_spreadCracks_14 : decode cX1_spreadCracks 14 = .ok (.aload_n 0, 1) := by decide +kernel
theorem dX1_spreadCracks_15 : decode cX1_spreadCracks 15 = .ok (.getfield 21, 3) := by decide +kernel
theorem dX1_spreadCracks_18 : decode cX1_spreadCracks 18 = .ok (.iload_n 1, 1) := by decide +kernel
theorem dX1_spreadCracks_19 : decode cX1_spreadCracks 19 = .ok (.baload, 1) := by decide +kernel
theorem dX1_spreadCracks_20 : decode cX1_spreadCracks 20 = .ok (.bastore, 1) := by decide +kernel
theorem dX1_spreadCracks_21 : decode cX1_spreadCracks 21 = .ok (.iinc 1 1, 3) := by decide +kernel
theorem dX1_spreadCracks_24 : decode cX1_spreadCracks 24 = .ok (.goto (-22), 3) := by decide +kernel
theorem dX1_spreadCracks_27 : decode cX1_spreadCracks 27 = .ok (.iconst 0, 1) := by decide +kernel
theorem dX1_spreadCracks_28 : decode cX1_spreadCracks 28 = .ok (.istore_n 1, 1) := by decide +kernel
theorem dX1_spreadCracks_29 : decode cX1_spreadCracks 29 = .ok (.iload_n 1, 1) := by decide +kernel
theorem dX1_spreadCracks_30 : decode cX1_spreadCracks 30 = .ok (.sipush 160, 3) := by decide +kernel
theorem dX1_spreadCracks_33 : decode cX1_spreadCracks 33 = .ok (.if_icmp .ge 43, 3) := by decide +kernel
theorem dX1_spreadCracks_36 : decode cX1_spreadCracks 36 = .ok (.aload_n 0, 1) := by decide +kernel
theorem dX1_spreadCracks_37 : decode cX1_spreadCracks 37 = .ok (.getfield 9, 3) := by decide +kernel
theorem dX1_spreadCracks_40 : decode cX1_spreadCracks 40 = .ok (.iload_n 1, 1) := by decide +kernel
theorem dX1_spreadCracks_41 : decode cX1_spreadCracks 41 = .ok (.iaload, 1) := by decide +kernel
theorem dX1_spreadCracks_42 : decode cX1_spreadCracks 42 = .ok (.ifCond .lt 28, 3) := by decide +kernel
theorem dX1_spreadCracks_45 : decode cX1_spreadCracks 45 = .ok (.aload_n 0, 1) := by decide +kernel
theorem dX1_spreadCracks_46 : decode cX1_spreadCracks 46 = .ok (.getfield 18, 3) := by decide +kernel
theorem dX1_spreadCracks_49 : decode cX1_spreadCracks 49 = .ok (.iload_n 1, 1) := by decide +kernel
theorem dX1_spreadCracks_50 : decode cX1_spreadCracks 50 = .ok (.iaload, 1) := by decide +kernel
theorem dX1_spreadCracks_51 : decode cX1_spreadCracks 51 = .ok (.iconst 1, 1) := by decide +kernel
theorem dX1_spreadCracks_52 : decode cX1_spreadCracks 52 = .ok (.if_icmp .lt 18, 3) := by decide +kernel
theorem dX1_spreadCracks_55 : decode cX1_spreadCracks 55 = .ok (.aload_n 0, 1) := by decide +kernel
theorem dX1_spreadCracks_56 : decode cX1_spreadCracks 56 = .ok (.iload_n 1, 1) := by decide +kernel
theorem dX1_spreadCracks_57 : decode cX1_spreadCracks 57 = .ok (.invokevirtual 73, 3) := by decide +kernel
theorem dX1_spreadCracks_60 : decode cX1_spreadCracks 60 = .ok (.ifCond .eq 10, 3) := by decide +kernel
theorem dX1_spreadCracks_63 : decode cX1_spreadCracks 63 = .ok (.aload_n 0, 1) := by decide +kernel
theorem dX1_spreadCracks_64 : decode cX1_spreadCracks 64 = .ok (.getfield 21, 3) := by decide +kernel
theorem dX1_spreadCracks_67 : decode cX1_spreadCracks 67 = .ok (.iload_n 1, 1) := by decide +kernel
theorem dX1_spreadCracks_68 : decode cX1_spreadCracks 68 = .ok (.iconst 1, 1) := by decide +kernel
theorem dX1_spreadCracks_69 : decode cX1_spreadCracks 69 = .ok (.bastore, 1) := by decide +kernel
theorem dX1_spreadCracks_70 : decode cX1_spreadCracks 70 = .ok (.iinc 1 1, 3) := by decide +kernel
theorem dX1_spreadCracks_73 : decode cX1_spreadCracks 73 = .ok (.goto (-44), 3) := by decide +kernel
theorem dX1_spreadCracks_76 : decode cX1_spreadCracks 76 = .ok (.return_, 1) := by decide +kernel
theorem dX1_wasCrackedBeside_0 : decode cX1_wasCrackedBeside 0 = .ok (.iconst 0, 1) := by decide +kernel
theorem dX1_wasCrackedBeside_1 : decode cX1_wasCrackedBeside 1 = .ok (.istore_n 2, 1) := by decide +kernel
theorem dX1_wasCrackedBeside_2 : decode cX1_wasCrackedBeside 2 = .ok (.iload_n 2, 1) := by decide +kernel
theorem dX1_wasCrackedBeside_3 : decode cX1_wasCrackedBeside 3 = .ok (.iconst 4, 1) := by decide +kernel
theorem dX1_wasCrackedBeside_4 : decode cX1_wasCrackedBeside 4 = .ok (.if_icmp .ge 33, 3) := by decide +kernel
theorem dX1_wasCrackedBeside_7 : decode cX1_wasCrackedBeside 7 = .ok (.iload_n 1, 1) := by decide +kernel
theorem dX1_wasCrackedBeside_8 : decode cX1_wasCrackedBeside 8 = .ok (.iload_n 2, 1) := by decide +kernel
theorem dX1_wasCrackedBeside_9 : decode cX1_wasCrackedBeside 9 = .ok (.invokestatic 76, 3) := by decide +kernel
theorem dX1_wasCrackedBeside_12 : decode cX1_wasCrackedBeside 12 = .ok (.istore_n 3, 1) := by decide +kernel
theorem dX1_wasCrackedBeside_13 : decode cX1_wasCrackedBeside 13 = .ok (.iload_n 3, 1) := by decide +kernel
theorem dX1_wasCrackedBeside_14 : decode cX1_wasCrackedBeside 14 = .ok (.invokestatic 43, 3) := by decide +kernel
theorem dX1_wasCrackedBeside_17 : decode cX1_wasCrackedBeside 17 = .ok (.ifCond .eq 14, 3) := by decide +kernel
theorem dX1_wasCrackedBeside_20 : decode cX1_wasCrackedBeside 20 = .ok (.aload_n 0, 1) := by decide +kernel
theorem dX1_wasCrackedBeside_21 : decode cX1_wasCrackedBeside 21 = .ok (.getfield 25, 3) := by decide +kernel
theorem dX1_wasCrackedBeside_24 : decode cX1_wasCrackedBeside 24 = .ok (.iload_n 3, 1) := by decide +kernel
theorem dX1_wasCrackedBeside_25 : decode cX1_wasCrackedBeside 25 = .ok (.baload, 1) := by decide +kernel
theorem dX1_wasCrackedBeside_26 : decode cX1_wasCrackedBeside 26 = .ok (.ifCond .eq 5, 3) := by decide +kernel
theorem dX1_wasCrackedBeside_29 : decode cX1_wasCrackedBeside 29 = .ok (.iconst 1, 1) := by decide +kernel
theorem dX1_wasCrackedBeside_30 : decode cX1_wasCrackedBeside 30 = .ok (.ireturn, 1) := by decide +kernel
theorem dX1_wasCrackedBeside_31 : decode cX1_wasCrackedBeside 31 = .ok (.iinc 2 1, 3) := by decide +kernel
theorem dX1_wasCrackedBeside_34 : decode cX1_wasCrackedBeside 34 = .ok (.goto (-32), 3) := by decide +kernel
theorem dX1_wasCrackedBeside_37 : decode cX1_wasCrackedBeside 37 = .ok (.iconst 0, 1) := by decide +kernel
theorem dX1_wasCrackedBeside_38 : decode cX1_wasCrackedBeside 38 = .ok (.ireturn, 1) := by decide +kernel
theorem dX1_crackedCells_0 : decode cX1_crackedCells 0 = .ok (.iconst 0, 1) := by decide +kernel
theorem dX1_crackedCells_1 : decode cX1_crackedCells 1 = .ok (.istore_n 1, 1) := by decide +kernel
theorem dX1_crackedCells_2 : decode cX1_crackedCells 2 = .ok (.iconst 0, 1) := by decide +kernel
theorem dX1_crackedCells_3 : decode cX1_crackedCells 3 = .ok (.istore_n 2, 1) := by decide +kernel
theorem dX1_crackedCells_4 : decode cX1_crackedCells 4 = .ok (.iload_n 2, 1) := by decide +kernel
theorem dX1_crackedCells_5 : decode cX1_crackedCells 5 = .ok (.sipush 160, 3) := by decide +kernel
theorem dX1_crackedCells_8 : decode cX1_crackedCells 8 = .ok (.if_icmp .ge 26, 3) := by decide +kernel
theorem dX1_crackedCells_11 : decode cX1_crackedCells 11 = .ok (.iload_n 1, 1) := by decide +kernel
theorem dX1_crackedCells_12 : decode cX1_crackedCells 12 = .ok (.aload_n 0, 1) := by decide +kernel
theorem dX1_crackedCells_13 : decode cX1_crackedCells 13 = .ok (.getfield 21, 3) := by decide +kernel
theorem dX1_crackedCells_16 : decode cX1_crackedCells 16 = .ok (.iload_n 2, 1) := by decide +kernel
theorem dX1_crackedCells_17 : decode cX1_crackedCells 17 = .ok (.baload, 1) := by decide +kernel
theorem dX1_crackedCells_18 : decode cX1_crackedCells 18 = .ok (.ifCond .eq 7, 3) := by decide +kernel
theorem dX1_crackedCells_21 : decode cX1_crackedCells 21 = .ok (.iconst 1, 1) := by decide +kernel
theorem dX1_crackedCells_22 : decode cX1_crackedCells 22 = .ok (.goto 4, 3) := by decide +kernel
theorem dX1_crackedCells_25 : decode cX1_crackedCells 25 = .ok (.iconst 0, 1) := by decide +kernel
theorem dX1_crackedCells_26 : decode cX1_crackedCells 26 = .ok (.iadd, 1) := by decide +kernel
theorem dX1_crackedCells_27 : decode cX1_crackedCells 27 = .ok (.istore_n 1, 1) := by decide +kernel
theorem dX1_crackedCells_28 : decode cX1_crackedCells 28 = .ok (.iinc 2 1, 3) := by decide +kernel
theorem dX1_crackedCells_31 : decode cX1_crackedCells 31 = .ok (.goto (-27), 3) := by decide +kernel
theorem dX1_crackedCells_34 : decode cX1_crackedCells 34 = .ok (.iload_n 1, 1) := by decide +kernel
theorem dX1_crackedCells_35 : decode cX1_crackedCells 35 = .ok (.ireturn, 1) := by decide +kernel
theorem dX1_allThickness_0 : decode cX1_allThickness 0 = .ok (.iconst 0, 1) := by decide +kernel
theorem dX1_allThickness_1 : decode cX1_allThickness 1 = .ok (.istore_n 1, 1) := by decide +kernel
theorem dX1_allThickness_2 : decode cX1_allThickness 2 = .ok (.iconst 0, 1) := by decide +kernel
theorem dX1_allThickness_3 : decode cX1_allThickness 3 = .ok (.istore_n 2, 1) := by decide +kernel
theorem dX1_allThickness_4 : decode cX1_allThickness 4 = .ok (.iload_n 2, 1) := by decide +kernel
theorem dX1_allThickness_5 : decode cX1_allThickness 5 = .ok (.sipush 160, 3) := by decide +kernel
theorem dX1_allThickness_8 : decode cX1_allThickness 8 = .ok (.if_icmp .ge 22, 3) := by decide +kernel
theorem dX1_allThickness_11 : decode cX1_allThickness 11 = .ok (.iload_n 1, 1) := by decide +kernel
theorem dX1_allThickness_12 : decode cX1_allThickness 12 = .ok (.iconst 0, 1) := by decide +kernel
theorem dX1_allThickness_13 : decode cX1_allThickness 13 = .ok (.aload_n 0, 1) := by decide +kernel
theorem dX1_allThickness_14 : decode cX1_allThickness 14 = .ok (.getfield 9, 3) := by decide +kernel
theorem dX1_allThickness_17 : decode cX1_allThickness 17 = .ok (.iload_n 2, 1) := by decide +kernel
theorem dX1_allThickness_18 : decode cX1_allThickness 18 = .ok (.iaload, 1) := by decide +kernel
theorem dX1_allThickness_19 : decode cX1_allThickness 19 = .ok (.invokestatic 70, 3) := by decide +kernel
theorem dX1_allThickness_22 : decode cX1_allThickness 22 = .ok (.iadd, 1) := by decide +kernel
theorem dX1_allThickness_23 : decode cX1_allThickness 23 = .ok (.istore_n 1, 1) := by decide +kernel
theorem dX1_allThickness_24 : decode cX1_allThickness 24 = .ok (.iinc 2 1, 3) := by decide +kernel
theorem dX1_allThickness_27 : decode cX1_allThickness 27 = .ok (.goto (-23), 3) := by decide +kernel
theorem dX1_allThickness_30 : decode cX1_allThickness 30 = .ok (.iload_n 1, 1) := by decide +kernel
theorem dX1_allThickness_31 : decode cX1_allThickness 31 = .ok (.ireturn, 1) := by decide +kernel
theorem dX2_init_0 : decode cX2_init 0 = .ok (.aload_n 0, 1) := by decide +kernel
theorem dX2_init_1 : decode cX2_init 1 = .ok (.invokespecial 3, 3) := by decide +kernel
theorem dX2_init_4 : decode cX2_init 4 = .ok (.return_, 1) := by decide +kernel
theorem dX2_begin_0 : decode cX2_begin 0 = .ok (.aload_n 0, 1) := by decide +kernel
theorem dX2_begin_1 : decode cX2_begin 1 = .ok (.iload_n 3, 1) := by decide +kernel
theorem dX2_begin_2 : decode cX2_begin 2 = .ok (.putfield 9, 3) := by decide +kernel
theorem dX2_begin_5 : decode cX2_begin 5 = .ok (.aload_n 0, 1) := by decide +kernel
theorem dX2_begin_6 : decode cX2_begin 6 = .ok (.iconst 0, 1) := by decide +kernel
theorem dX2_begin_7 : decode cX2_begin 7 = .ok (.putfield 15, 3) := by decide +kernel
theorem dX2_begin_10 : decode cX2_begin 10 = .ok (.aload_n 0, 1) := by decide +kernel
theorem dX2_begin_11 : decode cX2_begin 11 = .ok (.iload_n 2, 1) := by decide +kernel
theorem dX2_begin_12 : decode cX2_begin 12 = .ok (.putfield 18, 3) := by decide +kernel
theorem dX2_begin_15 : decode cX2_begin 15 = .ok (.aload_n 0, 1) := by decide +kernel
theorem dX2_begin_16 : decode cX2_begin 16 = .ok (.iload_n 1, 1) := by decide +kernel
theorem dX2_begin_17 : decode cX2_begin 17 = .ok (.putfield 21, 3) := by decide +kernel
theorem dX2_begin_20 : decode cX2_begin 20 = .ok (.aload_n 0, 1) := by decide +kernel
theorem dX2_begin_21 : decode cX2_begin 21 = .ok (.iconst (-1), 1) := by decide +kernel
theorem dX2_begin_22 : decode cX2_begin 22 = .ok (.putfield 24, 3) := by decide +kernel
theorem dX2_begin_25 : decode cX2_begin 25 = .ok (.return_, 1) := by decide +kernel
theorem dX2_copySleigh_0 : decode cX2_copySleigh 0 = .ok (.aload_n 0, 1) := by decide +kernel
theorem dX2_copySleigh_1 : decode cX2_copySleigh 1 = .ok (.aload_n 1, 1) := by decide +kernel
theorem dX2_copySleigh_2 : decode cX2_copySleigh 2 = .ok (.getfield 9, 3) := by decide +kernel
theorem dX2_copySleigh_5 : decode cX2_copySleigh 5 = .ok (.putfield 9, 3) := by decide +kernel
theorem dX2_copySleigh_8 : decode cX2_copySleigh 8 = .ok (.aload_n 0, 1) := by decide +kernel
theorem dX2_copySleigh_9 : decode cX2_copySleigh 9 = .ok (.aload_n 1, 1) := by decide +kernel
theorem dX2_copySleigh_10 : decode cX2_copySleigh 10 = .ok (.getfield 27, 3) := by decide +kernel
theorem dX2_copySleigh_13 : decode cX2_copySleigh 13 = .ok (.putfield 27, 3) := by decide +kernel
theorem dX2_copySleigh_16 : decode cX2_copySleigh 16 = .ok (.aload_n 0, 1) := by decide +kernel
theorem dX2_copySleigh_17 : decode cX2_copySleigh 17 = .ok (.aload_n 1, 1) := by decide +kernel
theorem dX2_copySleigh_18 : decode cX2_copySleigh 18 = .ok (.getfield 30, 3) := by decide +kernel
theorem dX2_copySleigh_21 : decode cX2_copySleigh 21 = .ok (.putfield 30, 3) := by decide +kernel
theorem dX2_copySleigh_24 : decode cX2_copySleigh 24 = .ok (.aload_n 0, 1) := by decide +kernel
theorem dX2_copySleigh_25 : decode cX2_copySleigh 25 = .ok (.aload_n 1, 1) := by decide +kernel
theorem dX2_copySleigh_26 : decode cX2_copySleigh 26 = .ok (.getfield 15, 3) := by decide +kernel
theorem dX2_copySleigh_29 : decode cX2_copySleigh 29 = .ok (.putfield 15, 3) := by decide +kernel
theorem dX2_copySleigh_32 : decode cX2_copySleigh 32 = .ok (.aload_n 0, 1) := by decide +kernel
theorem dX2_copySleigh_33 : decode cX2_copySleigh 33 = .ok (.aload_n 1, 1) := by decide +kernel
theorem dX2_copySleigh_34 : decode cX2_copySleigh 34 = .ok (.getfield 18, 3) := by decide +kernel
theorem dX2_copySleigh_37 : decode cX2_copySleigh 37 = .ok (.putfield 18, 3) := by decide +kernel
theorem dX2_copySleigh_40 : decode cX2_copySleigh 40 = .ok (.aload_n 0, 1) := by decide +kernel
theorem dX2_copySleigh_41 : decode cX2_copySleigh 41 = .ok (.aload_n 1, 1) := by decide +kernel
theorem dX2_copySleigh_42 : decode cX2_copySleigh 42 = .ok (.getfield 21, 3) := by decide +kernel
theorem dX2_copySleigh_45 : decode cX2_copySleigh 45 = .ok (.putfield 21, 3) := by decide +kernel
theorem dX2_copySleigh_48 : decode cX2_copySleigh 48 = .ok (.aload_n 0, 1) := by decide +kernel
theorem dX2_copySleigh_49 : decode cX2_copySleigh 49 = .ok (.aload_n 1, 1) := by decide +kernel
theorem dX2_copySleigh_50 : decode cX2_copySleigh 50 = .ok (.getfield 24, 3) := by decide +kernel
theorem dX2_copySleigh_53 : decode cX2_copySleigh 53 = .ok (.putfield 24, 3) := by decide +kernel
theorem dX2_copySleigh_56 : decode cX2_copySleigh 56 = .ok (.aload_n 0, 1) := by decide +kernel
theorem dX2_copySleigh_57 : decode cX2_copySleigh 57 = .ok (.aload_n 1, 1) := by decide +kernel
theorem dX2_copySleigh_58 : decode cX2_copySleigh 58 = .ok (.getfield 33, 3) := by decide +kernel
theorem dX2_copySleigh_61 : decode cX2_copySleigh 61 = .ok (.putfield 33, 3) := by decide +kernel
theorem dX2_copySleigh_64 : decode cX2_copySleigh 64 = .ok (.aload_n 0, 1) := by decide +kernel
theorem dX2_copySleigh_65 : decode cX2_copySleigh 65 = .ok (.iconst (-1), 1) := by decide +kernel
theorem dX2_copySleigh_66 : decode cX2_copySleigh 66 = .ok (.putfield 36, 3) := by decide +kernel
theorem dX2_copySleigh_69 : decode cX2_copySleigh 69 = .ok (.return_, 1) := by decide +kernel
theorem dX2_weight_0 : decode cX2_weight 0 = .ok (.bipush 40, 2) := by decide +kernel
theorem dX2_weight_2 : decode cX2_weight 2 = .ok (.bipush 30, 2) := by decide +kernel
theorem dX2_weight_4 : decode cX2_weight 4 = .ok (.aload_n 0, 1) := by decide +kernel
theorem dX2_weight_5 : decode cX2_weight 5 = .ok (.getfield 9, 3) := by decide +kernel
theorem dX2_weight_8 : decode cX2_weight 8 = .ok (.imul, 1) := by decide +kernel
theorem dX2_weight_9 : decode cX2_weight 9 = .ok (.iadd, 1) := by decide +kernel
theorem dX2_weight_10 : decode cX2_weight 10 = .ok (.aload_n 0, 1) := by decide +kernel
theorem dX2_weight_11 : decode cX2_weight 11 = .ok (.getfield 27, 3) := by decide +kernel
theorem dX2_weight_14 : decode cX2_weight 14 = .ok (.iadd, 1) := by decide +kernel
theorem dX2_weight_15 : decode cX2_weight 15 = .ok (.ireturn, 1) := by decide +kernel
theorem dX2_need_0 : decode cX2_need 0 = .ok (.aload_n 0, 1) := by decide +kernel
theorem dX2_need_1 : decode cX2_need 1 = .ok (.invokevirtual 39, 3) := by decide +kernel
theorem dX2_need_4 : decode cX2_need 4 = .ok (.invokestatic 43, 3) := by decide +kernel
theorem dX2_need_7 : decode cX2_need 7 = .ok (.ireturn, 1) := by decide +kernel
theorem dX2_ownDrag_0 : decode cX2_ownDrag 0 = .ok (.aload_n 0, 1) := by decide +kernel
theorem dX2_ownDrag_1 : decode cX2_ownDrag 1 = .ok (.invokevirtual 39, 3) := by decide +kernel
theorem dX2_ownDrag_4 : decode cX2_ownDrag 4 = .ok (.aload_n 0, 1) := by decide +kernel
theorem dX2_ownDrag_5 : decode cX2_ownDrag 5 = .ok (.getfield 9, 3) := by decide +kernel
theorem dX2_ownDrag_8 : decode cX2_ownDrag 8 = .ok (.aload_n 0, 1) := by decide +kernel
theorem dX2_ownDrag_9 : decode cX2_ownDrag 9 = .ok (.getfield 30, 3) := by decide +kernel
theorem dX2_ownDrag_12 : decode cX2_ownDrag 12 = .ok (.invokestatic 47, 3) := by decide +kernel
theorem dX2_ownDrag_15 : decode cX2_ownDrag 15 = .ok (.ireturn, 1) := by decide +kernel
theorem dX2_depart_0 : decode cX2_depart 0 = .ok (.aload_n 0, 1) := by decide +kernel
theorem dX2_depart_1 : decode cX2_depart 1 = .ok (.iconst 1, 1) := by decide +kernel
theorem dX2_depart_2 : decode cX2_depart 2 = .ok (.putfield 15, 3) := by decide +kernel
theorem dX2_depart_5 : decode cX2_depart 5 = .ok (.aload_n 0, 1) := by decide +kernel
theorem dX2_depart_6 : decode cX2_depart 6 = .ok (.iload_n 1, 1) := by decide +kernel
theorem dX2_depart_7 : decode cX2_depart 7 = .ok (.putfield 21, 3) := by decide +kernel
theorem dX2_depart_10 : decode cX2_depart 10 = .ok (.aload_n 0, 1) := by decide +kernel
theorem dX2_depart_11 : decode cX2_depart 11 = .ok (.iconst (-1), 1) := by decide +kernel
theorem dX2_depart_12 : decode cX2_depart 12 = .ok (.putfield 36, 3) := by decide +kernel
theorem dX2_depart_15 : decode cX2_depart 15 = .ok (.return_, 1) := by decide +kernel
theorem dX2_isBetween_0 : decode cX2_isBetween 0 = .ok (.aload_n 0, 1) := by decide +kernel
theorem dX2_isBetween_1 : decode cX2_isBetween 1 = .ok (.getfield 15, 3) := by decide +kernel
theorem dX2_isBetween_4 : decode cX2_isBetween 4 = .ok (.iconst 1, 1) := by decide +kernel
theorem dX2_isBetween_5 : decode cX2_isBetween 5 = .ok (.if_icmp .ne 14, 3) := by decide +kernel
theorem dX2_isBetween_8 : decode cX2_isBetween 8 = .ok (.aload_n 0, 1) := by decide +kernel
theorem dX2_isBetween_9 : decode cX2_isBetween 9 = .ok (.getfield 33, 3) := by decide +kernel
theorem dX2_isBetween_12 : decode cX2_isBetween 12 = .ok (.ifCond .le 7, 3) := by decide +kernel
theorem dX2_isBetween_15 : decode cX2_isBetween 15 = .ok (.iconst 1, 1) := by decide +kernel
theorem dX2_isBetween_16 : decode cX2_isBetween 16 = .ok (.goto 4, 3) := by decide +kernel
theorem dX2_isBetween_19 : decode cX2_isBetween 19 = .ok (.iconst 0, 1) := by decide +kernel
theorem dX2_isBetween_20 : decode cX2_isBetween 20 = .ok (.ireturn, 1) := by decide +kernel
theorem dX2_sink_0 : decode cX2_sink 0 = .ok (.aload_n 0, 1) := by decide +kernel
theorem dX2_sink_1 : decode cX2_sink 1 = .ok (.iconst 2, 1) := by decide +kernel
theorem dX2_sink_2 : decode cX2_sink 2 = .ok (.putfield 15, 3) := by decide +kernel
theorem dX2_sink_5 : decode cX2_sink 5 = .ok (.aload_n 0, 1) := by decide +kernel
theorem dX2_sink_6 : decode cX2_sink 6 = .ok (.iconst 0, 1) := by decide +kernel
theorem dX2_sink_7 : decode cX2_sink 7 = .ok (.putfield 27, 3) := by decide +kernel
theorem dX2_sink_10 : decode cX2_sink 10 = .ok (.aload_n 0, 1) := by decide +kernel
theorem dX2_sink_11 : decode cX2_sink 11 = .ok (.iconst (-1), 1) := by decide +kernel
theorem dX2_sink_12 : decode cX2_sink 12 = .ok (.putfield 21, 3) := by decide +kernel
theorem dX2_sink_15 : decode cX2_sink 15 = .ok (.aload_n 0, 1) := by decide +kernel
theorem dX2_sink_16 : decode cX2_sink 16 = .ok (.iconst (-1), 1) := by decide +kernel
theorem dX2_sink_17 : decode cX2_sink 17 = .ok (.putfield 24, 3) := by decide +kernel
theorem dX2_sink_20 : decode cX2_sink 20 = .ok (.aload_n 0, 1) := by decide +kernel
theorem dX2_sink_21 : decode cX2_sink 21 = .ok (.iconst 0, 1) := by decide +kernel
theorem dX2_sink_22 : decode cX2_sink 22 = .ok (.putfield 33, 3) := by decide +kernel
theorem dX2_sink_25 : decode cX2_sink 25 = .ok (.return_, 1) := by decide +kernel
theorem dX2_beginToGo_0 : decode cX2_beginToGo 0 = .ok (.aload_n 0, 1) := by decide +kernel
theorem dX2_beginToGo_1 : decode cX2_beginToGo 1 = .ok (.iload_n 1, 1) := by decide +kernel
theorem dX2_beginToGo_2 : decode cX2_beginToGo 2 = .ok (.putfield 24, 3) := by decide +kernel
theorem dX2_beginToGo_5 : decode cX2_beginToGo 5 = .ok (.aload_n 0, 1) := by decide +kernel
theorem dX2_beginToGo_6 : decode cX2_beginToGo 6 = .ok (.iload_n 2, 1) := by decide +kernel
theorem dX2_beginToGo_7 : decode cX2_beginToGo 7 = .ok (.putfield 33, 3) := by decide +kernel
theorem dX2_beginToGo_10 : decode cX2_beginToGo 10 = .ok (.return_, 1) := by decide +kernel
theorem dX2_comesOn_0 : decode cX2_comesOn 0 = .ok (.aload_n 0, 1) := by decide +kernel
theorem dX2_comesOn_1 : decode cX2_comesOn 1 = .ok (.dup, 1) := by decide +kernel
theorem dX2_comesOn_2 : decode cX2_comesOn 2 = .ok (.getfield 33, 3) := by decide +kernel
theorem dX2_comesOn_5 : decode cX2_comesOn 5 = .ok (.iconst 1, 1) := by decide +kernel
theorem dX2_comesOn_6 : decode cX2_comesOn 6 = .ok (.isub, 1) := by decide +kernel
theorem dX2_comesOn_7 : decode cX2_comesOn 7 = .ok (.putfield 33, 3) := by decide +kernel
theorem dX2_comesOn_10 : decode cX2_comesOn 10 = .ok (.aload_n 0, 1) := by decide +kernel
theorem dX2_comesOn_11 : decode cX2_comesOn 11 = .ok (.getfield 33, 3) := by decide +kernel
theorem dX2_comesOn_14 : decode cX2_comesOn 14 = .ok (.ifCond .le 5, 3) := by decide +kernel
theorem dX2_comesOn_17 : decode cX2_comesOn 17 = .ok (.iconst 0, 1) := by decide +kernel
theorem dX2_comesOn_18 : decode cX2_comesOn 18 = .ok (.ireturn, 1) := by decide +kernel
theorem dX2_comesOn_19 : decode cX2_comesOn 19 = .ok (.aload_n 0, 1) := by decide +kernel
theorem dX2_comesOn_20 : decode cX2_comesOn 20 = .ok (.aload_n 0, 1) := by decide +kernel
theorem dX2_comesOn_21 : decode cX2_comesOn 21 = .ok (.getfield 24, 3) := by decide +kernel
theorem dX2_comesOn_24 : decode cX2_comesOn 24 = .ok (.putfield 18, 3) := by decide +kernel
theorem dX2_comesOn_27 : decode cX2_comesOn 27 = .ok (.aload_n 0, 1) := by decide +kernel
theorem dX2_comesOn_28 : decode cX2_comesOn 28 = .ok (.iconst (-1), 1) := by decide +kernel
theorem dX2_comesOn_29 : decode cX2_comesOn 29 = .ok (.putfield 24, 3) := by decide +kernel
theorem dX2_comesOn_32 : decode cX2_comesOn 32 = .ok (.aload_n 0, 1) := by decide +kernel
theorem dX2_comesOn_33 : decode cX2_comesOn 33 = .ok (.bipush 100, 2) := by decide +kernel
theorem dX2_comesOn_35 : decode cX2_comesOn 35 = .ok (.aload_n 0, 1) := by decide +kernel
theorem dX2_comesOn_36 : decode cX2_comesOn 36 = .ok (.getfield 30, 3) := by decide +kernel
theorem dX2_comesOn_39 : decode cX2_comesOn 39 = .ok (.iconst 1, 1) := by decide +kernel
theorem dX2_comesOn_40 : decode cX2_comesOn 40 = .ok (.iadd, 1) := by decide +kernel
theorem dX2_comesOn_41 : decode cX2_comesOn 41 = .ok (.invokestatic 51, 3) := by decide +kernel
theorem dX2_comesOn_44 : decode cX2_comesOn 44 = .ok (.putfield 30, 3) := by decide +kernel
theorem dX2_comesOn_47 : decode cX2_comesOn 47 = .ok (.iconst 1, 1) := by decide +kernel
theorem dX2_comesOn_48 : decode cX2_comesOn 48 = .ok (.ireturn, 1) := by decide +kernel
theorem dX2_restAtGoal_0 : decode cX2_restAtGoal 0 = .ok (.aload_n 0, 1) := by decide +kernel
theorem dX2_restAtGoal_1 : decode cX2_restAtGoal 1 = .ok (.iconst 0, 1) := by decide +kernel
theorem dX2_restAtGoal_2 : decode cX2_restAtGoal 2 = .ok (.putfield 15, 3) := by decide +kernel
theorem dX2_restAtGoal_5 : decode cX2_restAtGoal 5 = .ok (.aload_n 0, 1) := by decide +kernel
theorem dX2_restAtGoal_6 : decode cX2_restAtGoal 6 = .ok (.iconst 0, 1) := by decide +kernel
theorem dX2_restAtGoal_7 : decode cX2_restAtGoal 7 = .ok (.putfield 27, 3) := by decide +kernel
theorem dX2_restAtGoal_10 : decode cX2_restAtGoal 10 = .ok (.return_, 1) := by decide +kernel
theorem dX2_recover_0 : decode cX2_recover 0 = .ok (.aload_n 0, 1) := by decide +kernel
theorem dX2_recover_1 : decode cX2_recover 1 = .ok (.iconst 0, 1) := by decide +kernel
theorem dX2_recover_2 : decode cX2_recover 2 = .ok (.aload_n 0, 1) := by decide +kernel
theorem dX2_recover_3 : decode cX2_recover 3 = .ok (.getfield 30, 3) := by decide +kernel
theorem dX2_recover_6 : decode cX2_recover 6 = .ok (.iconst 2, 1) := by decide +kernel
theorem dX2_recover_7 : decode cX2_recover 7 = .ok (.isub, 1) := by decide +kernel
theorem dX2_recover_8 : decode cX2_recover 8 = .ok (.invokestatic 57, 3) := by decide +kernel
theorem dX2_recover_11 : decode cX2_recover 11 = .ok (.putfield 30, 3) := by decide +kernel
theorem dX2_recover_14 : decode cX2_recover 14 = .ok (.return_, 1) := by decide +kernel
theorem dX3_init_0 : decode cX3_init 0 = .ok (.aload_n 0, 1) := by decide +kernel
theorem dX3_init_1 : decode cX3_init 1 = .ok (.invokespecial 3, 3) := by decide +kernel
theorem dX3_init_4 : decode cX3_init 4 = .ok (.aload_n 0, 1) := by decide +kernel
theorem dX3_init_5 : decode cX3_init 5 = .ok (.sipush 160, 3) := by decide +kernel
theorem dX3_init_8 : decode cX3_init 8 = .ok (.newarray .int, 2) := by decide +kernel
theorem dX3_init_10 : decode cX3_init 10 = .ok (.putfield 9, 3) := by decide +kernel
theorem dX3_init_13 : decode cX3_init 13 = .ok (.aload_n 0, 1) := by decide +kernel
theorem dX3_init_14 : decode cX3_init 14 = .ok (.bipush 64, 2) := by decide +kernel
theorem dX3_init_16 : decode cX3_init 16 = .ok (.newarray .int, 2) := by decide +kernel
theorem dX3_init_18 : decode cX3_init 18 = .ok (.putfield 15, 3) := by decide +kernel
theorem dX3_init_21 : decode cX3_init 21 = .ok (.aload_n 0, 1) := by decide +kernel
theorem dX3_init_22 : decode cX3_init 22 = .ok (.sipush 160, 3) := by decide +kernel
theorem dX3_init_25 : decode cX3_init 25 = .ok (.newarray .int, 2) := by decide +kernel
theorem dX3_init_27 : decode cX3_init 27 = .ok (.putfield 18, 3) := by decide +kernel
theorem dX3_init_30 : decode cX3_init 30 = .ok (.return_, 1) := by decide +kernel
theorem dX3_look_0 : decode cX3_look 0 = .ok (.aload_n 0, 1) := by decide +kernel
theorem dX3_look_1 : decode cX3_look 1 = .ok (.aload_n 1, 1) := by decide +kernel
theorem dX3_look_2 : decode cX3_look 2 = .ok (.putfield 21, 3) := by decide +kernel
theorem dX3_look_5 : decode cX3_look 5 = .ok (.aload_n 0, 1) := by decide +kernel
theorem dX3_look_6 : decode cX3_look 6 = .ok (.iload 4, 2) := by decide +kernel
theorem dX3_look_8 : decode cX3_look 8 = .ok (.putfield 25, 3) := by decide +kernel
theorem dX3_look_11 : decode cX3_look 11 = .ok (.aload_n 0, 1) := by decide +kernel
theorem dX3_look_12 : decode cX3_look 12 = .ok (.iload 5, 2) := by decide +kernel
theorem dX3_look_14 : decode cX3_look 14 = .ok (.putfield 29, 3) := by decide +kernel
theorem dX3_look_17 : decode cX3_look 17 = .ok (.aload_n 0, 1) := by decide +kernel
theorem dX3_look_18 : decode cX3_look 18 = .ok (.iconst 0, 1) := by decide +kernel
theorem dX3_look_19 : decode cX3_look 19 = .ok (.putfield 32, 3) := by decide +kernel
theorem dX3_look_22 : decode cX3_look 22 = .ok (.aload_n 0, 1) := by decide +kernel
theorem dX3_look_23 : decode cX3_look 23 = .ok (.getfield 9, 3) := by decide +kernel
theorem dX3_look_26 : decode cX3_look 26 = .ok (.iconst (-1), 1) := by decide +kernel
theorem dX3_look_27 : decode cX3_look 27 = .ok (.invokestatic 35, 3) := by decide +kernel
theorem dX3_look_30 : decode cX3_look 30 = .ok (.aload_n 0, 1) := by decide +kernel
theorem dX3_look_31 : decode cX3_look 31 = .ok (.getfield 15, 3) := by decide +kernel
theorem dX3_look_34 : decode cX3_look 34 = .ok (.iconst (-1), 1) := by decide +kernel
theorem dX3_look_35 : decode cX3_look 35 = .ok (.invokestatic 35, 3) := by decide +kernel
theorem dX3_look_38 : decode cX3_look 38 = .ok (.aload_n 0, 1) := by decide +kernel
theorem dX3_look_39 : decode cX3_look 39 = .ok (.iload_n 3, 1) := by decide +kernel
theorem dX3_look_40 : decode cX3_look 40 = .ok (.iconst 0, 1) := by decide +kernel
theorem dX3_look_41 : decode cX3_look 41 = .ok (.invokevirtual 41, 3) := by decide +kernel
theorem dX3_look_44 : decode cX3_look 44 = .ok (.iload_n 2, 1) := by decide +kernel
theorem dX3_look_45 : decode cX3_look 45 = .ok (.invokestatic 45, 3) := by decide +kernel
theorem dX3_look_48 : decode cX3_look 48 = .ok (.ifCond .ne 5, 3) := by decide +kernel
theorem dX3_look_51 : decode cX3_look 51 = .ok (.iconst (-1), 1) := by decide +kernel
theorem dX3_look_52 : decode cX3_look 52 = .ok (.ireturn, 1) := by decide +kernel
theorem dX3_look_53 : decode cX3_look 53 = .ok (.iconst 0, 1) := by decide +kernel
theorem dX3_look_54 : decode cX3_look 54 = .ok (.istore 6, 2) := by decide +kernel
theorem dX3_look_56 : decode cX3_look 56 = .ok (.iload 6, 2) := by decide +kernel
theorem dX3_look_58 : decode cX3_look 58 = .ok (.sipush 10240, 3) := by decide +kernel
theorem dX3_look_61 : decode cX3_look 61 = .ok (.if_icmp .ge 32, 3) := by decide +kernel
theorem dX3_look_64 : decode cX3_look 64 = .ok (.aload_n 0, 1) := by decide +kernel
theorem dX3_look_65 : decode cX3_look 65 = .ok (.getfield 32, 3) := by decide +kernel
theorem dX3_look_68 : decode cX3_look 68 = .ok (.ifCond .le 25, 3) := by decide +kernel
theorem dX3_look_71 : decode cX3_look 71 = .ok (.aload_n 0, 1) := by decide +kernel
theorem dX3_look_72 : decode cX3_look 72 = .ok (.getfield 9, 3) := by decide +kernel
theorem dX3_look_75 : decode cX3_look 75 = .ok (.iload_n 2, 1) := by decide +kernel
theorem dX3_look_76 : decode cX3_look 76 = .ok (.iaload, 1) := by decide +kernel
theorem dX3_look_77 : decode cX3_look 77 = .ok (.iconst (-1), 1) := by decide +kernel
theorem dX3_look_78 : decode cX3_look 78 = .ok (.if_icmp .ne 15, 3) := by decide +kernel
theorem dX3_look_81 : decode cX3_look 81 = .ok (.aload_n 0, 1) := by decide +kernel
theorem dX3_look_82 : decode cX3_look 82 = .ok (.iload 6, 2) := by decide +kernel
theorem dX3_look_84 : decode cX3_look 84 = .ok (.invokevirtual 49, 3) := by decide +kernel
theorem dX3_look_87 : decode cX3_look 87 = .ok (.iinc 6 1, 3) := by decide +kernel
theorem dX3_look_90 : decode cX3_look 90 = .ok (.goto (-34), 3) := by decide +kernel
theorem dX3_look_93 : decode cX3_look 93 = .ok (.aload_n 0, 1) := by decide +kernel
theorem dX3_look_94 : decode cX3_look 94 = .ok (.getfield 9, 3) := by decide +kernel
theorem dX3_look_97 : decode cX3_look 97 = .ok (.iload_n 2, 1) := by decide +kernel
theorem dX3_look_98 : decode cX3_look 98 = .ok (.iaload, 1) := by decide +kernel
theorem dX3_look_99 : decode cX3_look 99 = .ok (.ireturn, 1) := by decide +kernel
theorem dX3_firstFrom_0 : decode cX3_firstFrom 0 = .ok (.iload_n 1, 1) := by decide +kernel
theorem dX3_firstFrom_1 : decode cX3_firstFrom 1 = .ok (.invokestatic 45, 3) := by decide +kernel
theorem dX3_firstFrom_4 : decode cX3_firstFrom 4 = .ok (.ifCond .eq 20, 3) := by decide +kernel
theorem dX3_firstFrom_7 : decode cX3_firstFrom 7 = .ok (.aload_n 0, 1) := by decide +kernel
theorem dX3_firstFrom_8 : decode cX3_firstFrom 8 = .ok (.getfield 21, 3) := by decide +kernel
theorem dX3_firstFrom_11 : decode cX3_firstFrom 11 = .ok (.ifnull 13, 3) := by decide +kernel
theorem dX3_firstFrom_14 : decode cX3_firstFrom 14 = .ok (.aload_n 0, 1) := by decide +kernel
theorem dX3_firstFrom_15 : decode cX3_firstFrom 15 = .ok (.getfield 9, 3) := by decide +kernel
theorem dX3_firstFrom_18 : decode cX3_firstFrom 18 = .ok (.iload_n 1, 1) := by decide +kernel
theorem dX3_firstFrom_19 : decode cX3_firstFrom 19 = .ok (.iaload, 1) := by decide +kernel
theorem dX3_firstFrom_20 : decode cX3_firstFrom 20 = .ok (.iconst (-1), 1) := by decide +kernel
theorem dX3_firstFrom_21 : decode cX3_firstFrom 21 = .ok (.if_icmp .ne 5, 3) := by decide +kernel
theorem dX3_firstFrom_24 : decode cX3_firstFrom 24 = .ok (.iconst (-1), 1) := by decide +kernel
theorem dX3_firstFrom_25 : decode cX3_firstFrom 25 = .ok (.ireturn, 1) := by decide +kernel
theorem dX3_firstFrom_26 : decode cX3_firstFrom 26 = .ok (.iconst 0, 1) := by decide +kernel
theorem dX3_firstFrom_27 : decode cX3_firstFrom 27 = .ok (.istore_n 2, 1) := by decide +kernel
theorem dX3_firstFrom_28 : decode cX3_firstFrom 28 = .ok (.iload_n 2, 1) := by decide +kernel
theorem dX3_firstFrom_29 : decode cX3_firstFrom 29 = .ok (.iconst 4, 1) := by decide +kernel
theorem dX3_firstFrom_30 : decode cX3_firstFrom 30 = .ok (.if_icmp .ge 78, 3) := by decide +kernel
theorem dX3_firstFrom_33 : decode cX3_firstFrom 33 = .ok (.iload_n 1, 1) := by decide +kernel
theorem dX3_firstFrom_34 : decode cX3_firstFrom 34 = .ok (.iload_n 2, 1) := by decide +kernel
theorem dX3_firstFrom_35 : decode cX3_firstFrom 35 = .ok (.invokestatic 53, 3) := by decide +kernel
theorem dX3_firstFrom_38 : decode cX3_firstFrom 38 = .ok (.istore_n 3, 1) := by decide +kernel
theorem dX3_firstFrom_39 : decode cX3_firstFrom 39 = .ok (.iload_n 3, 1) := by decide +kernel
theorem dX3_firstFrom_40 : decode cX3_firstFrom 40 = .ok (.invokestatic 45, 3) := by decide +kernel
theorem dX3_firstFrom_43 : decode cX3_firstFrom 43 = .ok (.ifCond .eq 59, 3) := by decide +kernel
theorem dX3_firstFrom_46 : decode cX3_firstFrom 46 = .ok (.aload_n 0, 1) := by decide +kernel
theorem dX3_firstFrom_47 : decode cX3_firstFrom 47 = .ok (.getfield 9, 3) := by decide +kernel
theorem dX3_firstFrom_50 : decode cX3_firstFrom 50 = .ok (.iload_n 3, 1) := by decide +kernel
theorem dX3_firstFrom_51 : decode cX3_firstFrom 51 = .ok (.iaload, 1) := by decide +kernel
theorem dX3_firstFrom_52 : decode cX3_firstFrom 52 = .ok (.iconst (-1), 1) := by decide +kernel
theorem dX3_firstFrom_53 : decode cX3_firstFrom 53 = .ok (.if_icmp .eq 49, 3) := by decide +kernel
theorem dX3_firstFrom_56 : decode cX3_firstFrom 56 = .ok (.aload_n 0, 1) := by decide +kernel
theorem dX3_firstFrom_57 : decode cX3_firstFrom 57 = .ok (.getfield 21, 3) := by decide +kernel
theorem dX3_firstFrom_60 : decode cX3_firstFrom 60 = .ok (.iload_n 3, 1) := by decide +kernel
theorem dX3_firstFrom_61 : decode cX3_firstFrom 61 = .ok (.aload_n 0, 1) := by decide +kernel
theorem dX3_firstFrom_62 : decode cX3_firstFrom 62 = .ok (.getfield 25, 3) := by decide +kernel
theorem dX3_firstFrom_65 : decode cX3_firstFrom 65 = .ok (.invokevirtual 57, 3) := by decide +kernel
theorem dX3_firstFrom_68 : decode cX3_firstFrom 68 = .ok (.ifCond .eq 34, 3) := by decide +kernel
theorem dX3_firstFrom_71 : decode cX3_firstFrom 71 = .ok (.aload_n 0, 1) := by decide +kernel
theorem dX3_firstFrom_72 : decode cX3_firstFrom 72 = .ok (.getfield 9, 3) := by decide +kernel
theorem dX3_firstFrom_75 : decode cX3_firstFrom 75 = .ok (.iload_n 3, 1) := by decide +kernel
theorem dX3_firstFrom_76 : decode cX3_firstFrom 76 = .ok (.iaload, 1) := by decide +kernel
theorem dX3_firstFrom_77 : decode cX3_firstFrom 77 = .ok (.aload_n 0, 1) := by decide +kernel
theorem dX3_firstFrom_78 : decode cX3_firstFrom 78 = .ok (.getfield 21, 3) := by decide +kernel
theorem dX3_firstFrom_81 : decode cX3_firstFrom 81 = .ok (.iload_n 3, 1) := by decide +kernel
theorem dX3_firstFrom_82 : decode cX3_firstFrom 82 = .ok (.invokevirtual 63, 3) := by decide +kernel
theorem dX3_firstFrom_85 : decode cX3_firstFrom 85 = .ok (.iadd, 1) := by decide +kernel
theorem dX3_firstFrom_86 : decode cX3_firstFrom 86 = .ok (.aload_n 0, 1) := by decide +kernel
theorem dX3_firstFrom_87 : decode cX3_firstFrom 87 = .ok (.getfield 29, 3) := by decide +kernel
theorem dX3_firstFrom_90 : decode cX3_firstFrom 90 = .ok (.iadd, 1) := by decide +kernel
theorem dX3_firstFrom_91 : decode cX3_firstFrom 91 = .ok (.aload_n 0, 1) := by decide +kernel
theorem dX3_firstFrom_92 : decode cX3_firstFrom 92 = .ok (.getfield 9, 3) := by decide +kernel
theorem dX3_firstFrom_95 : decode cX3_firstFrom 95 = .ok (.iload_n 1, 1) := by decide +kernel
theorem dX3_firstFrom_96 : decode cX3_firstFrom 96 = .ok (.iaload, 1) := by decide +kernel
theorem dX3_firstFrom_97 : decode cX3_firstFrom 97 = .ok (.if_icmp .ne 5, 3) := by decide +kernel
theorem dX3_firstFrom_100 : decode cX3_firstFrom 100 = .ok (.iload_n 3, 1) := by decide +kernel
theorem dX3_firstFrom_101 : decode cX3_firstFrom 101 = .ok (.ireturn, 1) := by decide +kernel
theorem dX3_firstFrom_102 : decode cX3_firstFrom 102 = .ok (.iinc 2 1, 3) := by decide +kernel
theorem dX3_firstFrom_105 : decode cX3_firstFrom 105 = .ok (.goto (-77), 3) := by decide +kernel
theorem dX3_firstFrom_108 : decode cX3_firstFrom 108 = .ok (.iconst (-1), 1) := by decide +kernel
theorem dX3_firstFrom_109 : decode cX3_firstFrom 109 = .ok (.ireturn, 1) := by decide +kernel
theorem dX3_reach_0 : decode cX3_reach 0 = .ok (.iload_n 1, 1) := by decide +kernel
theorem dX3_reach_1 : decode cX3_reach 1 = .ok (.invokestatic 45, 3) := by decide +kernel
theorem dX3_reach_4 : decode cX3_reach 4 = .ok (.ifCond .eq 20, 3) := by decide +kernel
theorem dX3_reach_7 : decode cX3_reach 7 = .ok (.aload_n 0, 1) := by decide +kernel
theorem dX3_reach_8 : decode cX3_reach 8 = .ok (.getfield 9, 3) := by decide +kernel
theorem dX3_reach_11 : decode cX3_reach 11 = .ok (.iload_n 1, 1) := by decide +kernel
theorem dX3_reach_12 : decode cX3_reach 12 = .ok (.iaload, 1) := by decide +kernel
theorem dX3_reach_13 : decode cX3_reach 13 = .ok (.iconst (-1), 1) := by decide +kernel
theorem dX3_reach_14 : decode cX3_reach 14 = .ok (.if_icmp .ne 10, 3) := by decide +kernel
theorem dX3_reach_17 : decode cX3_reach 17 = .ok (.aload_n 0, 1) := by decide +kernel
theorem dX3_reach_18 : decode cX3_reach 18 = .ok (.getfield 21, 3) := by decide +kernel
theorem dX3_reach_21 : decode cX3_reach 21 = .ok (.ifnonnull 4, 3) := by decide +kernel
theorem dX3_reach_24 : decode cX3_reach 24 = .ok (.return_, 1) := by decide +kernel
theorem dX3_reach_25 : decode cX3_reach 25 = .ok (.aload_n 0, 1) := by decide +kernel
theorem dX3_reach_26 : decode cX3_reach 26 = .ok (.getfield 9, 3) := by decide +kernel
theorem dX3_reach_29 : decode cX3_reach 29 = .ok (.iload_n 1, 1) := by decide +kernel
theorem dX3_reach_30 : decode cX3_reach 30 = .ok (.iload_n 2, 1) := by decide +kernel
theorem dX3_reach_31 : decode cX3_reach 31 = .ok (.iastore, 1) := by decide +kernel
theorem dX3_reach_32 : decode cX3_reach 32 = .ok (.aload_n 0, 1) := by decide +kernel
theorem dX3_reach_33 : decode cX3_reach 33 = .ok (.getfield 21, 3) := by decide +kernel
theorem dX3_reach_36 : decode cX3_reach 36 = .ok (.iload_n 1, 1) := by decide +kernel
theorem dX3_reach_37 : decode cX3_reach 37 = .ok (.aload_n 0, 1) := by decide +kernel
theorem dX3_reach_38 : decode cX3_reach 38 = .ok (.getfield 25, 3) := by decide +kernel
theorem dX3_reach_41 : decode cX3_reach 41 = .ok (.invokevirtual 57, 3) := by decide +kernel
theorem dX3_reach_44 : decode cX3_reach 44 = .ok (.ifCond .eq 51, 3) := by decide +kernel
theorem dX3_reach_47 : decode cX3_reach 47 = .ok (.iload_n 2, 1) := by decide +kernel
theorem dX3_reach_48 : decode cX3_reach 48 = .ok (.aload_n 0, 1) := by decide +kernel
theorem dX3_reach_49 : decode cX3_reach 49 = .ok (.getfield 21, 3) := by decide +kernel
theorem dX3_reach_52 : decode cX3_reach 52 = .ok (.iload_n 1, 1) := by decide +kernel
theorem dX3_reach_53 : decode cX3_reach 53 = .ok (.invokevirtual 63, 3) := by decide +kernel
theorem dX3_reach_56 : decode cX3_reach 56 = .ok (.iadd, 1) := by decide +kernel
theorem dX3_reach_57 : decode cX3_reach 57 = .ok (.aload_n 0, 1) := by decide +kernel
theorem dX3_reach_58 : decode cX3_reach 58 = .ok (.getfield 29, 3) := by decide +kernel
theorem dX3_reach_61 : decode cX3_reach 61 = .ok (.iadd, 1) := by decide +kernel
theorem dX3_reach_62 : decode cX3_reach 62 = .ok (.bipush 63, 2) := by decide +kernel
theorem dX3_reach_64 : decode cX3_reach 64 = .ok (.iand, 1) := by decide +kernel
theorem dX3_reach_65 : decode cX3_reach 65 = .ok (.istore_n 3, 1) := by decide +kernel
theorem dX3_reach_66 : decode cX3_reach 66 = .ok (.aload_n 0, 1) := by decide +kernel
theorem dX3_reach_67 : decode cX3_reach 67 = .ok (.getfield 18, 3) := by decide +kernel
theorem dX3_reach_70 : decode cX3_reach 70 = .ok (.iload_n 1, 1) := by decide +kernel
theorem dX3_reach_71 : decode cX3_reach 71 = .ok (.aload_n 0, 1) := by decide +kernel
theorem dX3_reach_72 : decode cX3_reach 72 = .ok (.getfield 15, 3) := by decide +kernel
theorem dX3_reach_75 : decode cX3_reach 75 = .ok (.iload_n 3, 1) := by decide +kernel
theorem dX3_reach_76 : decode cX3_reach 76 = .ok (.iaload, 1) := by decide +kernel
theorem dX3_reach_77 : decode cX3_reach 77 = .ok (.iastore, 1) := by decide +kernel
theorem dX3_reach_78 : decode cX3_reach 78 = .ok (.aload_n 0, 1) := by decide +kernel
theorem dX3_reach_79 : decode cX3_reach 79 = .ok (.getfield 15, 3) := by decide +kernel
theorem dX3_reach_82 : decode cX3_reach 82 = .ok (.iload_n 3, 1) := by decide +kernel
theorem dX3_reach_83 : decode cX3_reach 83 = .ok (.iload_n 1, 1) := by decide +kernel
theorem dX3_reach_84 : decode cX3_reach 84 = .ok (.iastore, 1) := by decide +kernel
theorem dX3_reach_85 : decode cX3_reach 85 = .ok (.aload_n 0, 1) := by decide +kernel
theorem dX3_reach_86 : decode cX3_reach 86 = .ok (.dup, 1) := by decide +kernel
theorem dX3_reach_87 : decode cX3_reach 87 = .ok (.getfield 32, 3) := by decide +kernel
theorem dX3_reach_90 : decode cX3_reach 90 = .ok (.iconst 1, 1) := by decide +kernel
theorem dX3_reach_91 : decode cX3_reach 91 = .ok (.iadd, 1) := by decide +kernel
theorem dX3_reach_92 : decode cX3_reach 92 = .ok (.putfield 32, 3) := by decide +kernel
theorem dX3_reach_95 : decode cX3_reach 95 = .ok (.return_, 1) := by decide +kernel
theorem dX3_spread_0 : decode cX3_spread 0 = .ok (.iload_n 1, 1) := by decide +kernel
theorem dX3_spread_1 : decode cX3_spread 1 = .ok (.bipush 63, 2) := by decide +kernel
theorem dX3_spread_3 : decode cX3_spread 3 = .ok (.iand, 1) := by decide +kernel
theorem dX3_spread_4 : decode cX3_spread 4 = .ok (.istore_n 2, 1) := by decide +kernel
theorem dX3_spread_5 : decode cX3_spread 5 = .ok (.aload_n 0, 1) := by decide +kernel
theorem dX3_spread_6 : decode cX3_spread 6 = .ok (.getfield 15, 3) := by decide +kernel
theorem dX3_spread_9 : decode cX3_spread 9 = .ok (.iload_n 2, 1) := by decide +kernel
theorem dX3_spread_10 : decode cX3_spread 10 = .ok (.iaload, 1) := by decide +kernel
theorem dX3_spread_11 : decode cX3_spread 11 = .ok (.istore_n 3, 1) := by decide +kernel
theorem dX3_spread_12 : decode cX3_spread 12 = .ok (.aload_n 0, 1) := by decide +kernel
theorem dX3_spread_13 : decode cX3_spread 13 = .ok (.getfield 15, 3) := by decide +kernel
theorem dX3_spread_16 : decode cX3_spread 16 = .ok (.iload_n 2, 1) := by decide +kernel
theorem dX3_spread_17 : decode cX3_spread 17 = .ok (.iconst (-1), 1) := by decide +kernel
theorem dX3_spread_18 : decode cX3_spread 18 = .ok (.iastore, 1) := by decide +kernel
theorem dX3_spread_19 : decode cX3_spread 19 = .ok (.iconst 0, 1) := by decide +kernel
theorem dX3_spread_20 : decode cX3_spread 20 = .ok (.istore 4, 2) := by decide +kernel
theorem dX3_spread_22 : decode cX3_spread 22 = .ok (.iload 4, 2) := by decide +kernel
theorem dX3_spread_24 : decode cX3_spread 24 = .ok (.sipush 160, 3) := by decide +kernel
theorem dX3_spread_27 : decode cX3_spread 27 = .ok (.if_icmp .ge 59, 3) := by decide +kernel
theorem dX3_spread_30 : decode cX3_spread 30 = .ok (.iload_n 3, 1) := by decide +kernel
theorem dX3_spread_31 : decode cX3_spread 31 = .ok (.invokestatic 45, 3) := by decide +kernel
theorem dX3_spread_34 : decode cX3_spread 34 = .ok (.ifCond .eq 52, 3) := by decide +kernel
theorem dX3_spread_37 : decode cX3_spread 37 = .ok (.aload_n 0, 1) := by decide +kernel
theorem dX3_spread_38 : decode cX3_spread 38 = .ok (.dup, 1) := by decide +kernel
theorem dX3_spread_39 : decode cX3_spread 39 = .ok (.getfield 32, 3) := by decide +kernel
theorem dX3_spread_42 : decode cX3_spread 42 = .ok (.iconst 1, 1) := by decide +kernel
theorem dX3_spread_43 : decode cX3_spread 43 = .ok (.isub, 1) := by decide +kernel
theorem dX3_spread_44 : decode cX3_spread 44 = .ok (.putfield 32, 3) := by decide +kernel
theorem dX3_spread_47 : decode cX3_spread 47 = .ok (.iconst 0, 1) := by decide +kernel
theorem dX3_spread_48 : decode cX3_spread 48 = .ok (.istore 5, 2) := by decide +kernel
theorem dX3_spread_50 : decode cX3_spread 50 = .ok (.iload 5, 2) := by decide +kernel
theorem dX3_spread_52 : decode cX3_spread 52 = .ok (.iconst 4, 1) := by decide +kernel
theorem dX3_spread_53 : decode cX3_spread 53 = .ok (.if_icmp .ge 20, 3) := by decide +kernel
theorem dX3_spread_56 : decode cX3_spread 56 = .ok (.aload_n 0, 1) := by decide +kernel
theorem dX3_spread_57 : decode cX3_spread 57 = .ok (.iload_n 3, 1) := by decide +kernel
theorem dX3_spread_58 : decode cX3_spread 58 = .ok (.iload 5, 2) := by decide +kernel
theorem dX3_spread_60 : decode cX3_spread 60 = .ok (.invokestatic 53, 3) := by decide +kernel
theorem dX3_spread_63 : decode cX3_spread 63 = .ok (.iload_n 1, 1) := by decide +kernel
theorem dX3_spread_64 : decode cX3_spread 64 = .ok (.invokevirtual 41, 3) := by decide +kernel
theorem dX3_spread_67 : decode cX3_spread 67 = .ok (.iinc 5 1, 3) := by decide +kernel
theorem dX3_spread_70 : decode cX3_spread 70 = .ok (.goto (-20), 3) := by decide +kernel
theorem dX3_spread_73 : decode cX3_spread 73 = .ok (.aload_n 0, 1) := by decide +kernel
theorem dX3_spread_74 : decode cX3_spread 74 = .ok (.getfield 18, 3) := by decide +kernel
theorem dX3_spread_77 : decode cX3_spread 77 = .ok (.iload_n 3, 1) := by decide +kernel
theorem dX3_spread_78 : decode cX3_spread 78 = .ok (.iaload, 1) := by decide +kernel
theorem dX3_spread_79 : decode cX3_spread 79 = .ok (.istore_n 3, 1) := by decide +kernel
theorem dX3_spread_80 : decode cX3_spread 80 = .ok (.iinc 4 1, 3) := by decide +kernel
theorem dX3_spread_83 : decode cX3_spread 83 = .ok (.goto (-61), 3) := by decide +kernel
theorem dX3_spread_86 : decode cX3_spread 86 = .ok (.return_, 1) := by decide +kernel
theorem dX4_init_0 : decode cX4_init 0 = .ok (.aload_n 0, 1) := by decide +kernel
theorem dX4_init_1 : decode cX4_init 1 = .ok (.invokespecial 3, 3) := by decide +kernel
theorem dX4_init_4 : decode cX4_init 4 = .ok (.aload_n 0, 1) := by decide +kernel
theorem dX4_init_5 : decode cX4_init 5 = .ok (.new 9, 3) := by decide +kernel
theorem dX4_init_8 : decode cX4_init 8 = .ok (.dup, 1) := by decide +kernel
theorem dX4_init_9 : decode cX4_init 9 = .ok (.invokespecial 11, 3) := by decide +kernel
theorem dX4_init_12 : decode cX4_init 12 = .ok (.putfield 12, 3) := by decide +kernel
theorem dX4_init_15 : decode cX4_init 15 = .ok (.aload_n 0, 1) := by decide +kernel
theorem dX4_init_16 : decode cX4_init 16 = .ok (.new 18, 3) := by decide +kernel
theorem dX4_init_19 : decode cX4_init 19 = .ok (.dup, 1) := by decide +kernel
theorem dX4_init_20 : decode cX4_init 20 = .ok (.invokespecial 20, 3) := by decide +kernel
theorem dX4_init_23 : decode cX4_init 23 = .ok (.putfield 21, 3) := by decide +kernel
theorem dX4_init_26 : decode cX4_init 26 = .ok (.aload_n 0, 1) := by decide +kernel
theorem dX4_init_27 : decode cX4_init 27 = .ok (.bipush 8, 2) := by decide +kernel
theorem dX4_init_29 : decode cX4_init 29 = .ok (.newarray .int, 2) := by decide +kernel
theorem dX4_init_31 : decode cX4_init 31 = .ok (.putfield 25, 3) := by decide +kernel
theorem dX4_init_34 : decode cX4_init 34 = .ok (.aload_n 0, 1) := by decide +kernel
theorem dX4_init_35 : decode cX4_init 35 = .ok (.iconst 5, 1) := by decide +kernel
theorem dX4_init_36 : decode cX4_init 36 = .ok (.anewarray 29, 3) := by decide +kernel
theorem dX4_init_39 : decode cX4_init 39 = .ok (.putfield 31, 3) := by decide +kernel
theorem dX4_init_42 : decode cX4_init 42 = .ok (.aload_n 0, 1) := by decide +kernel
theorem dX4_init_43 : decode cX4_init 43 = .ok (.bipush 40, 2) := by decide +kernel
theorem dX4_init_45 : decode cX4_init 45 = .ok (.anewarray 35, 3) := by decide +kernel
theorem dX4_init_48 : decode cX4_init 48 = .ok (.putfield 37, 3) := by decide +kernel
theorem dX4_init_51 : decode cX4_init 51 = .ok (.iconst 0, 1) := by decide +kernel
theorem dX4_init_52 : decode cX4_init 52 = .ok (.istore_n 1, 1) := by decide +kernel
theorem dX4_init_53 : decode cX4_init 53 = .ok (.iload_n 1, 1) := by decide +kernel
theorem dX4_init_54 : decode cX4_init 54 = .ok (.iconst 5, 1) := by decide +kernel
theorem dX4_init_55 : decode cX4_init 55 = .ok (.if_icmp .ge 22, 3) := by decide +kernel
theorem dX4_init_58 : decode cX4_init 58 = .ok (.aload_n 0, 1) := by decide +kernel
theorem dX4_init_59 : decode cX4_init 59 = .ok (.getfield 31, 3) := by decide +kernel
theorem dX4_init_62 : decode cX4_init 62 = .ok (.iload_n 1, 1) := by decide +kernel
theorem dX4_init_63 : decode cX4_init 63 = .ok (.new 29, 3) := by decide +kernel
theorem dX4_init_66 : decode cX4_init 66 = .ok (.dup, 1) := by decide +kernel
theorem dX4_init_67 : decode cX4_init 67 = .ok (.invokespecial 41, 3) := by decide +kernel
theorem dX4_init_70 : decode cX4_init 70 = .ok (.aastore, 1) := by decide +kernel
theorem dX4_init_71 : decode cX4_init 71 = .ok (.iinc 1 1, 3) := by decide +kernel
theorem dX4_init_74 : decode cX4_init 74 = .ok (.goto (-21), 3) := by decide +kernel
theorem dX4_init_77 : decode cX4_init 77 = .ok (.iconst 0, 1) := by decide +kernel
theorem dX4_init_78 : decode cX4_init 78 = .ok (.istore_n 1, 1) := by decide +kernel
theorem dX4_init_79 : decode cX4_init 79 = .ok (.iload_n 1, 1) := by decide +kernel
theorem dX4_init_80 : decode cX4_init 80 = .ok (.bipush 40, 2) := by decide +kernel
theorem dX4_init_82 : decode cX4_init 82 = .ok (.if_icmp .ge 22, 3) := by decide +kernel
theorem dX4_init_85 : decode cX4_init 85 = .ok (.aload_n 0, 1) := by decide +kernel
theorem dX4_init_86 : decode cX4_init 86 = .ok (.getfield 37, 3) := by decide +kernel
theorem dX4_init_89 : decode cX4_init 89 = .ok (.iload_n 1, 1) := by decide +kernel
theorem dX4_init_90 : decode cX4_init 90 = .ok (.new 35, 3) := by decide +kernel
theorem dX4_init_93 : decode cX4_init 93 = .ok (.dup, 1) := by decide +kernel
theorem dX4_init_94 : decode cX4_init 94 = .ok (.invokespecial 42, 3) := by decide +kernel
theorem dX4_init_97 : decode cX4_init 97 = .ok (.aastore, 1) := by decide +kernel
theorem dX4_init_98 : decode cX4_init 98 = .ok (.iinc 1 1, 3) := by decide +kernel
theorem dX4_init_101 : decode cX4_init 101 = .ok (.goto (-22), 3) := by decide +kernel
theorem dX4_init_104 : decode cX4_init 104 = .ok (.return_, 1) := by decide +kernel
theorem dX4_copyWithoutBags_0 : decode cX4_copyWithoutBags 0 = .ok (.aload_n 0, 1) := by decide +kernel
theorem dX4_copyWithoutBags_1 : decode cX4_copyWithoutBags 1 = .ok (.getfield 21, 3) := by decide +kernel
theorem dX4_copyWithoutBags_4 : decode cX4_copyWithoutBags 4 = .ok (.aload_n 1, 1) := by decide +kernel
theorem dX4_copyWithoutBags_5 : decode cX4_copyWithoutBags 5 = .ok (.getfield 21, 3) := by decide +kernel
theorem dX4_copyWithoutBags_8 : decode cX4_copyWithoutBags 8 = .ok (.invokevirtual 43, 3) := by decide +kernel
theorem dX4_copyWithoutBags_11 : decode cX4_copyWithoutBags 11 = .ok (.aload_n 1, 1) := by decide +kernel
theorem dX4_copyWithoutBags_12 : decode cX4_copyWithoutBags 12 = .ok (.getfield 25, 3) := by decide +kernel
theorem dX4_copyWithoutBags_15 : decode cX4_copyWithoutBags 15 = .ok (.iconst 0, 1) := by decide +kernel
theorem dX4_copyWithoutBags_16 : decode cX4_copyWithoutBags 16 = .ok (.aload_n 0, 1) := by decide +kernel
theorem dX4_copyWithoutBags_17 : decode cX4_copyWithoutBags 17 = .ok (.getfield 25, 3) := by decide +kernel
theorem dX4_copyWithoutBags_20 : decode cX4_copyWithoutBags 20 = .ok (.iconst 0, 1) := by decide +kernel
theorem dX4_copyWithoutBags_21 : decode cX4_copyWithoutBags 21 = .ok (.bipush 8, 2) := by decide +kernel
theorem dX4_copyWithoutBags_23 : decode cX4_copyWithoutBags 23 = .ok (.invokestatic 47, 3) := by decide +kernel
theorem dX4_copyWithoutBags_26 : decode cX4_copyWithoutBags 26 = .ok (.aload_n 0, 1) := by decide +kernel
theorem dX4_copyWithoutBags_27 : decode cX4_copyWithoutBags 27 = .ok (.aload_n 1, 1) := by decide +kernel
theorem dX4_copyWithoutBags_28 : decode cX4_copyWithoutBags 28 = .ok (.getfield 53, 3) := by decide +kernel
theorem dX4_copyWithoutBags_31 : decode cX4_copyWithoutBags 31 = .ok (.putfield 53, 3) := by decide +kernel
theorem dX4_copyWithoutBags_34 : decode cX4_copyWithoutBags 34 = .ok (.aload_n 0, 1) := by decide +kernel
theorem dX4_copyWithoutBags_35 : decode cX4_copyWithoutBags 35 = .ok (.aload_n 1, 1) := by decide +kernel
theorem dX4_copyWithoutBags_36 : decode cX4_copyWithoutBags 36 = .ok (.getfield 57, 3) := by decide +kernel
theorem dX4_copyWithoutBags_39 : decode cX4_copyWithoutBags 39 = .ok (.putfield 57, 3) := by decide +kernel
theorem dX4_copyWithoutBags_42 : decode cX4_copyWithoutBags 42 = .ok (.aload_n 0, 1) := by decide +kernel
theorem dX4_copyWithoutBags_43 : decode cX4_copyWithoutBags 43 = .ok (.aload_n 1, 1) := by decide +kernel
theorem dX4_copyWithoutBags_44 : decode cX4_copyWithoutBags 44 = .ok (.getfield 60, 3) := by decide +kernel
theorem dX4_copyWithoutBags_47 : decode cX4_copyWithoutBags 47 = .ok (.putfield 60, 3) := by decide +kernel
theorem dX4_copyWithoutBags_50 : decode cX4_copyWithoutBags 50 = .ok (.iconst 0, 1) := by decide +kernel
theorem dX4_copyWithoutBags_51 : decode cX4_copyWithoutBags 51 = .ok (.istore_n 2, 1) := by decide +kernel
theorem dX4_copyWithoutBags_52 : decode cX4_copyWithoutBags 52 = .ok (.iload_n 2, 1) := by decide +kernel
theorem dX4_copyWithoutBags_53 : decode cX4_copyWithoutBags 53 = .ok (.iconst 5, 1) := by decide +kernel
theorem dX4_copyWithoutBags_54 : decode cX4_copyWithoutBags 54 = .ok (.if_icmp .ge 37, 3) := by decide +kernel
theorem dX4_copyWithoutBags_57 : decode cX4_copyWithoutBags 57 = .ok (.aload_n 0, 1) := by decide +kernel
theorem dX4_copyWithoutBags_58 : decode cX4_copyWithoutBags 58 = .ok (.iload_n 2, 1) := by decide +kernel
theorem dX4_copyWithoutBags_59 : decode cX4_copyWithoutBags 59 = .ok (.invokevirtual 63, 3) := by decide +kernel
theorem dX4_copyWithoutBags_62 : decode cX4_copyWithoutBags 62 = .ok (.astore_n 3, 1) := by decide +kernel
theorem dX4_copyWithoutBags_63 : decode cX4_copyWithoutBags 63 = .ok (.aload_n 1, 1) := by decide +kernel
theorem dX4_copyWithoutBags_64 : decode cX4_copyWithoutBags 64 = .ok (.iload_n 2, 1) := by decide +kernel
theorem dX4_copyWithoutBags_65 : decode cX4_copyWithoutBags 65 = .ok (.invokevirtual 63, 3) := by decide +kernel
theorem dX4_copyWithoutBags_68 : decode cX4_copyWithoutBags 68 = .ok (.astore 4, 2) := by decide +kernel
theorem dX4_copyWithoutBags_70 : decode cX4_copyWithoutBags 70 = .ok (.aload_n 3, 1) := by decide +kernel
theorem dX4_copyWithoutBags_71 : decode cX4_copyWithoutBags 71 = .ok (.ifnull 14, 3) := by decide +kernel
theorem dX4_copyWithoutBags_74 : decode cX4_copyWithoutBags 74 = .ok (.aload 4, 2) := by decide +kernel
theorem dX4_copyWithoutBags_76 : decode cX4_copyWithoutBags 76 = .ok (.ifnull 9, 3) := by decide +kernel
theorem dX4_copyWithoutBags_79 : decode cX4_copyWithoutBags 79 = .ok (.aload_n 3, 1) := by decide +kernel
theorem dX4_copyWithoutBags_80 : decode cX4_copyWithoutBags 80 = .ok (.aload 4, 2) := by decide +kernel
theorem dX4_copyWithoutBags_82 : decode cX4_copyWithoutBags 82 = .ok (.invokevirtual 67, 3) := by decide +kernel
theorem dX4_copyWithoutBags_85 : decode cX4_copyWithoutBags 85 = .ok (.iinc 2 1, 3) := by decide +kernel
theorem dX4_copyWithoutBags_88 : decode cX4_copyWithoutBags 88 = .ok (.goto (-36), 3) := by decide +kernel
theorem dX4_copyWithoutBags_91 : decode cX4_copyWithoutBags 91 = .ok (.return_, 1) := by decide +kernel
theorem dX4_isPost_0 : decode cX4_isPost 0 = .ok (.iload_n 1, 1) := by decide +kernel
theorem dX4_isPost_1 : decode cX4_isPost 1 = .ok (.ifCond .lt 21, 3) := by decide +kernel
theorem dX4_isPost_4 : decode cX4_isPost 4 = .ok (.iload_n 1, 1) := by decide +kernel
theorem dX4_isPost_5 : decode cX4_isPost 5 = .ok (.aload_n 0, 1) := by decide +kernel
theorem dX4_isPost_6 : decode cX4_isPost 6 = .ok (.getfield 53, 3) := by decide +kernel
theorem dX4_isPost_9 : decode cX4_isPost 9 = .ok (.if_icmp .ge 13, 3) := by decide +kernel
theorem dX4_isPost_12 : decode cX4_isPost 12 = .ok (.iload_n 1, 1) := by decide +kernel
theorem dX4_isPost_13 : decode cX4_isPost 13 = .ok (.bipush 8, 2) := by decide +kernel
theorem dX4_isPost_15 : decode cX4_isPost 15 = .ok (.if_icmp .ge 7, 3) := by decide +kernel
theorem dX4_isPost_18 : decode cX4_isPost 18 = .ok (.iconst 1, 1) := by decide +kernel
theorem dX4_isPost_19 : decode cX4_isPost 19 = .ok (.goto 4, 3) := by decide +kernel
theorem dX4_isPost_22 : decode cX4_isPost 22 = .ok (.iconst 0, 1) := by decide +kernel
theorem dX4_isPost_23 : decode cX4_isPost 23 = .ok (.ireturn, 1) := by decide +kernel
theorem dX4_cellOfPost_0 : decode cX4_cellOfPost 0 = .ok (.aload_n 0, 1) := by decide +kernel
theorem dX4_cellOfPost_1 : decode cX4_cellOfPost 1 = .ok (.iload_n 1, 1) := by decide +kernel
theorem dX4_cellOfPost_2 : decode cX4_cellOfPost 2 = .ok (.invokevirtual 71, 3) := by decide +kernel
theorem dX4_cellOfPost_5 : decode cX4_cellOfPost 5 = .ok (.ifCond .eq 12, 3) := by decide +kernel
theorem dX4_cellOfPost_8 : decode cX4_cellOfPost 8 = .ok (.aload_n 0, 1) := by decide +kernel
theorem dX4_cellOfPost_9 : decode cX4_cellOfPost 9 = .ok (.getfield 25, 3) := by decide +kernel
theorem dX4_cellOfPost_12 : decode cX4_cellOfPost 12 = .ok (.iload_n 1, 1) := by decide +kernel
theorem dX4_cellOfPost_13 : decode cX4_cellOfPost 13 = .ok (.iaload, 1) := by decide +kernel
theorem dX4_cellOfPost_14 : decode cX4_cellOfPost 14 = .ok (.goto 4, 3) := by decide +kernel
theorem dX4_cellOfPost_17 : decode cX4_cellOfPost 17 = .ok (.iconst (-1), 1) := by decide +kernel
theorem dX4_cellOfPost_18 : decode cX4_cellOfPost 18 = .ok (.ireturn, 1) := by decide +kernel
theorem dX4_postOn_0 : decode cX4_postOn 0 = .ok (.iconst 0, 1) := by decide +kernel
theorem dX4_postOn_1 : decode cX4_postOn 1 = .ok (.istore_n 2, 1) := by decide +kernel
theorem dX4_postOn_2 : decode cX4_postOn 2 = .ok (.iload_n 2, 1) := by decide +kernel
theorem dX4_postOn_3 : decode cX4_postOn 3 = .ok (.bipush 8, 2) := by decide +kernel
theorem dX4_postOn_5 : decode cX4_postOn 5 = .ok (.if_icmp .ge 29, 3) := by decide +kernel
theorem dX4_postOn_8 : decode cX4_postOn 8 = .ok (.iload_n 2, 1) := by decide +kernel
theorem dX4_postOn_9 : decode cX4_postOn 9 = .ok (.aload_n 0, 1) := by decide +kernel
theorem dX4_postOn_10 : decode cX4_postOn 10 = .ok (.getfield 53, 3) := by decide +kernel
theorem dX4_postOn_13 : decode cX4_postOn 13 = .ok (.if_icmp .ge 15, 3) := by decide +kernel
theorem dX4_postOn_16 : decode cX4_postOn 16 = .ok (.aload_n 0, 1) := by decide +kernel
theorem dX4_postOn_17 : decode cX4_postOn 17 = .ok (.getfield 25, 3) := by decide +kernel
theorem dX4_postOn_20 : decode cX4_postOn 20 = .ok (.iload_n 2, 1) := by decide +kernel
theorem dX4_postOn_21 : decode cX4_postOn 21 = .ok (.iaload, 1) := by decide +kernel
theorem dX4_postOn_22 : decode cX4_postOn 22 = .ok (.iload_n 1, 1) := by decide +kernel
theorem dX4_postOn_23 : decode cX4_postOn 23 = .ok (.if_icmp .ne 5, 3) := by decide +kernel
theorem dX4_postOn_26 : decode cX4_postOn 26 = .ok (.iload_n 2, 1) := by decide +kernel
theorem dX4_postOn_27 : decode cX4_postOn 27 = .ok (.ireturn, 1) := by decide +kernel
theorem dX4_postOn_28 : decode cX4_postOn 28 = .ok (.iinc 2 1, 3) := by decide +kernel
theorem dX4_postOn_31 : decode cX4_postOn 31 = .ok (.goto (-29), 3) := by decide +kernel
theorem dX4_postOn_34 : decode cX4_postOn 34 = .ok (.iconst (-1), 1) := by decide +kernel
theorem dX4_postOn_35 : decode cX4_postOn 35 = .ok (.ireturn, 1) := by decide +kernel
theorem dX4_sleighAt_0 : decode cX4_sleighAt 0 = .ok (.iload_n 1, 1) := by decide +kernel
theorem dX4_sleighAt_1 : decode cX4_sleighAt 1 = .ok (.ifCond .lt 25, 3) := by decide +kernel
theorem dX4_sleighAt_4 : decode cX4_sleighAt 4 = .ok (.iload_n 1, 1) := by decide +kernel
theorem dX4_sleighAt_5 : decode cX4_sleighAt 5 = .ok (.aload_n 0, 1) := by decide +kernel
theorem dX4_sleighAt_6 : decode cX4_sleighAt 6 = .ok (.getfield 57, 3) := by decide +kernel
theorem dX4_sleighAt_9 : decode cX4_sleighAt 9 = .ok (.if_icmp .ge 17, 3) := by decide +kernel
theorem dX4_sleighAt_12 : decode cX4_sleighAt 12 = .ok (.iload_n 1, 1) := by decide +kernel
theorem dX4_sleighAt_13 : decode cX4_sleighAt 13 = .ok (.iconst 5, 1) := by decide +kernel
theorem dX4_sleighAt_14 : decode cX4_sleighAt 14 = .ok (.if_icmp .ge 12, 3) := by decide +kernel
theorem dX4_sleighAt_17 : decode cX4_sleighAt 17 = .ok (.aload_n 0, 1) := by decide +kernel
theorem dX4_sleighAt_18 : decode cX4_sleighAt 18 = .ok (.getfield 31, 3) := by decide +kernel
theorem dX4_sleighAt_21 : decode cX4_sleighAt 21 = .ok (.iload_n 1, 1) := by decide +kernel
theorem dX4_sleighAt_22 : decode cX4_sleighAt 22 = .ok (.aaload, 1) := by decide +kernel
theorem dX4_sleighAt_23 : decode cX4_sleighAt 23 = .ok (.goto 4, 3) := by decide +kernel
theorem dX4_sleighAt_26 : decode cX4_sleighAt 26 = .ok (.aconst_null, 1) := by decide +kernel
theorem dX4_sleighAt_27 : decode cX4_sleighAt 27 = .ok (.areturn, 1) := by decide +kernel
theorem dX4_bagAt_0 : decode cX4_bagAt 0 = .ok (.iload_n 1, 1) := by decide +kernel
theorem dX4_bagAt_1 : decode cX4_bagAt 1 = .ok (.ifCond .lt 26, 3) := by decide +kernel
theorem dX4_bagAt_4 : decode cX4_bagAt 4 = .ok (.iload_n 1, 1) := by decide +kernel
theorem dX4_bagAt_5 : decode cX4_bagAt 5 = .ok (.aload_n 0, 1) := by decide +kernel
theorem dX4_bagAt_6 : decode cX4_bagAt 6 = .ok (.getfield 75, 3) := by decide +kernel
theorem dX4_bagAt_9 : decode cX4_bagAt 9 = .ok (.if_icmp .ge 18, 3) := by decide +kernel
theorem dX4_bagAt_12 : decode cX4_bagAt 12 = .ok (.iload_n 1, 1) := by decide +kernel
theorem dX4_bagAt_13 : decode cX4_bagAt 13 = .ok (.bipush 40, 2) := by decide +kernel
theorem dX4_bagAt_15 : decode cX4_bagAt 15 = .ok (.if_icmp .ge 12, 3) := by decide +kernel
theorem dX4_bagAt_18 : decode cX4_bagAt 18 = .ok (.aload_n 0, 1) := by decide +kernel
theorem dX4_bagAt_19 : decode cX4_bagAt 19 = .ok (.getfield 37, 3) := by decide +kernel
theorem dX4_bagAt_22 : decode cX4_bagAt 22 = .ok (.iload_n 1, 1) := by decide +kernel
theorem dX4_bagAt_23 : decode cX4_bagAt 23 = .ok (.aaload, 1) := by decide +kernel
theorem dX4_bagAt_24 : decode cX4_bagAt 24 = .ok (.goto 4, 3) := by decide +kernel
theorem dX4_bagAt_27 : decode cX4_bagAt 27 = .ok (.aconst_null, 1) := by decide +kernel
theorem dX4_bagAt_28 : decode cX4_bagAt 28 = .ok (.areturn, 1) := by decide +kernel
theorem dX4_buildPost_0 : decode cX4_buildPost 0 = .ok (.aload_n 0, 1) := by decide +kernel
theorem dX4_buildPost_1 : decode cX4_buildPost 1 = .ok (.getfield 53, 3) := by decide +kernel
theorem dX4_buildPost_4 : decode cX4_buildPost 4 = .ok (.ifCond .lt 12, 3) := by decide +kernel
theorem dX4_buildPost_7 : decode cX4_buildPost 7 = .ok (.aload_n 0, 1) := by decide +kernel
theorem dX4_buildPost_8 : decode cX4_buildPost 8 = .ok (.getfield 53, 3) := by decide +kernel
theorem dX4_buildPost_11 : decode cX4_buildPost 11 = .ok (.bipush 8, 2) := by decide +kernel
theorem dX4_buildPost_13 : decode cX4_buildPost 13 = .ok (.if_icmp .lt 5, 3) := by decide +kernel
theorem dX4_buildPost_16 : decode cX4_buildPost 16 = .ok (.iconst (-1), 1) := by decide +kernel
theorem dX4_buildPost_17 : decode cX4_buildPost 17 = .ok (.ireturn, 1) := by decide +kernel
theorem dX4_buildPost_18 : decode cX4_buildPost 18 = .ok (.aload_n 0, 1) := by decide +kernel
theorem dX4_buildPost_19 : decode cX4_buildPost 19 = .ok (.getfield 25, 3) := by decide +kernel
theorem dX4_buildPost_22 : decode cX4_buildPost 22 = .ok (.aload_n 0, 1) := by decide +kernel
theorem dX4_buildPost_23 : decode cX4_buildPost 23 = .ok (.getfield 53, 3) := by decide +kernel
theorem dX4_buildPost_26 : decode cX4_buildPost 26 = .ok (.iload_n 1, 1) := by decide +kernel
theorem dX4_buildPost_27 : decode cX4_buildPost 27 = .ok (.iastore, 1) := by decide +kernel
theorem dX4_buildPost_28 : decode cX4_buildPost 28 = .ok (.aload_n 0, 1) := by decide +kernel
theorem dX4_buildPost_29 : decode cX4_buildPost 29 = .ok (.getfield 21, 3) := by decide +kernel
theorem dX4_buildPost_32 : decode cX4_buildPost 32 = .ok (.iload_n 1, 1) := by decide +kernel
theorem dX4_buildPost_33 : decode cX4_buildPost 33 = .ok (.iconst (-1), 1) := by decide +kernel
theorem dX4_buildPost_34 : decode cX4_buildPost 34 = .ok (.invokevirtual 78, 3) := by decide +kernel
theorem dX4_buildPost_37 : decode cX4_buildPost 37 = .ok (.aload_n 0, 1) := by decide +kernel
theorem dX4_buildPost_38 : decode cX4_buildPost 38 = .ok (.dup, 1) := by decide +kernel
theorem dX4_buildPost_39 : decode cX4_buildPost 39 = .ok (.getfield 53, 3) := by decide +kernel
theorem dX4_buildPost_42 : decode cX4_buildPost 42 = .ok (.iconst 1, 1) := by decide +kernel
theorem dX4_buildPost_43 : decode cX4_buildPost 43 = .ok (.iadd, 1) := by decide +kernel
theorem dX4_buildPost_44 : decode cX4_buildPost 44 = .ok (.putfield 53, 3) := by decide +kernel
theorem dX4_buildPost_47 : decode cX4_buildPost 47 = .ok (.aload_n 0, 1) := by decide +kernel
theorem dX4_buildPost_48 : decode cX4_buildPost 48 = .ok (.getfield 53, 3) := by decide +kernel
theorem dX4_buildPost_51 : decode cX4_buildPost 51 = .ok (.iconst 1, 1) := by decide +kernel
theorem dX4_buildPost_52 : decode cX4_buildPost 52 = .ok (.isub, 1) := by decide +kernel
theorem dX4_buildPost_53 : decode cX4_buildPost 53 = .ok (.ireturn, 1) := by decide +kernel
theorem dX4_harness_0 : decode cX4_harness 0 = .ok (.aload_n 0, 1) := by decide +kernel
theorem dX4_harness_1 : decode cX4_harness 1 = .ok (.getfield 57, 3) := by decide +kernel
theorem dX4_harness_4 : decode cX4_harness 4 = .ok (.ifCond .lt 23, 3) := by decide +kernel
theorem dX4_harness_7 : decode cX4_harness 7 = .ok (.aload_n 0, 1) := by decide +kernel
theorem dX4_harness_8 : decode cX4_harness 8 = .ok (.getfield 57, 3) := by decide +kernel
theorem dX4_harness_11 : decode cX4_harness 11 = .ok (.iconst 5, 1) := by decide +kernel
theorem dX4_harness_12 : decode cX4_harness 12 = .ok (.if_icmp .ge 15, 3) := by decide +kernel
theorem dX4_harness_15 : decode cX4_harness 15 = .ok (.aload_n 0, 1) := by decide +kernel
theorem dX4_harness_16 : decode cX4_harness 16 = .ok (.getfield 31, 3) := by decide +kernel
theorem dX4_harness_19 : decode cX4_harness 19 = .ok (.aload_n 0, 1) := by decide +kernel
theorem dX4_harness_20 : decode cX4_harness 20 = .ok (.getfield 57, 3) := by decide +kernel
theorem dX4_harness_23 : decode cX4_harness 23 = .ok (.aaload, 1) := by decide +kernel
theorem dX4_harness_24 : decode cX4_harness 24 = .ok (.goto 4, 3) := by decide +kernel
theorem dX4_harness_27 : decode cX4_harness 27 = .ok (.aconst_null, 1) := by decide +kernel
theorem dX4_harness_28 : decode cX4_harness 28 = .ok (.astore_n 3, 1) := by decide +kernel
theorem dX4_harness_29 : decode cX4_harness 29 = .ok (.aload_n 3, 1) := by decide +kernel
theorem dX4_harness_30 : decode cX4_harness 30 = .ok (.ifnonnull 5, 3) := by decide +kernel
theorem dX4_harness_33 : decode cX4_harness 33 = .ok (.iconst (-1), 1) := by decide +kernel
theorem dX4_harness_34 : decode cX4_harness 34 = .ok (.ireturn, 1) := by decide +kernel
theorem dX4_harness_35 : decode cX4_harness 35 = .ok (.aload_n 3, 1) := by decide +kernel
theorem dX4_harness_36 : decode cX4_harness 36 = .ok (.iload_n 1, 1) := by decide +kernel
theorem dX4_harness_37 : decode cX4_harness 37 = .ok (.aload_n 0, 1) := by decide +kernel
theorem dX4_harness_38 : decode cX4_harness 38 = .ok (.iload_n 1, 1) := by decide +kernel
theorem dX4_harness_39 : decode cX4_harness 39 = .ok (.invokevirtual 82, 3) := by decide +kernel
theorem dX4_harness_42 : decode cX4_harness 42 = .ok (.iload_n 2, 1) := by decide +kernel
theorem dX4_harness_43 : decode cX4_harness 43 = .ok (.invokevirtual 86, 3) := by decide +kernel
theorem dX4_harness_46 : decode cX4_harness 46 = .ok (.aload_n 0, 1) := by decide +kernel
theorem dX4_harness_47 : decode cX4_harness 47 = .ok (.dup, 1) := by decide +kernel
theorem dX4_harness_48 : decode cX4_harness 48 = .ok (.getfield 57, 3) := by decide +kernel
theorem dX4_harness_51 : decode cX4_harness 51 = .ok (.iconst 1, 1) := by decide +kernel
theorem dX4_harness_52 : decode cX4_harness 52 = .ok (.iadd, 1) := by decide +kernel
theorem dX4_harness_53 : decode cX4_harness 53 = .ok (.putfield 57, 3) := by decide +kernel
theorem dX4_harness_56 : decode cX4_harness 56 = .ok (.aload_n 0, 1) := by decide +kernel
theorem dX4_harness_57 : decode cX4_harness 57 = .ok (.getfield 57, 3) := by decide +kernel
theorem dX4_harness_60 : decode cX4_harness 60 = .ok (.iconst 1, 1) := by decide +kernel
theorem dX4_harness_61 : decode cX4_harness 61 = .ok (.isub, 1) := by decide +kernel
theorem dX4_harness_62 : decode cX4_harness 62 = .ok (.ireturn, 1) := by decide +kernel
theorem dX4_postMail_0 : decode cX4_postMail 0 = .ok (.aload_n 0, 1) := by decide +kernel
theorem dX4_postMail_1 : decode cX4_postMail 1 = .ok (.getfield 75, 3) := by decide +kernel
theorem dX4_postMail_4 : decode cX4_postMail 4 = .ok (.ifCond .lt 24, 3) := by decide +kernel
theorem dX4_postMail_7 : decode cX4_postMail 7 = .ok (.aload_n 0, 1) := by decide +kernel
theorem dX4_postMail_8 : decode cX4_postMail 8 = .ok (.getfield 75, 3) := by decide +kernel
theorem dX4_postMail_11 : decode cX4_postMail 11 = .ok (.bipush 40, 2) := by decide +kernel
theorem dX4_postMail_13 : decode cX4_postMail 13 = .ok (.if_icmp .ge 15, 3) := by decide +kernel
theorem dX4_postMail_16 : decode cX4_postMail 16 = .ok (.aload_n 0, 1) := by decide +kernel
theorem dX4_postMail_17 : decode cX4_postMail 17 = .ok (.getfield 37, 3) := by decide +kernel
theorem dX4_postMail_20 : decode cX4_postMail 20 = .ok (.aload_n 0, 1) := by decide +kernel
theorem dX4_postMail_21 : decode cX4_postMail 21 = .ok (.getfield 75, 3) := by decide +kernel
theorem dX4_postMail_24 : decode cX4_postMail 24 = .ok (.aaload, 1) := by decide +kernel
theorem dX4_postMail_25 : decode cX4_postMail 25 = .ok (.goto 4, 3) := by decide +kernel
theorem dX4_postMail_28 : decode cX4_postMail 28 = .ok (.aconst_null, 1) := by decide +kernel
theorem dX4_postMail_29 : decode cX4_postMail 29 = .ok (.astore 4, 2) := by decide +kernel
theorem dX4_postMail_31 : decode cX4_postMail 31 = .ok (.aload 4, 2) := by decide +kernel
theorem dX4_postMail_33 : decode cX4_postMail 33 = .ok (.ifnonnull 5, 3) := by decide +kernel
theorem dX4_postMail_36 : decode cX4_postMail 36 = .ok (.iconst (-1), 1) := by decide +kernel
theorem dX4_postMail_37 : decode cX4_postMail 37 = .ok (.ireturn, 1) := by decide +kernel
theorem dX4_postMail_38 : decode cX4_postMail 38 = .ok (.aload 4, 2) := by decide +kernel
theorem dX4_postMail_40 : decode cX4_postMail 40 = .ok (.iload_n 1, 1) := by decide +kernel
theorem dX4_postMail_41 : decode cX4_postMail 41 = .ok (.iload_n 2, 1) := by decide +kernel
theorem dX4_postMail_42 : decode cX4_postMail 42 = .ok (.iload_n 3, 1) := by decide +kernel
theorem dX4_postMail_43 : decode cX4_postMail 43 = .ok (.invokevirtual 90, 3) := by decide +kernel
theorem dX4_postMail_46 : decode cX4_postMail 46 = .ok (.aload_n 0, 1) := by decide +kernel
theorem dX4_postMail_47 : decode cX4_postMail 47 = .ok (.dup, 1) := by decide +kernel
theorem dX4_postMail_48 : decode cX4_postMail 48 = .ok (.getfield 75, 3) := by decide +kernel
theorem dX4_postMail_51 : decode cX4_postMail 51 = .ok (.iconst 1, 1) := by decide +kernel
theorem dX4_postMail_52 : decode cX4_postMail 52 = .ok (.iadd, 1) := by decide +kernel
theorem dX4_postMail_53 : decode cX4_postMail 53 = .ok (.putfield 75, 3) := by decide +kernel
theorem dX4_postMail_56 : decode cX4_postMail 56 = .ok (.aload_n 0, 1) := by decide +kernel
theorem dX4_postMail_57 : decode cX4_postMail 57 = .ok (.getfield 75, 3) := by decide +kernel
theorem dX4_postMail_60 : decode cX4_postMail 60 = .ok (.iconst 1, 1) := by decide +kernel
theorem dX4_postMail_61 : decode cX4_postMail 61 = .ok (.isub, 1) := by decide +kernel
theorem dX4_postMail_62 : decode cX4_postMail 62 = .ok (.ireturn, 1) := by decide +kernel
theorem dX4_isTaken_0 : decode cX4_isTaken 0 = .ok (.iload_n 2, 1) := by decide +kernel
theorem dX4_isTaken_1 : decode cX4_isTaken 1 = .ok (.istore 5, 2) := by decide +kernel
theorem dX4_isTaken_3 : decode cX4_isTaken 3 = .ok (.iload 5, 2) := by decide +kernel
theorem dX4_isTaken_5 : decode cX4_isTaken 5 = .ok (.iload_n 2, 1) := by decide +kernel
theorem dX4_isTaken_6 : decode cX4_isTaken 6 = .ok (.iload 4, 2) := by decide +kernel
theorem dX4_isTaken_8 : decode cX4_isTaken 8 = .ok (.iadd, 1) := by decide +kernel
theorem dX4_isTaken_9 : decode cX4_isTaken 9 = .ok (.if_icmp .ge 56, 3) := by decide +kernel
theorem dX4_isTaken_12 : decode cX4_isTaken 12 = .ok (.iload_n 1, 1) := by decide +kernel
theorem dX4_isTaken_13 : decode cX4_isTaken 13 = .ok (.istore 6, 2) := by decide +kernel
theorem dX4_isTaken_15 : decode cX4_isTaken 15 = .ok (.iload 6, 2) := by decide +kernel
theorem dX4_isTaken_17 : decode cX4_isTaken 17 = .ok (.iload_n 1, 1) := by decide +kernel
theorem dX4_isTaken_18 : decode cX4_isTaken 18 = .ok (.iload_n 3, 1) := by decide +kernel
theorem dX4_isTaken_19 : decode cX4_isTaken 19 = .ok (.iadd, 1) := by decide +kernel
theorem dX4_isTaken_20 : decode cX4_isTaken 20 = .ok (.if_icmp .ge 39, 3) := by decide +kernel
theorem dX4_isTaken_23 : decode cX4_isTaken 23 = .ok (.iload 6, 2) := by decide +kernel
theorem dX4_isTaken_25 : decode cX4_isTaken 25 = .ok (.iload 5, 2) := by decide +kernel
theorem dX4_isTaken_27 : decode cX4_isTaken 27 = .ok (.invokestatic 91, 3) := by decide +kernel
theorem dX4_isTaken_30 : decode cX4_isTaken 30 = .ok (.istore 7, 2) := by decide +kernel
theorem dX4_isTaken_32 : decode cX4_isTaken 32 = .ok (.aload_n 0, 1) := by decide +kernel
theorem dX4_isTaken_33 : decode cX4_isTaken 33 = .ok (.iload 7, 2) := by decide +kernel
theorem dX4_isTaken_35 : decode cX4_isTaken 35 = .ok (.invokevirtual 95, 3) := by decide +kernel
theorem dX4_isTaken_38 : decode cX4_isTaken 38 = .ok (.iconst (-1), 1) := by decide +kernel
theorem dX4_isTaken_39 : decode cX4_isTaken 39 = .ok (.if_icmp .ne 12, 3) := by decide +kernel
theorem dX4_isTaken_42 : decode cX4_isTaken 42 = .ok (.aload_n 0, 1) := by decide +kernel
theorem dX4_isTaken_43 : decode cX4_isTaken 43 = .ok (.iload 7, 2) := by decide +kernel
theorem dX4_isTaken_45 : decode cX4_isTaken 45 = .ok (.invokevirtual 98, 3) := by decide +kernel
theorem dX4_isTaken_48 : decode cX4_isTaken 48 = .ok (.ifCond .le 5, 3) := by decide +kernel
theorem dX4_isTaken_51 : decode cX4_isTaken 51 = .ok (.iconst 1, 1) := by decide +kernel
theorem dX4_isTaken_52 : decode cX4_isTaken 52 = .ok (.ireturn, 1) := by decide +kernel
theorem dX4_isTaken_53 : decode cX4_isTaken 53 = .ok (.iinc 6 1, 3) := by decide +kernel
theorem dX4_isTaken_56 : decode cX4_isTaken 56 = .ok (.goto (-41), 3) := by decide +kernel
theorem dX4_isTaken_59 : decode cX4_isTaken 59 = .ok (.iinc 5 1, 3) := by decide +kernel
theorem dX4_isTaken_62 : decode cX4_isTaken 62 = .ok (.goto (-59), 3) := by decide +kernel
theorem dX4_isTaken_65 : decode cX4_isTaken 65 = .ok (.iconst 0, 1) := by decide +kernel
theorem dX4_isTaken_66 : decode cX4_isTaken 66 = .ok (.ireturn, 1) := by decide +kernel
theorem dX4_sleighsOn_0 : decode cX4_sleighsOn 0 = .ok (.iconst 0, 1) := by decide +kernel
theorem dX4_sleighsOn_1 : decode cX4_sleighsOn 1 = .ok (.istore_n 2, 1) := by decide +kernel
theorem dX4_sleighsOn_2 : decode cX4_sleighsOn 2 = .ok (.iconst 0, 1) := by decide +kernel
theorem dX4_sleighsOn_3 : decode cX4_sleighsOn 3 = .ok (.istore_n 3, 1) := by decide +kernel
theorem dX4_sleighsOn_4 : decode cX4_sleighsOn 4 = .ok (.iload_n 3, 1) := by decide +kernel
theorem dX4_sleighsOn_5 : decode cX4_sleighsOn 5 = .ok (.iconst 5, 1) := by decide +kernel
theorem dX4_sleighsOn_6 : decode cX4_sleighsOn 6 = .ok (.if_icmp .ge 42, 3) := by decide +kernel
theorem dX4_sleighsOn_9 : decode cX4_sleighsOn 9 = .ok (.aload_n 0, 1) := by decide +kernel
theorem dX4_sleighsOn_10 : decode cX4_sleighsOn 10 = .ok (.iload_n 3, 1) := by decide +kernel
theorem dX4_sleighsOn_11 : decode cX4_sleighsOn 11 = .ok (.invokevirtual 63, 3) := by decide +kernel
theorem dX4_sleighsOn_14 : decode cX4_sleighsOn 14 = .ok (.astore 4, 2) := by decide +kernel
theorem dX4_sleighsOn_16 : decode cX4_sleighsOn 16 = .ok (.aload 4, 2) := by decide +kernel
theorem dX4_sleighsOn_18 : decode cX4_sleighsOn 18 = .ok (.ifnull 24, 3) := by decide +kernel
theorem dX4_sleighsOn_21 : decode cX4_sleighsOn 21 = .ok (.aload 4, 2) := by decide +kernel
theorem dX4_sleighsOn_23 : decode cX4_sleighsOn 23 = .ok (.getfield 101, 3) := by decide +kernel
theorem dX4_sleighsOn_26 : decode cX4_sleighsOn 26 = .ok (.iconst 2, 1) := by decide +kernel
theorem dX4_sleighsOn_27 : decode cX4_sleighsOn 27 = .ok (.if_icmp .eq 15, 3) := by decide +kernel
theorem dX4_sleighsOn_30 : decode cX4_sleighsOn 30 = .ok (.aload 4, 2) := by decide +kernel
theorem dX4_sleighsOn_32 : decode cX4_sleighsOn 32 = .ok (.getfield 104, 3) := by decide +kernel
theorem dX4_sleighsOn_35 : decode cX4_sleighsOn 35 = .ok (.iload_n 1, 1) := by decide +kernel
theorem dX4_sleighsOn_36 : decode cX4_sleighsOn 36 = .ok (.if_icmp .ne 6, 3) := by decide +kernel
theorem dX4_sleighsOn_39 : decode cX4_sleighsOn 39 = .ok (.iinc 2 1, 3) := by decide +kernel
theorem dX4_sleighsOn_42 : decode cX4_sleighsOn 42 = .ok (.iinc 3 1, 3) := by decide +kernel
theorem dX4_sleighsOn_45 : decode cX4_sleighsOn 45 = .ok (.goto (-41), 3) := by decide +kernel
theorem dX4_sleighsOn_48 : decode cX4_sleighsOn 48 = .ok (.iload_n 2, 1) := by decide +kernel
theorem dX4_sleighsOn_49 : decode cX4_sleighsOn 49 = .ok (.ireturn, 1) := by decide +kernel
theorem dX4_bagsOn_0 : decode cX4_bagsOn 0 = .ok (.iconst 0, 1) := by decide +kernel
theorem dX4_bagsOn_1 : decode cX4_bagsOn 1 = .ok (.istore_n 2, 1) := by decide +kernel
theorem dX4_bagsOn_2 : decode cX4_bagsOn 2 = .ok (.iconst 0, 1) := by decide +kernel
theorem dX4_bagsOn_3 : decode cX4_bagsOn 3 = .ok (.istore_n 3, 1) := by decide +kernel
theorem dX4_bagsOn_4 : decode cX4_bagsOn 4 = .ok (.iload_n 3, 1) := by decide +kernel
theorem dX4_bagsOn_5 : decode cX4_bagsOn 5 = .ok (.bipush 40, 2) := by decide +kernel
theorem dX4_bagsOn_7 : decode cX4_bagsOn 7 = .ok (.if_icmp .ge 33, 3) := by decide +kernel
theorem dX4_bagsOn_10 : decode cX4_bagsOn 10 = .ok (.aload_n 0, 1) := by decide +kernel
theorem dX4_bagsOn_11 : decode cX4_bagsOn 11 = .ok (.iload_n 3, 1) := by decide +kernel
theorem dX4_bagsOn_12 : decode cX4_bagsOn 12 = .ok (.invokevirtual 107, 3) := by decide +kernel
theorem dX4_bagsOn_15 : decode cX4_bagsOn 15 = .ok (.astore 4, 2) := by decide +kernel
theorem dX4_bagsOn_17 : decode cX4_bagsOn 17 = .ok (.aload 4, 2) := by decide +kernel
theorem dX4_bagsOn_19 : decode cX4_bagsOn 19 = .ok (.ifnull 15, 3) := by decide +kernel
theorem dX4_bagsOn_22 : decode cX4_bagsOn 22 = .ok (.aload 4, 2) := by decide +kernel
theorem dX4_bagsOn_24 : decode cX4_bagsOn 24 = .ok (.iload_n 1, 1) := by decide +kernel
theorem dX4_bagsOn_25 : decode cX4_bagsOn 25 = .ok (.invokevirtual 111, 3) := by decide +kernel
theorem dX4_bagsOn_28 : decode cX4_bagsOn 28 = .ok (.ifCond .eq 6, 3) := by decide +kernel
theorem dX4_bagsOn_31 : decode cX4_bagsOn 31 = .ok (.iinc 2 1, 3) := by decide +kernel
theorem dX4_bagsOn_34 : decode cX4_bagsOn 34 = .ok (.iinc 3 1, 3) := by decide +kernel
theorem dX4_bagsOn_37 : decode cX4_bagsOn 37 = .ok (.goto (-33), 3) := by decide +kernel
theorem dX4_bagsOn_40 : decode cX4_bagsOn 40 = .ok (.iload_n 2, 1) := by decide +kernel
theorem dX4_bagsOn_41 : decode cX4_bagsOn 41 = .ok (.ireturn, 1) := by decide +kernel
theorem dX4_hoursToGoal_0 : decode cX4_hoursToGoal 0 = .ok (.aload_n 0, 1) := by decide +kernel
theorem dX4_hoursToGoal_1 : decode cX4_hoursToGoal 1 = .ok (.getfield 12, 3) := by decide +kernel
theorem dX4_hoursToGoal_4 : decode cX4_hoursToGoal 4 = .ok (.aload_n 0, 1) := by decide +kernel
theorem dX4_hoursToGoal_5 : decode cX4_hoursToGoal 5 = .ok (.getfield 21, 3) := by decide +kernel
theorem dX4_hoursToGoal_8 : decode cX4_hoursToGoal 8 = .ok (.aload_n 1, 1) := by decide +kernel
theorem dX4_hoursToGoal_9 : decode cX4_hoursToGoal 9 = .ok (.getfield 104, 3) := by decide +kernel
theorem dX4_hoursToGoal_12 : decode cX4_hoursToGoal 12 = .ok (.aload_n 0, 1) := by decide +kernel
theorem dX4_hoursToGoal_13 : decode cX4_hoursToGoal 13 = .ok (.aload_n 1, 1) := by decide +kernel
theorem dX4_hoursToGoal_14 : decode cX4_hoursToGoal 14 = .ok (.getfield 114, 3) := by decide +kernel
theorem dX4_hoursToGoal_17 : decode cX4_hoursToGoal 17 = .ok (.invokevirtual 82, 3) := by decide +kernel
theorem dX4_hoursToGoal_20 : decode cX4_hoursToGoal 20 = .ok (.aload_n 1, 1) := by decide +kernel
theorem dX4_hoursToGoal_21 : decode cX4_hoursToGoal 21 = .ok (.invokevirtual 117, 3) := by decide +kernel
theorem dX4_hoursToGoal_24 : decode cX4_hoursToGoal 24 = .ok (.aload_n 1, 1) := by decide +kernel
theorem dX4_hoursToGoal_25 : decode cX4_hoursToGoal 25 = .ok (.invokevirtual 121, 3) := by decide +kernel
theorem dX4_hoursToGoal_28 : decode cX4_hoursToGoal 28 = .ok (.invokevirtual 124, 3) := by decide +kernel
theorem dX4_hoursToGoal_31 : decode cX4_hoursToGoal 31 = .ok (.ireturn, 1) := by decide +kernel
theorem dX4_goOneHour_0 : decode cX4_goOneHour 0 = .ok (.aload_n 0, 1) := by decide +kernel
theorem dX4_goOneHour_1 : decode cX4_goOneHour 1 = .ok (.getfield 60, 3) := by decide +kernel
theorem dX4_goOneHour_4 : decode cX4_goOneHour 4 = .ok (.bipush 24, 2) := by decide +kernel
theorem dX4_goOneHour_6 : decode cX4_goOneHour 6 = .ok (.irem, 1) := by decide +kernel
theorem dX4_goOneHour_7 : decode cX4_goOneHour 7 = .ok (.ifCond .ne 17, 3) := by decide +kernel
theorem dX4_goOneHour_10 : decode cX4_goOneHour 10 = .ok (.aload_n 0, 1) := by decide +kernel
theorem dX4_goOneHour_11 : decode cX4_goOneHour 11 = .ok (.getfield 21, 3) := by decide +kernel
theorem dX4_goOneHour_14 : decode cX4_goOneHour 14 = .ok (.aload_n 0, 1) := by decide +kernel
theorem dX4_goOneHour_15 : decode cX4_goOneHour 15 = .ok (.getfield 60, 3) := by decide +kernel
theorem dX4_goOneHour_18 : decode cX4_goOneHour 18 = .ok (.bipush 24, 2) := by decide +kernel
theorem dX4_goOneHour_20 : decode cX4_goOneHour 20 = .ok (.idiv, 1) := by decide +kernel
theorem dX4_goOneHour_21 : decode cX4_goOneHour 21 = .ok (.invokevirtual 128, 3) := by decide +kernel
theorem dX4_goOneHour_24 : decode cX4_goOneHour 24 = .ok (.aload_n 0, 1) := by decide +kernel
theorem dX4_goOneHour_25 : decode cX4_goOneHour 25 = .ok (.invokevirtual 132, 3) := by decide +kernel
theorem dX4_goOneHour_28 : decode cX4_goOneHour 28 = .ok (.aload_n 0, 1) := by decide +kernel
theorem dX4_goOneHour_29 : decode cX4_goOneHour 29 = .ok (.invokevirtual 135, 3) := by decide +kernel
theorem dX4_goOneHour_32 : decode cX4_goOneHour 32 = .ok (.istore_n 1, 1) := by decide +kernel
theorem dX4_goOneHour_33 : decode cX4_goOneHour 33 = .ok (.aload_n 0, 1) := by decide +kernel
theorem dX4_goOneHour_34 : decode cX4_goOneHour 34 = .ok (.invokevirtual 138, 3) := by decide +kernel
theorem dX4_goOneHour_37 : decode cX4_goOneHour 37 = .ok (.aload_n 0, 1) := by decide +kernel
theorem dX4_goOneHour_38 : decode cX4_goOneHour 38 = .ok (.invokevirtual 141, 3) := by decide +kernel
theorem dX4_goOneHour_41 : decode cX4_goOneHour 41 = .ok (.aload_n 0, 1) := by decide +kernel
theorem dX4_goOneHour_42 : decode cX4_goOneHour 42 = .ok (.dup, 1) := by decide +kernel
theorem dX4_goOneHour_43 : decode cX4_goOneHour 43 = .ok (.getfield 60, 3) := by decide +kernel
theorem dX4_goOneHour_46 : decode cX4_goOneHour 46 = .ok (.iconst 1, 1) := by decide +kernel
theorem dX4_goOneHour_47 : decode cX4_goOneHour 47 = .ok (.iadd, 1) := by decide +kernel
theorem dX4_goOneHour_48 : decode cX4_goOneHour 48 = .ok (.putfield 60, 3) := by decide +kernel
theorem dX4_goOneHour_51 : decode cX4_goOneHour 51 = .ok (.iload_n 1, 1) := by decide +kernel
theorem dX4_goOneHour_52 : decode cX4_goOneHour 52 = .ok (.ireturn, 1) := by decide +kernel
theorem dX4_sinkSleighs_0 : decode cX4_sinkSleighs 0 = .ok (.iconst 0, 1) := by decide +kernel
theorem dX4_sinkSleighs_1 : decode cX4_sinkSleighs 1 = .ok (.istore_n 1, 1) := by decide +kernel
theorem dX4_sinkSleighs_2 : decode cX4_sinkSleighs 2 = .ok (.iload_n 1, 1) := by decide +kernel
theorem dX4_sinkSleighs_3 : decode cX4_sinkSleighs 3 = .ok (.iconst 5, 1) := by decide +kernel
theorem dX4_sinkSleighs_4 : decode cX4_sinkSleighs 4 = .ok (.if_icmp .ge 54, 3) := by decide +kernel
theorem dX4_sinkSleighs_7 : decode cX4_sinkSleighs 7 = .ok (.aload_n 0, 1) := by decide +kernel
theorem dX4_sinkSleighs_8 : decode cX4_sinkSleighs 8 = .ok (.iload_n 1, 1) := by decide +kernel
theorem dX4_sinkSleighs_9 : decode cX4_sinkSleighs 9 = .ok (.invokevirtual 63, 3) := by decide +kernel
theorem dX4_sinkSleighs_12 : decode cX4_sinkSleighs 12 = .ok (.astore_n 2, 1) := by decide +kernel
theorem dX4_sinkSleighs_13 : decode cX4_sinkSleighs 13 = .ok (.aload_n 2, 1) := by decide +kernel
theorem dX4_sinkSleighs_14 : decode cX4_sinkSleighs 14 = .ok (.ifnull 38, 3) := by decide +kernel
theorem dX4_sinkSleighs_17 : decode cX4_sinkSleighs 17 = .ok (.aload_n 2, 1) := by decide +kernel
theorem dX4_sinkSleighs_18 : decode cX4_sinkSleighs 18 = .ok (.getfield 101, 3) := by decide +kernel
theorem dX4_sinkSleighs_21 : decode cX4_sinkSleighs 21 = .ok (.iconst 2, 1) := by decide +kernel
theorem dX4_sinkSleighs_22 : decode cX4_sinkSleighs 22 = .ok (.if_icmp .eq 30, 3) := by decide +kernel
theorem dX4_sinkSleighs_25 : decode cX4_sinkSleighs 25 = .ok (.aload_n 0, 1) := by decide +kernel
theorem dX4_sinkSleighs_26 : decode cX4_sinkSleighs 26 = .ok (.getfield 21, 3) := by decide +kernel
theorem dX4_sinkSleighs_29 : decode cX4_sinkSleighs 29 = .ok (.aload_n 2, 1) := by decide +kernel
theorem dX4_sinkSleighs_30 : decode cX4_sinkSleighs 30 = .ok (.getfield 104, 3) := by decide +kernel
theorem dX4_sinkSleighs_33 : decode cX4_sinkSleighs 33 = .ok (.aload_n 2, 1) := by decide +kernel
theorem dX4_sinkSleighs_34 : decode cX4_sinkSleighs 34 = .ok (.invokevirtual 117, 3) := by decide +kernel
theorem dX4_sinkSleighs_37 : decode cX4_sinkSleighs 37 = .ok (.invokevirtual 144, 3) := by decide +kernel
theorem dX4_sinkSleighs_40 : decode cX4_sinkSleighs 40 = .ok (.ifCond .ne 12, 3) := by decide +kernel
theorem dX4_sinkSleighs_43 : decode cX4_sinkSleighs 43 = .ok (.aload_n 2, 1) := by decide +kernel
theorem dX4_sinkSleighs_44 : decode cX4_sinkSleighs 44 = .ok (.invokevirtual 148, 3) := by decide +kernel
theorem dX4_sinkSleighs_47 : decode cX4_sinkSleighs 47 = .ok (.aload_n 0, 1) := by decide +kernel
theorem dX4_sinkSleighs_48 : decode cX4_sinkSleighs 48 = .ok (.iload_n 1, 1) := by decide +kernel
theorem dX4_sinkSleighs_49 : decode cX4_sinkSleighs 49 = .ok (.invokevirtual 151, 3) := by decide +kernel
theorem dX4_sinkSleighs_52 : decode cX4_sinkSleighs 52 = .ok (.iinc 1 1, 3) := by decide +kernel
theorem dX4_sinkSleighs_55 : decode cX4_sinkSleighs 55 = .ok (.goto (-53), 3) := by decide +kernel
theorem dX4_sinkSleighs_58 : decode cX4_sinkSleighs 58 = .ok (.return_, 1) := by decide +kernel
theorem dX4_loseMailOf_0 : decode cX4_loseMailOf 0 = .ok (.iconst 0, 1) := by decide +kernel
theorem dX4_loseMailOf_1 : decode cX4_loseMailOf 1 = .ok (.istore_n 2, 1) := by decide +kernel
theorem dX4_loseMailOf_2 : decode cX4_loseMailOf 2 = .ok (.iload_n 2, 1) := by decide +kernel
theorem dX4_loseMailOf_3 : decode cX4_loseMailOf 3 = .ok (.bipush 40, 2) := by decide +kernel
theorem dX4_loseMailOf_5 : decode cX4_loseMailOf 5 = .ok (.if_icmp .ge 31, 3) := by decide +kernel
theorem dX4_loseMailOf_8 : decode cX4_loseMailOf 8 = .ok (.aload_n 0, 1) := by decide +kernel
theorem dX4_loseMailOf_9 : decode cX4_loseMailOf 9 = .ok (.iload_n 2, 1) := by decide +kernel
theorem dX4_loseMailOf_10 : decode cX4_loseMailOf 10 = .ok (.invokevirtual 107, 3) := by decide +kernel
theorem dX4_loseMailOf_13 : decode cX4_loseMailOf 13 = .ok (.astore_n 3, 1) := by decide +kernel
theorem dX4_loseMailOf_14 : decode cX4_loseMailOf 14 = .ok (.aload_n 3, 1) := by decide +kernel
theorem dX4_loseMailOf_15 : decode cX4_loseMailOf 15 = .ok (.ifnull 15, 3) := by decide +kernel
theorem dX4_loseMailOf_18 : decode cX4_loseMailOf 18 = .ok (.aload_n 3, 1) := by decide +kernel
theorem dX4_loseMailOf_19 : decode cX4_loseMailOf 19 = .ok (.iload_n 1, 1) := by decide +kernel
theorem dX4_loseMailOf_20 : decode cX4_loseMailOf 20 = .ok (.invokevirtual 111, 3) := by decide +kernel
theorem dX4_loseMailOf_23 : decode cX4_loseMailOf 23 = .ok (.ifCond .eq 7, 3) := by decide +kernel
theorem dX4_loseMailOf_26 : decode cX4_loseMailOf 26 = .ok (.aload_n 3, 1) := by decide +kernel
theorem dX4_loseMailOf_27 : decode cX4_loseMailOf 27 = .ok (.invokevirtual 154, 3) := by decide +kernel
theorem dX4_loseMailOf_30 : decode cX4_loseMailOf 30 = .ok (.iinc 2 1, 3) := by decide +kernel
theorem dX4_loseMailOf_33 : decode cX4_loseMailOf 33 = .ok (.goto (-31), 3) := by decide +kernel
theorem dX4_loseMailOf_36 : decode cX4_loseMailOf 36 = .ok (.return_, 1) := by decide +kernel
theorem dX4_moveSleighs_0 : decode cX4_moveSleighs 0 = .ok (.iconst 0, 1) := by decide +kernel
theorem dX4_moveSleighs_1 : decode cX4_moveSleighs 1 = .ok (.istore_n 1, 1) := by decide +kernel
theorem dX4_moveSleighs_2 : decode cX4_moveSleighs 2 = .ok (.iconst 0, 1) := by decide +kernel
theorem dX4_moveSleighs_3 : decode cX4_moveSleighs 3 = .ok (.istore_n 2, 1) := by decide +kernel
theorem dX4_moveSleighs_4 : decode cX4_moveSleighs 4 = .ok (.iload_n 2, 1) := by decide +kernel
theorem dX4_moveSleighs_5 : decode cX4_moveSleighs 5 = .ok (.iconst 5, 1) := by decide +kernel
theorem dX4_moveSleighs_6 : decode cX4_moveSleighs 6 = .ok (.if_icmp .ge 64, 3) := by decide +kernel
theorem dX4_moveSleighs_9 : decode cX4_moveSleighs 9 = .ok (.aload_n 0, 1) := by decide +kernel
theorem dX4_moveSleighs_10 : decode cX4_moveSleighs 10 = .ok (.iload_n 2, 1) := by decide +kernel
theorem dX4_moveSleighs_11 : decode cX4_moveSleighs 11 = .ok (.invokevirtual 63, 3) := by decide +kernel
theorem dX4_moveSleighs_14 : decode cX4_moveSleighs 14 = .ok (.astore_n 3, 1) := by decide +kernel
theorem dX4_moveSleighs_15 : decode cX4_moveSleighs 15 = .ok (.aload_n 3, 1) := by decide +kernel
theorem dX4_moveSleighs_16 : decode cX4_moveSleighs 16 = .ok (.ifnull 48, 3) := by decide +kernel
theorem dX4_moveSleighs_19 : decode cX4_moveSleighs 19 = .ok (.aload_n 3, 1) := by decide +kernel
theorem dX4_moveSleighs_20 : decode cX4_moveSleighs 20 = .ok (.invokevirtual 157, 3) := by decide +kernel
theorem dX4_moveSleighs_23 : decode cX4_moveSleighs 23 = .ok (.ifCond .eq 41, 3) := by decide +kernel
theorem dX4_moveSleighs_26 : decode cX4_moveSleighs 26 = .ok (.aload_n 3, 1) := by decide +kernel
theorem dX4_moveSleighs_27 : decode cX4_moveSleighs 27 = .ok (.invokevirtual 161, 3) := by decide +kernel
theorem dX4_moveSleighs_30 : decode cX4_moveSleighs 30 = .ok (.ifCond .eq 34, 3) := by decide +kernel
theorem dX4_moveSleighs_33 : decode cX4_moveSleighs 33 = .ok (.aload_n 3, 1) := by decide +kernel
theorem dX4_moveSleighs_34 : decode cX4_moveSleighs 34 = .ok (.getfield 104, 3) := by decide +kernel
theorem dX4_moveSleighs_37 : decode cX4_moveSleighs 37 = .ok (.aload_n 0, 1) := by decide +kernel
theorem dX4_moveSleighs_38 : decode cX4_moveSleighs 38 = .ok (.aload_n 3, 1) := by decide +kernel
theorem dX4_moveSleighs_39 : decode cX4_moveSleighs 39 = .ok (.getfield 114, 3) := by decide +kernel
theorem dX4_moveSleighs_42 : decode cX4_moveSleighs 42 = .ok (.invokevirtual 82, 3) := by decide +kernel
theorem dX4_moveSleighs_45 : decode cX4_moveSleighs 45 = .ok (.if_icmp .ne 19, 3) := by decide +kernel
theorem dX4_moveSleighs_48 : decode cX4_moveSleighs 48 = .ok (.aload_n 3, 1) := by decide +kernel
theorem dX4_moveSleighs_49 : decode cX4_moveSleighs 49 = .ok (.invokevirtual 164, 3) := by decide +kernel
theorem dX4_moveSleighs_52 : decode cX4_moveSleighs 52 = .ok (.iload_n 1, 1) := by decide +kernel
theorem dX4_moveSleighs_53 : decode cX4_moveSleighs 53 = .ok (.aload_n 0, 1) := by decide +kernel
theorem dX4_moveSleighs_54 : decode cX4_moveSleighs 54 = .ok (.iload_n 2, 1) := by decide +kernel
theorem dX4_moveSleighs_55 : decode cX4_moveSleighs 55 = .ok (.aload_n 3, 1) := by decide +kernel
theorem dX4_moveSleighs_56 : decode cX4_moveSleighs 56 = .ok (.getfield 114, 3) := by decide +kernel
theorem dX4_moveSleighs_59 : decode cX4_moveSleighs 59 = .ok (.invokevirtual 167, 3) := by decide +kernel
theorem dX4_moveSleighs_62 : decode cX4_moveSleighs 62 = .ok (.iadd, 1) := by decide +kernel
theorem dX4_moveSleighs_63 : decode cX4_moveSleighs 63 = .ok (.istore_n 1, 1) := by decide +kernel
theorem dX4_moveSleighs_64 : decode cX4_moveSleighs 64 = .ok (.iinc 2 1, 3) := by decide +kernel
theorem dX4_moveSleighs_67 : decode cX4_moveSleighs 67 = .ok (.goto (-63), 3) := by decide +kernel
theorem dX4_moveSleighs_70 : decode cX4_moveSleighs 70 = .ok (.iload_n 1, 1) := by decide +kernel
theorem dX4_moveSleighs_71 : decode cX4_moveSleighs 71 = .ok (.ireturn, 1) := by decide +kernel
theorem dX4_unload_0 : decode cX4_unload 0 = .ok (.iconst 0, 1) := by decide +kernel
theorem dX4_unload_1 : decode cX4_unload 1 = .ok (.istore_n 3, 1) := by decide +kernel
theorem dX4_unload_2 : decode cX4_unload 2 = .ok (.iconst 0, 1) := by decide +kernel
theorem dX4_unload_3 : decode cX4_unload 3 = .ok (.istore 4, 2) := by decide +kernel
theorem dX4_unload_5 : decode cX4_unload 5 = .ok (.iload 4, 2) := by decide +kernel
theorem dX4_unload_7 : decode cX4_unload 7 = .ok (.bipush 40, 2) := by decide +kernel
theorem dX4_unload_9 : decode cX4_unload 9 = .ok (.if_icmp .ge 47, 3) := by decide +kernel
theorem dX4_unload_12 : decode cX4_unload 12 = .ok (.aload_n 0, 1) := by decide +kernel
theorem dX4_unload_13 : decode cX4_unload 13 = .ok (.iload 4, 2) := by decide +kernel
theorem dX4_unload_15 : decode cX4_unload 15 = .ok (.invokevirtual 107, 3) := by decide +kernel
theorem dX4_unload_18 : decode cX4_unload 18 = .ok (.astore 5, 2) := by decide +kernel
theorem dX4_unload_20 : decode cX4_unload 20 = .ok (.aload 5, 2) := by decide +kernel
theorem dX4_unload_22 : decode cX4_unload 22 = .ok (.ifnull 28, 3) := by decide +kernel
theorem dX4_unload_25 : decode cX4_unload 25 = .ok (.aload 5, 2) := by decide +kernel
theorem dX4_unload_27 : decode cX4_unload 27 = .ok (.iload_n 1, 1) := by decide +kernel
theorem dX4_unload_28 : decode cX4_unload 28 = .ok (.invokevirtual 111, 3) := by decide +kernel
theorem dX4_unload_31 : decode cX4_unload 31 = .ok (.ifCond .eq 19, 3) := by decide +kernel
theorem dX4_unload_34 : decode cX4_unload 34 = .ok (.aload 5, 2) := by decide +kernel
theorem dX4_unload_36 : decode cX4_unload 36 = .ok (.iload_n 2, 1) := by decide +kernel
theorem dX4_unload_37 : decode cX4_unload 37 = .ok (.aload_n 0, 1) := by decide +kernel
theorem dX4_unload_38 : decode cX4_unload 38 = .ok (.getfield 60, 3) := by decide +kernel
theorem dX4_unload_41 : decode cX4_unload 41 = .ok (.invokevirtual 170, 3) := by decide +kernel
theorem dX4_unload_44 : decode cX4_unload 44 = .ok (.ifCond .eq 6, 3) := by decide +kernel
theorem dX4_unload_47 : decode cX4_unload 47 = .ok (.iinc 3 1, 3) := by decide +kernel
theorem dX4_unload_50 : decode cX4_unload 50 = .ok (.iinc 4 1, 3) := by decide +kernel
theorem dX4_unload_53 : decode cX4_unload 53 = .ok (.goto (-48), 3) := by decide +kernel
theorem dX4_unload_56 : decode cX4_unload 56 = .ok (.iload_n 3, 1) := by decide +kernel
theorem dX4_unload_57 : decode cX4_unload 57 = .ok (.ireturn, 1) := by decide +kernel
theorem dX4_setOutSleighs_0 : decode cX4_setOutSleighs 0 = .ok (.iconst 0, 1) := by decide +kernel
theorem dX4_setOutSleighs_1 : decode cX4_setOutSleighs 1 = .ok (.istore_n 1, 1) := by decide +kernel
theorem dX4_setOutSleighs_2 : decode cX4_setOutSleighs 2 = .ok (.iload_n 1, 1) := by decide +kernel
theorem dX4_setOutSleighs_3 : decode cX4_setOutSleighs 3 = .ok (.iconst 5, 1) := by decide +kernel
theorem dX4_setOutSleighs_4 : decode cX4_setOutSleighs 4 = .ok (.if_icmp .ge 149, 3) := by decide +kernel
theorem dX4_setOutSleighs_7 : decode cX4_setOutSleighs 7 = .ok (.aload_n 0, 1) := by decide +kernel
theorem dX4_setOutSleighs_8 : decode cX4_setOutSleighs 8 = .ok (.iload_n 1, 1) := by decide +kernel
theorem dX4_setOutSleighs_9 : decode cX4_setOutSleighs 9 = .ok (.invokevirtual 63, 3) := by decide +kernel
theorem dX4_setOutSleighs_12 : decode cX4_setOutSleighs 12 = .ok (.astore_n 2, 1) := by decide +kernel
theorem dX4_setOutSleighs_13 : decode cX4_setOutSleighs 13 = .ok (.aload_n 2, 1) := by decide +kernel
theorem dX4_setOutSleighs_14 : decode cX4_setOutSleighs 14 = .ok (.ifnull 133, 3) := by decide +kernel
theorem dX4_setOutSleighs_17 : decode cX4_setOutSleighs 17 = .ok (.aload_n 2, 1) := by decide +kernel
theorem dX4_setOutSleighs_18 : decode cX4_setOutSleighs 18 = .ok (.getfield 101, 3) := by decide +kernel
theorem dX4_setOutSleighs_21 : decode cX4_setOutSleighs 21 = .ok (.iconst 1, 1) := by decide +kernel
theorem dX4_setOutSleighs_22 : decode cX4_setOutSleighs 22 = .ok (.if_icmp .ne 125, 3) := by decide +kernel
theorem dX4_setOutSleighs_25 : decode cX4_setOutSleighs 25 = .ok (.aload_n 2, 1) := by decide +kernel
theorem dX4_setOutSleighs_26 : decode cX4_setOutSleighs 26 = .ok (.invokevirtual 157, 3) := by decide +kernel
theorem dX4_setOutSleighs_29 : decode cX4_setOutSleighs 29 = .ok (.ifCond .ne 118, 3) := by decide +kernel
theorem dX4_setOutSleighs_32 : decode cX4_setOutSleighs 32 = .ok (.aload_n 2, 1) := by decide +kernel
theorem dX4_setOutSleighs_33 : decode cX4_setOutSleighs 33 = .ok (.getfield 173, 3) := by decide +kernel
theorem dX4_setOutSleighs_36 : decode cX4_setOutSleighs 36 = .ok (.aload_n 0, 1) := by decide +kernel
theorem dX4_setOutSleighs_37 : decode cX4_setOutSleighs 37 = .ok (.getfield 21, 3) := by decide +kernel
theorem dX4_setOutSleighs_40 : decode cX4_setOutSleighs 40 = .ok (.getfield 176, 3) := by decide +kernel
theorem dX4_setOutSleighs_43 : decode cX4_setOutSleighs 43 = .ok (.if_icmp .eq 104, 3) := by decide +kernel
theorem dX4_setOutSleighs_46 : decode cX4_setOutSleighs 46 = .ok (.aload_n 2, 1) := by decide +kernel
theorem dX4_setOutSleighs_47 : decode cX4_setOutSleighs 47 = .ok (.invokevirtual 117, 3) := by decide +kernel
theorem dX4_setOutSleighs_50 : decode cX4_setOutSleighs 50 = .ok (.istore_n 3, 1) := by decide +kernel
theorem dX4_setOutSleighs_51 : decode cX4_setOutSleighs 51 = .ok (.aload_n 2, 1) := by decide +kernel
theorem dX4_setOutSleighs_52 : decode cX4_setOutSleighs 52 = .ok (.invokevirtual 121, 3) := by decide +kernel
theorem dX4_setOutSleighs_55 : decode cX4_setOutSleighs 55 = .ok (.istore 4, 2) := by decide +kernel
theorem dX4_setOutSleighs_57 : decode cX4_setOutSleighs 57 = .ok (.aload_n 0, 1) := by decide +kernel
theorem dX4_setOutSleighs_58 : decode cX4_setOutSleighs 58 = .ok (.getfield 12, 3) := by decide +kernel
theorem dX4_setOutSleighs_61 : decode cX4_setOutSleighs 61 = .ok (.aload_n 0, 1) := by decide +kernel
theorem dX4_setOutSleighs_62 : decode cX4_setOutSleighs 62 = .ok (.getfield 21, 3) := by decide +kernel
theorem dX4_setOutSleighs_65 : decode cX4_setOutSleighs 65 = .ok (.aload_n 2, 1) := by decide +kernel
theorem dX4_setOutSleighs_66 : decode cX4_setOutSleighs 66 = .ok (.getfield 104, 3) := by decide +kernel
theorem dX4_setOutSleighs_69 : decode cX4_setOutSleighs 69 = .ok (.aload_n 0, 1) := by decide +kernel
theorem dX4_setOutSleighs_70 : decode cX4_setOutSleighs 70 = .ok (.aload_n 2, 1) := by decide +kernel
theorem dX4_setOutSleighs_71 : decode cX4_setOutSleighs 71 = .ok (.getfield 114, 3) := by decide +kernel
theorem dX4_setOutSleighs_74 : decode cX4_setOutSleighs 74 = .ok (.invokevirtual 82, 3) := by decide +kernel
theorem dX4_setOutSleighs_77 : decode cX4_setOutSleighs 77 = .ok (.iload_n 3, 1) := by decide +kernel
theorem dX4_setOutSleighs_78 : decode cX4_setOutSleighs 78 = .ok (.iload 4, 2) := by decide +kernel
theorem dX4_setOutSleighs_80 : decode cX4_setOutSleighs 80 = .ok (.invokevirtual 124, 3) := by decide +kernel
theorem dX4_setOutSleighs_83 : decode cX4_setOutSleighs 83 = .ok (.pop, 1) := by decide +kernel
theorem dX4_setOutSleighs_84 : decode cX4_setOutSleighs 84 = .ok (.aload_n 0, 1) := by decide +kernel
theorem dX4_setOutSleighs_85 : decode cX4_setOutSleighs 85 = .ok (.getfield 12, 3) := by decide +kernel
theorem dX4_setOutSleighs_88 : decode cX4_setOutSleighs 88 = .ok (.aload_n 2, 1) := by decide +kernel
theorem dX4_setOutSleighs_89 : decode cX4_setOutSleighs 89 = .ok (.getfield 104, 3) := by decide +kernel
theorem dX4_setOutSleighs_92 : decode cX4_setOutSleighs 92 = .ok (.invokevirtual 179, 3) := by decide +kernel
theorem dX4_setOutSleighs_95 : decode cX4_setOutSleighs 95 = .ok (.istore 5, 2) := by decide +kernel
theorem dX4_setOutSleighs_97 : decode cX4_setOutSleighs 97 = .ok (.iload 5, 2) := by decide +kernel
theorem dX4_setOutSleighs_99 : decode cX4_setOutSleighs 99 = .ok (.iconst (-1), 1) := by decide +kernel
theorem dX4_setOutSleighs_100 : decode cX4_setOutSleighs 100 = .ok (.if_icmp .ne 17, 3) := by decide +kernel
theorem dX4_setOutSleighs_103 : decode cX4_setOutSleighs 103 = .ok (.aload_n 2, 1) := by decide +kernel
theorem dX4_setOutSleighs_104 : decode cX4_setOutSleighs 104 = .ok (.aload_n 0, 1) := by decide +kernel
theorem dX4_setOutSleighs_105 : decode cX4_setOutSleighs 105 = .ok (.getfield 21, 3) := by decide +kernel
theorem dX4_setOutSleighs_108 : decode cX4_setOutSleighs 108 = .ok (.getfield 176, 3) := by decide +kernel
theorem dX4_setOutSleighs_111 : decode cX4_setOutSleighs 111 = .ok (.putfield 173, 3) := by decide +kernel
theorem dX4_setOutSleighs_114 : decode cX4_setOutSleighs 114 = .ok (.goto 33, 3) := by decide +kernel
theorem dX4_setOutSleighs_117 : decode cX4_setOutSleighs 117 = .ok (.aload_n 2, 1) := by decide +kernel
theorem dX4_setOutSleighs_118 : decode cX4_setOutSleighs 118 = .ok (.iload 5, 2) := by decide +kernel
theorem dX4_setOutSleighs_120 : decode cX4_setOutSleighs 120 = .ok (.aload_n 0, 1) := by decide +kernel
theorem dX4_setOutSleighs_121 : decode cX4_setOutSleighs 121 = .ok (.getfield 21, 3) := by decide +kernel
theorem dX4_setOutSleighs_124 : decode cX4_setOutSleighs 124 = .ok (.iload 5, 2) := by decide +kernel
theorem dX4_setOutSleighs_126 : decode cX4_setOutSleighs 126 = .ok (.invokevirtual 182, 3) := by decide +kernel
theorem dX4_setOutSleighs_129 : decode cX4_setOutSleighs 129 = .ok (.iload 4, 2) := by decide +kernel
theorem dX4_setOutSleighs_131 : decode cX4_setOutSleighs 131 = .ok (.iadd, 1) := by decide +kernel
theorem dX4_setOutSleighs_132 : decode cX4_setOutSleighs 132 = .ok (.invokevirtual 185, 3) := by decide +kernel
theorem dX4_setOutSleighs_135 : decode cX4_setOutSleighs 135 = .ok (.aload_n 0, 1) := by decide +kernel
theorem dX4_setOutSleighs_136 : decode cX4_setOutSleighs 136 = .ok (.getfield 21, 3) := by decide +kernel
theorem dX4_setOutSleighs_139 : decode cX4_setOutSleighs 139 = .ok (.aload_n 2, 1) := by decide +kernel
theorem dX4_setOutSleighs_140 : decode cX4_setOutSleighs 140 = .ok (.getfield 104, 3) := by decide +kernel
theorem dX4_setOutSleighs_143 : decode cX4_setOutSleighs 143 = .ok (.iload_n 3, 1) := by decide +kernel
theorem dX4_setOutSleighs_144 : decode cX4_setOutSleighs 144 = .ok (.invokevirtual 188, 3) := by decide +kernel
theorem dX4_setOutSleighs_147 : decode cX4_setOutSleighs 147 = .ok (.iinc 1 1, 3) := by decide +kernel
theorem dX4_setOutSleighs_150 : decode cX4_setOutSleighs 150 = .ok (.goto (-148), 3) := by decide +kernel
theorem dX4_setOutSleighs_153 : decode cX4_setOutSleighs 153 = .ok (.return_, 1) := by decide +kernel
theorem dX4_restSleighs_0 : decode cX4_restSleighs 0 = .ok (.iconst 0, 1) := by decide +kernel
theorem dX4_restSleighs_1 : decode cX4_restSleighs 1 = .ok (.istore_n 1, 1) := by decide +kernel
theorem dX4_restSleighs_2 : decode cX4_restSleighs 2 = .ok (.iload_n 1, 1) := by decide +kernel
theorem dX4_restSleighs_3 : decode cX4_restSleighs 3 = .ok (.iconst 5, 1) := by decide +kernel
theorem dX4_restSleighs_4 : decode cX4_restSleighs 4 = .ok (.if_icmp .ge 30, 3) := by decide +kernel
theorem dX4_restSleighs_7 : decode cX4_restSleighs 7 = .ok (.aload_n 0, 1) := by decide +kernel
theorem dX4_restSleighs_8 : decode cX4_restSleighs 8 = .ok (.iload_n 1, 1) := by decide +kernel
theorem dX4_restSleighs_9 : decode cX4_restSleighs 9 = .ok (.invokevirtual 63, 3) := by decide +kernel
theorem dX4_restSleighs_12 : decode cX4_restSleighs 12 = .ok (.astore_n 2, 1) := by decide +kernel
theorem dX4_restSleighs_13 : decode cX4_restSleighs 13 = .ok (.aload_n 2, 1) := by decide +kernel
theorem dX4_restSleighs_14 : decode cX4_restSleighs 14 = .ok (.ifnull 14, 3) := by decide +kernel
theorem dX4_restSleighs_17 : decode cX4_restSleighs 17 = .ok (.aload_n 2, 1) := by decide +kernel
theorem dX4_restSleighs_18 : decode cX4_restSleighs 18 = .ok (.getfield 101, 3) := by decide +kernel
theorem dX4_restSleighs_21 : decode cX4_restSleighs 21 = .ok (.ifCond .ne 7, 3) := by decide +kernel
theorem dX4_restSleighs_24 : decode cX4_restSleighs 24 = .ok (.aload_n 2, 1) := by decide +kernel
theorem dX4_restSleighs_25 : decode cX4_restSleighs 25 = .ok (.invokevirtual 191, 3) := by decide +kernel
theorem dX4_restSleighs_28 : decode cX4_restSleighs 28 = .ok (.iinc 1 1, 3) := by decide +kernel
theorem dX4_restSleighs_31 : decode cX4_restSleighs 31 = .ok (.goto (-29), 3) := by decide +kernel
theorem dX4_restSleighs_34 : decode cX4_restSleighs 34 = .ok (.return_, 1) := by decide +kernel
theorem dX4_tellCell_0 : decode cX4_tellCell 0 = .ok (.iload_n 2, 1) := by decide +kernel
theorem dX4_tellCell_1 : decode cX4_tellCell 1 = .ok (.tableswitch 85 0 4 #[35, 44, 53, 62, 79], 35) := by decide +kernel
theorem dX4_tellCell_36 : decode cX4_tellCell 36 = .ok (.aload_n 0, 1) := by decide +kernel
theorem dX4_tellCell_37 : decode cX4_tellCell 37 = .ok (.getfield 21, 3) := by decide +kernel
theorem dX4_tellCell_40 : decode cX4_tellCell 40 = .ok (.iload_n 1, 1) := by decide +kernel
theorem dX4_tellCell_41 : decode cX4_tellCell 41 = .ok (.invokevirtual 194, 3) := by decide +kernel
theorem dX4_tellCell_44 : decode cX4_tellCell 44 = .ok (.ireturn, 1) := by decide +kernel
theorem dX4_tellCell_45 : decode cX4_tellCell 45 = .ok (.aload_n 0, 1) := by decide +kernel
theorem dX4_tellCell_46 : decode cX4_tellCell 46 = .ok (.getfield 21, 3) := by decide +kernel
theorem dX4_tellCell_49 : decode cX4_tellCell 49 = .ok (.iload_n 1, 1) := by decide +kernel
theorem dX4_tellCell_50 : decode cX4_tellCell 50 = .ok (.invokevirtual 182, 3) := by decide +kernel
theorem dX4_tellCell_53 : decode cX4_tellCell 53 = .ok (.ireturn, 1) := by decide +kernel
theorem dX4_tellCell_54 : decode cX4_tellCell 54 = .ok (.aload_n 0, 1) := by decide +kernel
theorem dX4_tellCell_55 : decode cX4_tellCell 55 = .ok (.getfield 21, 3) := by decide +kernel
theorem dX4_tellCell_58 : decode cX4_tellCell 58 = .ok (.iload_n 1, 1) := by decide +kernel
theorem dX4_tellCell_59 : decode cX4_tellCell 59 = .ok (.invokevirtual 197, 3) := by decide +kernel
theorem dX4_tellCell_62 : decode cX4_tellCell 62 = .ok (.ireturn, 1) := by decide +kernel
theorem dX4_tellCell_63 : decode cX4_tellCell 63 = .ok (.aload_n 0, 1) := by decide +kernel
theorem dX4_tellCell_64 : decode cX4_tellCell 64 = .ok (.getfield 21, 3) := by decide +kernel
theorem dX4_tellCell_67 : decode cX4_tellCell 67 = .ok (.iload_n 1, 1) := by decide +kernel
theorem dX4_tellCell_68 : decode cX4_tellCell 68 = .ok (.invokevirtual 200, 3) := by decide +kernel
theorem dX4_tellCell_71 : decode cX4_tellCell 71 = .ok (.ifCond .eq 7, 3) := by decide +kernel
theorem dX4_tellCell_74 : decode cX4_tellCell 74 = .ok (.iconst 1, 1) := by decide +kernel
theorem dX4_tellCell_75 : decode cX4_tellCell 75 = .ok (.goto 4, 3) := by decide +kernel
theorem dX4_tellCell_78 : decode cX4_tellCell 78 = .ok (.iconst 0, 1) := by decide +kernel
theorem dX4_tellCell_79 : decode cX4_tellCell 79 = .ok (.ireturn, 1) := by decide +kernel
theorem dX4_tellCell_80 : decode cX4_tellCell 80 = .ok (.aload_n 0, 1) := by decide +kernel
theorem dX4_tellCell_81 : decode cX4_tellCell 81 = .ok (.iload_n 1, 1) := by decide +kernel
theorem dX4_tellCell_82 : decode cX4_tellCell 82 = .ok (.invokevirtual 95, 3) := by decide +kernel
theorem dX4_tellCell_85 : decode cX4_tellCell 85 = .ok (.ireturn, 1) := by decide +kernel
theorem dX4_tellCell_86 : decode cX4_tellCell 86 = .ok (.aload_n 0, 1) := by decide +kernel
theorem dX4_tellCell_87 : decode cX4_tellCell 87 = .ok (.iload_n 1, 1) := by decide +kernel
theorem dX4_tellCell_88 : decode cX4_tellCell 88 = .ok (.invokevirtual 98, 3) := by decide +kernel
theorem dX4_tellCell_91 : decode cX4_tellCell 91 = .ok (.ireturn, 1) := by decide +kernel
theorem dX4_tellSleigh_0 : decode cX4_tellSleigh 0 = .ok (.aload_n 0, 1) := by decide +kernel
theorem dX4_tellSleigh_1 : decode cX4_tellSleigh 1 = .ok (.iload_n 1, 1) := by decide +kernel
theorem dX4_tellSleigh_2 : decode cX4_tellSleigh 2 = .ok (.invokevirtual 63, 3) := by decide +kernel
theorem dX4_tellSleigh_5 : decode cX4_tellSleigh 5 = .ok (.astore_n 3, 1) := by decide +kernel
theorem dX4_tellSleigh_6 : decode cX4_tellSleigh 6 = .ok (.aload_n 3, 1) := by decide +kernel
theorem dX4_tellSleigh_7 : decode cX4_tellSleigh 7 = .ok (.ifnonnull 5, 3) := by decide +kernel
theorem dX4_tellSleigh_10 : decode cX4_tellSleigh 10 = .ok (.iconst (-1), 1) := by decide +kernel
theorem dX4_tellSleigh_11 : decode cX4_tellSleigh 11 = .ok (.ireturn, 1) := by decide +kernel
theorem dX4_tellSleigh_12 : decode cX4_tellSleigh 12 = .ok (.iload_n 2, 1) := by decide +kernel
theorem dX4_tellSleigh_13 : decode cX4_tellSleigh 13 = .ok (.tableswitch 87 0 7 #[47, 52, 57, 62, 67, 72, 77, 82], 47) := by decide +kernel
theorem dX4_tellSleigh_60 : decode cX4_tellSleigh 60 = .ok (.aload_n 3, 1) := by decide +kernel
theorem dX4_tellSleigh_61 : decode cX4_tellSleigh 61 = .ok (.getfield 203, 3) := by decide +kernel
theorem dX4_tellSleigh_64 : decode cX4_tellSleigh 64 = .ok (.ireturn, 1) := by decide +kernel
theorem dX4_tellSleigh_65 : decode cX4_tellSleigh 65 = .ok (.aload_n 3, 1) := by decide +kernel
theorem dX4_tellSleigh_66 : decode cX4_tellSleigh 66 = .ok (.invokevirtual 206, 3) := by decide +kernel
theorem dX4_tellSleigh_69 : decode cX4_tellSleigh 69 = .ok (.ireturn, 1) := by decide +kernel
theorem dX4_tellSleigh_70 : decode cX4_tellSleigh 70 = .ok (.aload_n 3, 1) := by decide +kernel
theorem dX4_tellSleigh_71 : decode cX4_tellSleigh 71 = .ok (.getfield 209, 3) := by decide +kernel
theorem dX4_tellSleigh_74 : decode cX4_tellSleigh 74 = .ok (.ireturn, 1) := by decide +kernel
theorem dX4_tellSleigh_75 : decode cX4_tellSleigh 75 = .ok (.aload_n 3, 1) := by decide +kernel
theorem dX4_tellSleigh_76 : decode cX4_tellSleigh 76 = .ok (.getfield 101, 3) := by decide +kernel
theorem dX4_tellSleigh_79 : decode cX4_tellSleigh 79 = .ok (.ireturn, 1) := by decide +kernel
theorem dX4_tellSleigh_80 : decode cX4_tellSleigh 80 = .ok (.aload_n 3, 1) := by decide +kernel
theorem dX4_tellSleigh_81 : decode cX4_tellSleigh 81 = .ok (.getfield 104, 3) := by decide +kernel
theorem dX4_tellSleigh_84 : decode cX4_tellSleigh 84 = .ok (.ireturn, 1) := by decide +kernel
theorem dX4_tellSleigh_85 : decode cX4_tellSleigh 85 = .ok (.aload_n 3, 1) := by decide +kernel
theorem dX4_tellSleigh_86 : decode cX4_tellSleigh 86 = .ok (.getfield 114, 3) := by decide +kernel
theorem dX4_tellSleigh_89 : decode cX4_tellSleigh 89 = .ok (.ireturn, 1) := by decide +kernel
theorem dX4_tellSleigh_90 : decode cX4_tellSleigh 90 = .ok (.aload_n 3, 1) := by decide +kernel
theorem dX4_tellSleigh_91 : decode cX4_tellSleigh 91 = .ok (.getfield 212, 3) := by decide +kernel
theorem dX4_tellSleigh_94 : decode cX4_tellSleigh 94 = .ok (.ireturn, 1) := by decide +kernel
theorem dX4_tellSleigh_95 : decode cX4_tellSleigh 95 = .ok (.aload_n 3, 1) := by decide +kernel
theorem dX4_tellSleigh_96 : decode cX4_tellSleigh 96 = .ok (.invokevirtual 117, 3) := by decide +kernel
theorem dX4_tellSleigh_99 : decode cX4_tellSleigh 99 = .ok (.ireturn, 1) := by decide +kernel
theorem dX4_tellSleigh_100 : decode cX4_tellSleigh 100 = .ok (.aload_n 0, 1) := by decide +kernel
theorem dX4_tellSleigh_101 : decode cX4_tellSleigh 101 = .ok (.iload_n 1, 1) := by decide +kernel
theorem dX4_tellSleigh_102 : decode cX4_tellSleigh 102 = .ok (.invokevirtual 215, 3) := by decide +kernel
theorem dX4_tellSleigh_105 : decode cX4_tellSleigh 105 = .ok (.ireturn, 1) := by decide +kernel
theorem dX4_tellCount_0 : decode cX4_tellCount 0 = .ok (.iload_n 1, 1) := by decide +kernel
theorem dX4_tellCount_1 : decode cX4_tellCount 1 = .ok (.tableswitch 92 0 7 #[47, 52, 57, 62, 67, 72, 78, 84], 47) := by decide +kernel
theorem dX4_tellCount_48 : decode cX4_tellCount 48 = .ok (.aload_n 0, 1) := by decide +kernel
theorem dX4_tellCount_49 : decode cX4_tellCount 49 = .ok (.getfield 60, 3) := by decide +kernel
theorem dX4_tellCount_52 : decode cX4_tellCount 52 = .ok (.ireturn, 1) := by decide +kernel
theorem dX4_tellCount_53 : decode cX4_tellCount 53 = .ok (.aload_n 0, 1) := by decide +kernel
theorem dX4_tellCount_54 : decode cX4_tellCount 54 = .ok (.getfield 53, 3) := by decide +kernel
theorem dX4_tellCount_57 : decode cX4_tellCount 57 = .ok (.ireturn, 1) := by decide +kernel
theorem dX4_tellCount_58 : decode cX4_tellCount 58 = .ok (.aload_n 0, 1) := by decide +kernel
theorem dX4_tellCount_59 : decode cX4_tellCount 59 = .ok (.getfield 57, 3) := by decide +kernel
theorem dX4_tellCount_62 : decode cX4_tellCount 62 = .ok (.ireturn, 1) := by decide +kernel
theorem dX4_tellCount_63 : decode cX4_tellCount 63 = .ok (.aload_n 0, 1) := by decide +kernel
theorem dX4_tellCount_64 : decode cX4_tellCount 64 = .ok (.invokevirtual 218, 3) := by decide +kernel
theorem dX4_tellCount_67 : decode cX4_tellCount 67 = .ok (.ireturn, 1) := by decide +kernel
theorem dX4_tellCount_68 : decode cX4_tellCount 68 = .ok (.aload_n 0, 1) := by decide +kernel
theorem dX4_tellCount_69 : decode cX4_tellCount 69 = .ok (.getfield 75, 3) := by decide +kernel
theorem dX4_tellCount_72 : decode cX4_tellCount 72 = .ok (.ireturn, 1) := by decide +kernel
theorem dX4_tellCount_73 : decode cX4_tellCount 73 = .ok (.aload_n 0, 1) := by decide +kernel
theorem dX4_tellCount_74 : decode cX4_tellCount 74 = .ok (.iconst 2, 1) := by decide +kernel
theorem dX4_tellCount_75 : decode cX4_tellCount 75 = .ok (.invokevirtual 221, 3) := by decide +kernel
theorem dX4_tellCount_78 : decode cX4_tellCount 78 = .ok (.ireturn, 1) := by decide +kernel
theorem dX4_tellCount_79 : decode cX4_tellCount 79 = .ok (.aload_n 0, 1) := by decide +kernel
theorem dX4_tellCount_80 : decode cX4_tellCount 80 = .ok (.iconst 3, 1) := by decide +kernel
theorem dX4_tellCount_81 : decode cX4_tellCount 81 = .ok (.invokevirtual 221, 3) := by decide +kernel
theorem dX4_tellCount_84 : decode cX4_tellCount 84 = .ok (.ireturn, 1) := by decide +kernel
theorem dX4_tellCount_85 : decode cX4_tellCount 85 = .ok (.aload_n 0, 1) := by decide +kernel
theorem dX4_tellCount_86 : decode cX4_tellCount 86 = .ok (.getfield 21, 3) := by decide +kernel
theorem dX4_tellCount_89 : decode cX4_tellCount 89 = .ok (.invokevirtual 224, 3) := by decide +kernel
theorem dX4_tellCount_92 : decode cX4_tellCount 92 = .ok (.ireturn, 1) := by decide +kernel
theorem dX4_tellCount_93 : decode cX4_tellCount 93 = .ok (.aload_n 0, 1) := by decide +kernel
theorem dX4_tellCount_94 : decode cX4_tellCount 94 = .ok (.getfield 21, 3) := by decide +kernel
theorem dX4_tellCount_97 : decode cX4_tellCount 97 = .ok (.invokevirtual 227, 3) := by decide +kernel
theorem dX4_tellCount_100 : decode cX4_tellCount 100 = .ok (.ireturn, 1) := by decide +kernel
theorem dX4_sunkSleighs_0 : decode cX4_sunkSleighs 0 = .ok (.iconst 0, 1) := by decide +kernel
theorem dX4_sunkSleighs_1 : decode cX4_sunkSleighs 1 = .ok (.istore_n 1, 1) := by decide +kernel
theorem dX4_sunkSleighs_2 : decode cX4_sunkSleighs 2 = .ok (.iconst 0, 1) := by decide +kernel
theorem dX4_sunkSleighs_3 : decode cX4_sunkSleighs 3 = .ok (.istore_n 2, 1) := by decide +kernel
theorem dX4_sunkSleighs_4 : decode cX4_sunkSleighs 4 = .ok (.iload_n 2, 1) := by decide +kernel
theorem dX4_sunkSleighs_5 : decode cX4_sunkSleighs 5 = .ok (.iconst 5, 1) := by decide +kernel
theorem dX4_sunkSleighs_6 : decode cX4_sunkSleighs 6 = .ok (.if_icmp .ge 30, 3) := by decide +kernel
theorem dX4_sunkSleighs_9 : decode cX4_sunkSleighs 9 = .ok (.aload_n 0, 1) := by decide +kernel
theorem dX4_sunkSleighs_10 : decode cX4_sunkSleighs 10 = .ok (.iload_n 2, 1) := by decide +kernel
theorem dX4_sunkSleighs_11 : decode cX4_sunkSleighs 11 = .ok (.invokevirtual 63, 3) := by decide +kernel
theorem dX4_sunkSleighs_14 : decode cX4_sunkSleighs 14 = .ok (.astore_n 3, 1) := by decide +kernel
theorem dX4_sunkSleighs_15 : decode cX4_sunkSleighs 15 = .ok (.aload_n 3, 1) := by decide +kernel
theorem dX4_sunkSleighs_16 : decode cX4_sunkSleighs 16 = .ok (.ifnull 14, 3) := by decide +kernel
theorem dX4_sunkSleighs_19 : decode cX4_sunkSleighs 19 = .ok (.aload_n 3, 1) := by decide +kernel
theorem dX4_sunkSleighs_20 : decode cX4_sunkSleighs 20 = .ok (.getfield 101, 3) := by decide +kernel
theorem dX4_sunkSleighs_23 : decode cX4_sunkSleighs 23 = .ok (.iconst 2, 1) := by decide +kernel
theorem dX4_sunkSleighs_24 : decode cX4_sunkSleighs 24 = .ok (.if_icmp .ne 6, 3) := by decide +kernel
theorem dX4_sunkSleighs_27 : decode cX4_sunkSleighs 27 = .ok (.iinc 1 1, 3) := by decide +kernel
theorem dX4_sunkSleighs_30 : decode cX4_sunkSleighs 30 = .ok (.iinc 2 1, 3) := by decide +kernel
theorem dX4_sunkSleighs_33 : decode cX4_sunkSleighs 33 = .ok (.goto (-29), 3) := by decide +kernel
theorem dX4_sunkSleighs_36 : decode cX4_sunkSleighs 36 = .ok (.iload_n 1, 1) := by decide +kernel
theorem dX4_sunkSleighs_37 : decode cX4_sunkSleighs 37 = .ok (.ireturn, 1) := by decide +kernel
theorem dX4_bagsThat_0 : decode cX4_bagsThat 0 = .ok (.iconst 0, 1) := by decide +kernel
theorem dX4_bagsThat_1 : decode cX4_bagsThat 1 = .ok (.istore_n 2, 1) := by decide +kernel
theorem dX4_bagsThat_2 : decode cX4_bagsThat 2 = .ok (.iconst 0, 1) := by decide +kernel
theorem dX4_bagsThat_3 : decode cX4_bagsThat 3 = .ok (.istore_n 3, 1) := by decide +kernel
theorem dX4_bagsThat_4 : decode cX4_bagsThat 4 = .ok (.iload_n 3, 1) := by decide +kernel
theorem dX4_bagsThat_5 : decode cX4_bagsThat 5 = .ok (.bipush 40, 2) := by decide +kernel
theorem dX4_bagsThat_7 : decode cX4_bagsThat 7 = .ok (.if_icmp .ge 33, 3) := by decide +kernel
theorem dX4_bagsThat_10 : decode cX4_bagsThat 10 = .ok (.aload_n 0, 1) := by decide +kernel
theorem dX4_bagsThat_11 : decode cX4_bagsThat 11 = .ok (.iload_n 3, 1) := by decide +kernel
theorem dX4_bagsThat_12 : decode cX4_bagsThat 12 = .ok (.invokevirtual 107, 3) := by decide +kernel
theorem dX4_bagsThat_15 : decode cX4_bagsThat 15 = .ok (.astore 4, 2) := by decide +kernel
theorem dX4_bagsThat_17 : decode cX4_bagsThat 17 = .ok (.aload 4, 2) := by decide +kernel
theorem dX4_bagsThat_19 : decode cX4_bagsThat 19 = .ok (.ifnull 15, 3) := by decide +kernel
theorem dX4_bagsThat_22 : decode cX4_bagsThat 22 = .ok (.aload 4, 2) := by decide +kernel
theorem dX4_bagsThat_24 : decode cX4_bagsThat 24 = .ok (.getfield 230, 3) := by decide +kernel
theorem dX4_bagsThat_27 : decode cX4_bagsThat 27 = .ok (.iload_n 1, 1) := by decide +kernel
theorem dX4_bagsThat_28 : decode cX4_bagsThat 28 = .ok (.if_icmp .ne 6, 3) := by decide +kernel
theorem dX4_bagsThat_31 : decode cX4_bagsThat 31 = .ok (.iinc 2 1, 3) := by decide +kernel
theorem dX4_bagsThat_34 : decode cX4_bagsThat 34 = .ok (.iinc 3 1, 3) := by decide +kernel
theorem dX4_bagsThat_37 : decode cX4_bagsThat 37 = .ok (.goto (-33), 3) := by decide +kernel
theorem dX4_bagsThat_40 : decode cX4_bagsThat 40 = .ok (.iload_n 2, 1) := by decide +kernel
theorem dX4_bagsThat_41 : decode cX4_bagsThat 41 = .ok (.ireturn, 1) := by decide +kernel
theorem dX5_init_0 : decode cX5_init 0 = .ok (.aload_n 0, 1) := by decide +kernel
theorem dX5_init_1 : decode cX5_init 1 = .ok (.invokespecial 1, 3) := by decide +kernel
theorem dX5_init_4 : decode cX5_init 4 = .ok (.aload_n 0, 1) := by decide +kernel
theorem dX5_init_5 : decode cX5_init 5 = .ok (.new 7, 3) := by decide +kernel
theorem dX5_init_8 : decode cX5_init 8 = .ok (.dup, 1) := by decide +kernel
theorem dX5_init_9 : decode cX5_init 9 = .ok (.invokespecial 9, 3) := by decide +kernel
theorem dX5_init_12 : decode cX5_init 12 = .ok (.putfield 10, 3) := by decide +kernel
theorem dX5_init_15 : decode cX5_init 15 = .ok (.aload_n 0, 1) := by decide +kernel
theorem dX5_init_16 : decode cX5_init 16 = .ok (.new 7, 3) := by decide +kernel
theorem dX5_init_19 : decode cX5_init 19 = .ok (.dup, 1) := by decide +kernel
theorem dX5_init_20 : decode cX5_init 20 = .ok (.invokespecial 9, 3) := by decide +kernel
theorem dX5_init_23 : decode cX5_init 23 = .ok (.putfield 16, 3) := by decide +kernel
theorem dX5_init_26 : decode cX5_init 26 = .ok (.return_, 1) := by decide +kernel
theorem dX5_setIce_0 : decode cX5_setIce 0 = .ok (.iload_n 1, 1) := by decide +kernel
theorem dX5_setIce_1 : decode cX5_setIce 1 = .ok (.iload_n 2, 1) := by decide +kernel
theorem dX5_setIce_2 : decode cX5_setIce 2 = .ok (.iload_n 3, 1) := by decide +kernel
theorem dX5_setIce_3 : decode cX5_setIce 3 = .ok (.iload 4, 2) := by decide +kernel
theorem dX5_setIce_5 : decode cX5_setIce 5 = .ok (.invokestatic 19, 3) := by decide +kernel
theorem dX5_setIce_8 : decode cX5_setIce 8 = .ok (.ifCond .eq 15, 3) := by decide +kernel
theorem dX5_setIce_11 : decode cX5_setIce 11 = .ok (.iload 5, 2) := by decide +kernel
theorem dX5_setIce_13 : decode cX5_setIce 13 = .ok (.iconst (-1), 1) := by decide +kernel
theorem dX5_setIce_14 : decode cX5_setIce 14 = .ok (.sipush 200, 3) := by decide +kernel
theorem dX5_setIce_17 : decode cX5_setIce 17 = .ok (.invokestatic 23, 3) := by decide +kernel
theorem dX5_setIce_20 : decode cX5_setIce 20 = .ok (.ifCond .ne 13, 3) := by decide +kernel
theorem dX5_setIce_23 : decode cX5_setIce 23 = .ok (.new 27, 3) := by decide +kernel
theorem dX5_setIce_26 : decode cX5_setIce 26 = .ok (.dup, 1) := by decide +kernel
theorem dX5_setIce_27 : decode cX5_setIce 27 = .ok (.ldc 29, 2) := by decide +kernel
theorem dX5_setIce_29 : decode cX5_setIce 29 = .ok (.invokespecial 31, 3) := by decide +kernel
theorem dX5_setIce_32 : decode cX5_setIce 32 = .ok (.athrow, 1) := by decide +kernel
theorem dX5_setIce_33 : decode cX5_setIce 33 = .ok (.iload 5, 2) := by decide +kernel
theorem dX5_setIce_35 : decode cX5_setIce 35 = .ok (.iconst (-1), 1) := by decide +kernel
theorem dX5_setIce_36 : decode cX5_setIce 36 = .ok (.if_icmp .eq 28, 3) := by decide +kernel
theorem dX5_setIce_39 : decode cX5_setIce 39 = .ok (.aload_n 0, 1) := by decide +kernel
theorem dX5_setIce_40 : decode cX5_setIce 40 = .ok (.getfield 10, 3) := by decide +kernel
theorem dX5_setIce_43 : decode cX5_setIce 43 = .ok (.iload_n 1, 1) := by decide +kernel
theorem dX5_setIce_44 : decode cX5_setIce 44 = .ok (.iload_n 2, 1) := by decide +kernel
theorem dX5_setIce_45 : decode cX5_setIce 45 = .ok (.iload_n 3, 1) := by decide +kernel
theorem dX5_setIce_46 : decode cX5_setIce 46 = .ok (.iload 4, 2) := by decide +kernel
theorem dX5_setIce_48 : decode cX5_setIce 48 = .ok (.invokevirtual 34, 3) := by decide +kernel
theorem dX5_setIce_51 : decode cX5_setIce 51 = .ok (.ifCond .eq 13, 3) := by decide +kernel
theorem dX5_setIce_54 : decode cX5_setIce 54 = .ok (.new 37, 3) := by decide +kernel
theorem dX5_setIce_57 : decode cX5_setIce 57 = .ok (.dup, 1) := by decide +kernel
theorem dX5_setIce_58 : decode cX5_setIce 58 = .ok (.ldc 39, 2) := by decide +kernel
theorem dX5_setIce_60 : decode cX5_setIce 60 = .ok (.invokespecial 41, 3) := by decide +kernel
theorem dX5_setIce_63 : decode cX5_setIce 63 = .ok (.athrow, 1) := by decide +kernel
theorem dX5_setIce_64 : decode cX5_setIce 64 = .ok (.iload_n 2, 1) := by decide +kernel
theorem dX5_setIce_65 : decode cX5_setIce 65 = .ok (.istore 6, 2) := by decide +kernel
theorem dX5_setIce_67 : decode cX5_setIce 67 = .ok (.iload 6, 2) := by decide +kernel
theorem dX5_setIce_69 : decode cX5_setIce 69 = .ok (.iload_n 2, 1) := by decide +kernel
theorem dX5_setIce_70 : decode cX5_setIce 70 = .ok (.iload 4, 2) := by decide +kernel
theorem dX5_setIce_72 : decode cX5_setIce 72 = .ok (.iadd, 1) := by decide +kernel
theorem dX5_setIce_73 : decode cX5_setIce 73 = .ok (.if_icmp .ge 45, 3) := by decide +kernel
theorem dX5_setIce_76 : decode cX5_setIce 76 = .ok (.iload_n 1, 1) := by decide +kernel
theorem dX5_setIce_77 : decode cX5_setIce 77 = .ok (.istore 7, 2) := by decide +kernel
theorem dX5_setIce_79 : decode cX5_setIce 79 = .ok (.iload 7, 2) := by decide +kernel
theorem dX5_setIce_81 : decode cX5_setIce 81 = .ok (.iload_n 1, 1) := by decide +kernel
theorem dX5_setIce_82 : decode cX5_setIce 82 = .ok (.iload_n 3, 1) := by decide +kernel
theorem dX5_setIce_83 : decode cX5_setIce 83 = .ok (.iadd, 1) := by decide +kernel
theorem dX5_setIce_84 : decode cX5_setIce 84 = .ok (.if_icmp .ge 28, 3) := by decide +kernel
theorem dX5_setIce_87 : decode cX5_setIce 87 = .ok (.aload_n 0, 1) := by decide +kernel
theorem dX5_setIce_88 : decode cX5_setIce 88 = .ok (.getfield 10, 3) := by decide +kernel
theorem dX5_setIce_91 : decode cX5_setIce 91 = .ok (.getfield 42, 3) := by decide +kernel
theorem dX5_setIce_94 : decode cX5_setIce 94 = .ok (.iload 7, 2) := by decide +kernel
theorem dX5_setIce_96 : decode cX5_setIce 96 = .ok (.iload 6, 2) := by decide +kernel
theorem dX5_setIce_98 : decode cX5_setIce 98 = .ok (.invokestatic 46, 3) := by decide +kernel
theorem dX5_setIce_101 : decode cX5_setIce 101 = .ok (.iload 5, 2) := by decide +kernel
theorem dX5_setIce_103 : decode cX5_setIce 103 = .ok (.invokevirtual 50, 3) := by decide +kernel
theorem dX5_setIce_106 : decode cX5_setIce 106 = .ok (.iinc 7 1, 3) := by decide +kernel
theorem dX5_setIce_109 : decode cX5_setIce 109 = .ok (.goto (-30), 3) := by decide +kernel
theorem dX5_setIce_112 : decode cX5_setIce 112 = .ok (.iinc 6 1, 3) := by decide +kernel
theorem dX5_setIce_115 : decode cX5_setIce 115 = .ok (.goto (-48), 3) := by decide +kernel
theorem dX5_setIce_118 : decode cX5_setIce 118 = .ok (.iload_n 3, 1) := by decide +kernel
theorem dX5_setIce_119 : decode cX5_setIce 119 = .ok (.iload 4, 2) := by decide +kernel
theorem dX5_setIce_121 : decode cX5_setIce 121 = .ok (.imul, 1) := by decide +kernel
theorem dX5_setIce_122 : decode cX5_setIce 122 = .ok (.ireturn, 1) := by decide +kernel
theorem dX5_setSnow_0 : decode cX5_setSnow 0 = .ok (.iload_n 1, 1) := by decide +kernel
theorem dX5_setSnow_1 : decode cX5_setSnow 1 = .ok (.iload_n 2, 1) := by decide +kernel
theorem dX5_setSnow_2 : decode cX5_setSnow 2 = .ok (.invokestatic 56, 3) := by decide +kernel
theorem dX5_setSnow_5 : decode cX5_setSnow 5 = .ok (.ifCond .ne 13, 3) := by decide +kernel
theorem dX5_setSnow_8 : decode cX5_setSnow 8 = .ok (.new 60, 3) := by decide +kernel
theorem dX5_setSnow_11 : decode cX5_setSnow 11 = .ok (.dup, 1) := by decide +kernel
theorem dX5_setSnow_12 : decode cX5_setSnow 12 = .ok (.ldc 62, 2) := by decide +kernel
theorem dX5_setSnow_14 : decode cX5_setSnow 14 = .ok (.invokespecial 64, 3) := by decide +kernel
theorem dX5_setSnow_17 : decode cX5_setSnow 17 = .ok (.athrow, 1) := by decide +kernel
theorem dX5_setSnow_18 : decode cX5_setSnow 18 = .ok (.iload_n 3, 1) := by decide +kernel
theorem dX5_setSnow_19 : decode cX5_setSnow 19 = .ok (.iconst 1, 1) := by decide +kernel
theorem dX5_setSnow_20 : decode cX5_setSnow 20 = .ok (.bipush 9, 2) := by decide +kernel
theorem dX5_setSnow_22 : decode cX5_setSnow 22 = .ok (.invokestatic 23, 3) := by decide +kernel
theorem dX5_setSnow_25 : decode cX5_setSnow 25 = .ok (.ifCond .ne 13, 3) := by decide +kernel
theorem dX5_setSnow_28 : decode cX5_setSnow 28 = .ok (.new 27, 3) := by decide +kernel
theorem dX5_setSnow_31 : decode cX5_setSnow 31 = .ok (.dup, 1) := by decide +kernel
theorem dX5_setSnow_32 : decode cX5_setSnow 32 = .ok (.ldc 65, 2) := by decide +kernel
theorem dX5_setSnow_34 : decode cX5_setSnow 34 = .ok (.invokespecial 31, 3) := by decide +kernel
theorem dX5_setSnow_37 : decode cX5_setSnow 37 = .ok (.athrow, 1) := by decide +kernel
theorem dX5_setSnow_38 : decode cX5_setSnow 38 = .ok (.aload_n 0, 1) := by decide +kernel
theorem dX5_setSnow_39 : decode cX5_setSnow 39 = .ok (.getfield 10, 3) := by decide +kernel
theorem dX5_setSnow_42 : decode cX5_setSnow 42 = .ok (.getfield 42, 3) := by decide +kernel
theorem dX5_setSnow_45 : decode cX5_setSnow 45 = .ok (.iload_n 1, 1) := by decide +kernel
theorem dX5_setSnow_46 : decode cX5_setSnow 46 = .ok (.iload_n 2, 1) := by decide +kernel
theorem dX5_setSnow_47 : decode cX5_setSnow 47 = .ok (.invokestatic 46, 3) := by decide +kernel
theorem dX5_setSnow_50 : decode cX5_setSnow 50 = .ok (.invokevirtual 67, 3) := by decide +kernel
theorem dX5_setSnow_53 : decode cX5_setSnow 53 = .ok (.istore 4, 2) := by decide +kernel
theorem dX5_setSnow_55 : decode cX5_setSnow 55 = .ok (.aload_n 0, 1) := by decide +kernel
theorem dX5_setSnow_56 : decode cX5_setSnow 56 = .ok (.getfield 10, 3) := by decide +kernel
theorem dX5_setSnow_59 : decode cX5_setSnow 59 = .ok (.getfield 42, 3) := by decide +kernel
theorem dX5_setSnow_62 : decode cX5_setSnow 62 = .ok (.iload_n 1, 1) := by decide +kernel
theorem dX5_setSnow_63 : decode cX5_setSnow 63 = .ok (.iload_n 2, 1) := by decide +kernel
theorem dX5_setSnow_64 : decode cX5_setSnow 64 = .ok (.invokestatic 46, 3) := by decide +kernel
theorem dX5_setSnow_67 : decode cX5_setSnow 67 = .ok (.iload_n 3, 1) := by decide +kernel
theorem dX5_setSnow_68 : decode cX5_setSnow 68 = .ok (.invokevirtual 71, 3) := by decide +kernel
theorem dX5_setSnow_71 : decode cX5_setSnow 71 = .ok (.iload 4, 2) := by decide +kernel
theorem dX5_setSnow_73 : decode cX5_setSnow 73 = .ok (.ireturn, 1) := by decide +kernel
theorem dX5_setCold_0 : decode cX5_setCold 0 = .ok (.iload_n 1, 1) := by decide +kernel
theorem dX5_setCold_1 : decode cX5_setCold 1 = .ok (.iconst 0, 1) := by decide +kernel
theorem dX5_setCold_2 : decode cX5_setCold 2 = .ok (.bipush 7, 2) := by decide +kernel
theorem dX5_setCold_4 : decode cX5_setCold 4 = .ok (.invokestatic 23, 3) := by decide +kernel
theorem dX5_setCold_7 : decode cX5_setCold 7 = .ok (.ifCond .ne 13, 3) := by decide +kernel
theorem dX5_setCold_10 : decode cX5_setCold 10 = .ok (.new 60, 3) := by decide +kernel
theorem dX5_setCold_13 : decode cX5_setCold 13 = .ok (.dup, 1) := by decide +kernel
theorem dX5_setCold_14 : decode cX5_setCold 14 = .ok (.ldc 74, 2) := by decide +kernel
theorem dX5_setCold_16 : decode cX5_setCold 16 = .ok (.invokespecial 64, 3) := by decide +kernel
theorem dX5_setCold_19 : decode cX5_setCold 19 = .ok (.athrow, 1) := by decide +kernel
theorem dX5_setCold_20 : decode cX5_setCold 20 = .ok (.iload_n 2, 1) := by decide +kernel
theorem dX5_setCold_21 : decode cX5_setCold 21 = .ok (.bipush (-9), 2) := by decide +kernel
theorem dX5_setCold_23 : decode cX5_setCold 23 = .ok (.bipush 9, 2) := by decide +kernel
theorem dX5_setCold_25 : decode cX5_setCold 25 = .ok (.invokestatic 23, 3) := by decide +kernel
theorem dX5_setCold_28 : decode cX5_setCold 28 = .ok (.ifCond .ne 13, 3) := by decide +kernel
theorem dX5_setCold_31 : decode cX5_setCold 31 = .ok (.new 27, 3) := by decide +kernel
theorem dX5_setCold_34 : decode cX5_setCold 34 = .ok (.dup, 1) := by decide +kernel
theorem dX5_setCold_35 : decode cX5_setCold 35 = .ok (.ldc 76, 2) := by decide +kernel
theorem dX5_setCold_37 : decode cX5_setCold 37 = .ok (.invokespecial 31, 3) := by decide +kernel
theorem dX5_setCold_40 : decode cX5_setCold 40 = .ok (.athrow, 1) := by decide +kernel
theorem dX5_setCold_41 : decode cX5_setCold 41 = .ok (.aload_n 0, 1) := by decide +kernel
theorem dX5_setCold_42 : decode cX5_setCold 42 = .ok (.getfield 10, 3) := by decide +kernel
theorem dX5_setCold_45 : decode cX5_setCold 45 = .ok (.getfield 42, 3) := by decide +kernel
theorem dX5_setCold_48 : decode cX5_setCold 48 = .ok (.getfield 78, 3) := by decide +kernel
theorem dX5_setCold_51 : decode cX5_setCold 51 = .ok (.iload_n 1, 1) := by decide +kernel
theorem dX5_setCold_52 : decode cX5_setCold 52 = .ok (.iaload, 1) := by decide +kernel
theorem dX5_setCold_53 : decode cX5_setCold 53 = .ok (.istore_n 3, 1) := by decide +kernel
theorem dX5_setCold_54 : decode cX5_setCold 54 = .ok (.aload_n 0, 1) := by decide +kernel
theorem dX5_setCold_55 : decode cX5_setCold 55 = .ok (.getfield 10, 3) := by decide +kernel
theorem dX5_setCold_58 : decode cX5_setCold 58 = .ok (.getfield 42, 3) := by decide +kernel
theorem dX5_setCold_61 : decode cX5_setCold 61 = .ok (.getfield 78, 3) := by decide +kernel
theorem dX5_setCold_64 : decode cX5_setCold 64 = .ok (.iload_n 1, 1) := by decide +kernel
theorem dX5_setCold_65 : decode cX5_setCold 65 = .ok (.iload_n 2, 1) := by decide +kernel
theorem dX5_setCold_66 : decode cX5_setCold 66 = .ok (.iastore, 1) := by decide +kernel
theorem dX5_setCold_67 : decode cX5_setCold 67 = .ok (.iload_n 3, 1) := by decide +kernel
theorem dX5_setCold_68 : decode cX5_setCold 68 = .ok (.ireturn, 1) := by decide +kernel
theorem dX5_cell_0 : decode cX5_cell 0 = .ok (.iload_n 1, 1) := by decide +kernel
theorem dX5_cell_1 : decode cX5_cell 1 = .ok (.iload_n 2, 1) := by decide +kernel
theorem dX5_cell_2 : decode cX5_cell 2 = .ok (.invokestatic 56, 3) := by decide +kernel
theorem dX5_cell_5 : decode cX5_cell 5 = .ok (.ifCond .eq 12, 3) := by decide +kernel
theorem dX5_cell_8 : decode cX5_cell 8 = .ok (.iload_n 3, 1) := by decide +kernel
theorem dX5_cell_9 : decode cX5_cell 9 = .ok (.iconst 0, 1) := by decide +kernel
theorem dX5_cell_10 : decode cX5_cell 10 = .ok (.iconst 5, 1) := by decide +kernel
theorem dX5_cell_11 : decode cX5_cell 11 = .ok (.invokestatic 23, 3) := by decide +kernel
theorem dX5_cell_14 : decode cX5_cell 14 = .ok (.ifCond .ne 13, 3) := by decide +kernel
theorem dX5_cell_17 : decode cX5_cell 17 = .ok (.new 60, 3) := by decide +kernel
theorem dX5_cell_20 : decode cX5_cell 20 = .ok (.dup, 1) := by decide +kernel
theorem dX5_cell_21 : decode cX5_cell 21 = .ok (.ldc 82, 2) := by decide +kernel
theorem dX5_cell_23 : decode cX5_cell 23 = .ok (.invokespecial 64, 3) := by decide +kernel
theorem dX5_cell_26 : decode cX5_cell 26 = .ok (.athrow, 1) := by decide +kernel
theorem dX5_cell_27 : decode cX5_cell 27 = .ok (.aload_n 0, 1) := by decide +kernel
theorem dX5_cell_28 : decode cX5_cell 28 = .ok (.getfield 10, 3) := by decide +kernel
theorem dX5_cell_31 : decode cX5_cell 31 = .ok (.iload_n 1, 1) := by decide +kernel
theorem dX5_cell_32 : decode cX5_cell 32 = .ok (.iload_n 2, 1) := by decide +kernel
theorem dX5_cell_33 : decode cX5_cell 33 = .ok (.invokestatic 46, 3) := by decide +kernel
theorem dX5_cell_36 : decode cX5_cell 36 = .ok (.iload_n 3, 1) := by decide +kernel
theorem dX5_cell_37 : decode cX5_cell 37 = .ok (.invokevirtual 84, 3) := by decide +kernel
theorem dX5_cell_40 : decode cX5_cell 40 = .ok (.ireturn, 1) := by decide +kernel
theorem dX5_addPost_0 : decode cX5_addPost 0 = .ok (.iload_n 1, 1) := by decide +kernel
theorem dX5_addPost_1 : decode cX5_addPost 1 = .ok (.iload_n 2, 1) := by decide +kernel
theorem dX5_addPost_2 : decode cX5_addPost 2 = .ok (.invokestatic 56, 3) := by decide +kernel
theorem dX5_addPost_5 : decode cX5_addPost 5 = .ok (.ifCond .ne 13, 3) := by decide +kernel
theorem dX5_addPost_8 : decode cX5_addPost 8 = .ok (.new 60, 3) := by decide +kernel
theorem dX5_addPost_11 : decode cX5_addPost 11 = .ok (.dup, 1) := by decide +kernel
theorem dX5_addPost_12 : decode cX5_addPost 12 = .ok (.ldc 62, 2) := by decide +kernel
theorem dX5_addPost_14 : decode cX5_addPost 14 = .ok (.invokespecial 64, 3) := by decide +kernel
theorem dX5_addPost_17 : decode cX5_addPost 17 = .ok (.athrow, 1) := by decide +kernel
theorem dX5_addPost_18 : decode cX5_addPost 18 = .ok (.iload_n 1, 1) := by decide +kernel
theorem dX5_addPost_19 : decode cX5_addPost 19 = .ok (.iload_n 2, 1) := by decide +kernel
theorem dX5_addPost_20 : decode cX5_addPost 20 = .ok (.invokestatic 46, 3) := by decide +kernel
theorem dX5_addPost_23 : decode cX5_addPost 23 = .ok (.istore_n 3, 1) := by decide +kernel
theorem dX5_addPost_24 : decode cX5_addPost 24 = .ok (.aload_n 0, 1) := by decide +kernel
theorem dX5_addPost_25 : decode cX5_addPost 25 = .ok (.getfield 10, 3) := by decide +kernel
theorem dX5_addPost_28 : decode cX5_addPost 28 = .ok (.iload_n 3, 1) := by decide +kernel
theorem dX5_addPost_29 : decode cX5_addPost 29 = .ok (.invokevirtual 87, 3) := by decide +kernel
theorem dX5_addPost_32 : decode cX5_addPost 32 = .ok (.iconst (-1), 1) := by decide +kernel
theorem dX5_addPost_33 : decode cX5_addPost 33 = .ok (.if_icmp .ne 15, 3) := by decide +kernel
theorem dX5_addPost_36 : decode cX5_addPost 36 = .ok (.aload_n 0, 1) := by decide +kernel
theorem dX5_addPost_37 : decode cX5_addPost 37 = .ok (.getfield 10, 3) := by decide +kernel
theorem dX5_addPost_40 : decode cX5_addPost 40 = .ok (.getfield 90, 3) := by decide +kernel
theorem dX5_addPost_43 : decode cX5_addPost 43 = .ok (.bipush 8, 2) := by decide +kernel
theorem dX5_addPost_45 : decode cX5_addPost 45 = .ok (.if_icmp .lt 13, 3) := by decide +kernel
theorem dX5_addPost_48 : decode cX5_addPost 48 = .ok (.new 37, 3) := by decide +kernel
theorem dX5_addPost_51 : decode cX5_addPost 51 = .ok (.dup, 1) := by decide +kernel
theorem dX5_addPost_52 : decode cX5_addPost 52 = .ok (.ldc 94, 2) := by decide +kernel
theorem dX5_addPost_54 : decode cX5_addPost 54 = .ok (.invokespecial 41, 3) := by decide +kernel
theorem dX5_addPost_57 : decode cX5_addPost 57 = .ok (.athrow, 1) := by decide +kernel
theorem dX5_addPost_58 : decode cX5_addPost 58 = .ok (.aload_n 0, 1) := by decide +kernel
theorem dX5_addPost_59 : decode cX5_addPost 59 = .ok (.getfield 10, 3) := by decide +kernel
theorem dX5_addPost_62 : decode cX5_addPost 62 = .ok (.iload_n 3, 1) := by decide +kernel
theorem dX5_addPost_63 : decode cX5_addPost 63 = .ok (.invokevirtual 96, 3) := by decide +kernel
theorem dX5_addPost_66 : decode cX5_addPost 66 = .ok (.ireturn, 1) := by decide +kernel
theorem dX5_addSleigh_0 : decode cX5_addSleigh 0 = .ok (.aload_n 0, 1) := by decide +kernel
theorem dX5_addSleigh_1 : decode cX5_addSleigh 1 = .ok (.getfield 10, 3) := by decide +kernel
theorem dX5_addSleigh_4 : decode cX5_addSleigh 4 = .ok (.iload_n 1, 1) := by decide +kernel
theorem dX5_addSleigh_5 : decode cX5_addSleigh 5 = .ok (.invokevirtual 99, 3) := by decide +kernel
theorem dX5_addSleigh_8 : decode cX5_addSleigh 8 = .ok (.ifCond .ne 13, 3) := by decide +kernel
theorem dX5_addSleigh_11 : decode cX5_addSleigh 11 = .ok (.new 60, 3) := by decide +kernel
theorem dX5_addSleigh_14 : decode cX5_addSleigh 14 = .ok (.dup, 1) := by decide +kernel
theorem dX5_addSleigh_15 : decode cX5_addSleigh 15 = .ok (.ldc 103, 2) := by decide +kernel
theorem dX5_addSleigh_17 : decode cX5_addSleigh 17 = .ok (.invokespecial 64, 3) := by decide +kernel
theorem dX5_addSleigh_20 : decode cX5_addSleigh 20 = .ok (.athrow, 1) := by decide +kernel
theorem dX5_addSleigh_21 : decode cX5_addSleigh 21 = .ok (.iload_n 2, 1) := by decide +kernel
theorem dX5_addSleigh_22 : decode cX5_addSleigh 22 = .ok (.iconst 1, 1) := by decide +kernel
theorem dX5_addSleigh_23 : decode cX5_addSleigh 23 = .ok (.bipush 6, 2) := by decide +kernel
theorem dX5_addSleigh_25 : decode cX5_addSleigh 25 = .ok (.invokestatic 23, 3) := by decide +kernel
theorem dX5_addSleigh_28 : decode cX5_addSleigh 28 = .ok (.ifCond .ne 13, 3) := by decide +kernel
theorem dX5_addSleigh_31 : decode cX5_addSleigh 31 = .ok (.new 27, 3) := by decide +kernel
theorem dX5_addSleigh_34 : decode cX5_addSleigh 34 = .ok (.dup, 1) := by decide +kernel
theorem dX5_addSleigh_35 : decode cX5_addSleigh 35 = .ok (.ldc 105, 2) := by decide +kernel
theorem dX5_addSleigh_37 : decode cX5_addSleigh 37 = .ok (.invokespecial 31, 3) := by decide +kernel
theorem dX5_addSleigh_40 : decode cX5_addSleigh 40 = .ok (.athrow, 1) := by decide +kernel
theorem dX5_addSleigh_41 : decode cX5_addSleigh 41 = .ok (.aload_n 0, 1) := by decide +kernel
theorem dX5_addSleigh_42 : decode cX5_addSleigh 42 = .ok (.getfield 10, 3) := by decide +kernel
theorem dX5_addSleigh_45 : decode cX5_addSleigh 45 = .ok (.getfield 107, 3) := by decide +kernel
theorem dX5_addSleigh_48 : decode cX5_addSleigh 48 = .ok (.iconst 5, 1) := by decide +kernel
theorem dX5_addSleigh_49 : decode cX5_addSleigh 49 = .ok (.if_icmp .lt 13, 3) := by decide +kernel
theorem dX5_addSleigh_52 : decode cX5_addSleigh 52 = .ok (.new 37, 3) := by decide +kernel
theorem dX5_addSleigh_55 : decode cX5_addSleigh 55 = .ok (.dup, 1) := by decide +kernel
theorem dX5_addSleigh_56 : decode cX5_addSleigh 56 = .ok (.ldc 110, 2) := by decide +kernel
theorem dX5_addSleigh_58 : decode cX5_addSleigh 58 = .ok (.invokespecial 41, 3) := by decide +kernel
theorem dX5_addSleigh_61 : decode cX5_addSleigh 61 = .ok (.athrow, 1) := by decide +kernel
theorem dX5_addSleigh_62 : decode cX5_addSleigh 62 = .ok (.aload_n 0, 1) := by decide +kernel
theorem dX5_addSleigh_63 : decode cX5_addSleigh 63 = .ok (.getfield 10, 3) := by decide +kernel
theorem dX5_addSleigh_66 : decode cX5_addSleigh 66 = .ok (.iload_n 1, 1) := by decide +kernel
theorem dX5_addSleigh_67 : decode cX5_addSleigh 67 = .ok (.iload_n 2, 1) := by decide +kernel
theorem dX5_addSleigh_68 : decode cX5_addSleigh 68 = .ok (.invokevirtual 112, 3) := by decide +kernel
theorem dX5_addSleigh_71 : decode cX5_addSleigh 71 = .ok (.ireturn, 1) := by decide +kernel
theorem dX5_addBag_0 : decode cX5_addBag 0 = .ok (.aload_n 0, 1) := by decide +kernel
theorem dX5_addBag_1 : decode cX5_addBag 1 = .ok (.getfield 10, 3) := by decide +kernel
theorem dX5_addBag_4 : decode cX5_addBag 4 = .ok (.iload_n 1, 1) := by decide +kernel
theorem dX5_addBag_5 : decode cX5_addBag 5 = .ok (.invokevirtual 99, 3) := by decide +kernel
theorem dX5_addBag_8 : decode cX5_addBag 8 = .ok (.ifCond .eq 14, 3) := by decide +kernel
theorem dX5_addBag_11 : decode cX5_addBag 11 = .ok (.aload_n 0, 1) := by decide +kernel
theorem dX5_addBag_12 : decode cX5_addBag 12 = .ok (.getfield 10, 3) := by decide +kernel
theorem dX5_addBag_15 : decode cX5_addBag 15 = .ok (.iload_n 2, 1) := by decide +kernel
theorem dX5_addBag_16 : decode cX5_addBag 16 = .ok (.invokevirtual 99, 3) := by decide +kernel
theorem dX5_addBag_19 : decode cX5_addBag 19 = .ok (.ifCond .ne 13, 3) := by decide +kernel
theorem dX5_addBag_22 : decode cX5_addBag 22 = .ok (.new 60, 3) := by decide +kernel
theorem dX5_addBag_25 : decode cX5_addBag 25 = .ok (.dup, 1) := by decide +kernel
theorem dX5_addBag_26 : decode cX5_addBag 26 = .ok (.ldc 103, 2) := by decide +kernel
theorem dX5_addBag_28 : decode cX5_addBag 28 = .ok (.invokespecial 64, 3) := by decide +kernel
theorem dX5_addBag_31 : decode cX5_addBag 31 = .ok (.athrow, 1) := by decide +kernel
theorem dX5_addBag_32 : decode cX5_addBag 32 = .ok (.iload_n 1, 1) := by decide +kernel
theorem dX5_addBag_33 : decode cX5_addBag 33 = .ok (.iload_n 2, 1) := by decide +kernel
theorem dX5_addBag_34 : decode cX5_addBag 34 = .ok (.if_icmp .eq 13, 3) := by decide +kernel
theorem dX5_addBag_37 : decode cX5_addBag 37 = .ok (.iload_n 3, 1) := by decide +kernel
theorem dX5_addBag_38 : decode cX5_addBag 38 = .ok (.iconst 1, 1) := by decide +kernel
theorem dX5_addBag_39 : decode cX5_addBag 39 = .ok (.bipush 30, 2) := by decide +kernel
theorem dX5_addBag_41 : decode cX5_addBag 41 = .ok (.invokestatic 23, 3) := by decide +kernel
theorem dX5_addBag_44 : decode cX5_addBag 44 = .ok (.ifCond .ne 13, 3) := by decide +kernel
theorem dX5_addBag_47 : decode cX5_addBag 47 = .ok (.new 27, 3) := by decide +kernel
theorem dX5_addBag_50 : decode cX5_addBag 50 = .ok (.dup, 1) := by decide +kernel
theorem dX5_addBag_51 : decode cX5_addBag 51 = .ok (.ldc 115, 2) := by decide +kernel
theorem dX5_addBag_53 : decode cX5_addBag 53 = .ok (.invokespecial 31, 3) := by decide +kernel
theorem dX5_addBag_56 : decode cX5_addBag 56 = .ok (.athrow, 1) := by decide +kernel
theorem dX5_addBag_57 : decode cX5_addBag 57 = .ok (.aload_n 0, 1) := by decide +kernel
theorem dX5_addBag_58 : decode cX5_addBag 58 = .ok (.getfield 10, 3) := by decide +kernel
theorem dX5_addBag_61 : decode cX5_addBag 61 = .ok (.getfield 117, 3) := by decide +kernel
theorem dX5_addBag_64 : decode cX5_addBag 64 = .ok (.bipush 40, 2) := by decide +kernel
theorem dX5_addBag_66 : decode cX5_addBag 66 = .ok (.if_icmp .lt 13, 3) := by decide +kernel
theorem dX5_addBag_69 : decode cX5_addBag 69 = .ok (.new 37, 3) := by decide +kernel
theorem dX5_addBag_72 : decode cX5_addBag 72 = .ok (.dup, 1) := by decide +kernel
theorem dX5_addBag_73 : decode cX5_addBag 73 = .ok (.ldc 120, 2) := by decide +kernel
theorem dX5_addBag_75 : decode cX5_addBag 75 = .ok (.invokespecial 41, 3) := by decide +kernel
theorem dX5_addBag_78 : decode cX5_addBag 78 = .ok (.athrow, 1) := by decide +kernel
theorem dX5_addBag_79 : decode cX5_addBag 79 = .ok (.aload_n 0, 1) := by decide +kernel
theorem dX5_addBag_80 : decode cX5_addBag 80 = .ok (.getfield 10, 3) := by decide +kernel
theorem dX5_addBag_83 : decode cX5_addBag 83 = .ok (.iload_n 1, 1) := by decide +kernel
theorem dX5_addBag_84 : decode cX5_addBag 84 = .ok (.iload_n 2, 1) := by decide +kernel
theorem dX5_addBag_85 : decode cX5_addBag 85 = .ok (.iload_n 3, 1) := by decide +kernel
theorem dX5_addBag_86 : decode cX5_addBag 86 = .ok (.invokevirtual 122, 3) := by decide +kernel
theorem dX5_addBag_89 : decode cX5_addBag 89 = .ok (.ireturn, 1) := by decide +kernel
theorem dX5_load_0 : decode cX5_load 0 = .ok (.aload_n 0, 1) := by decide +kernel
theorem dX5_load_1 : decode cX5_load 1 = .ok (.getfield 10, 3) := by decide +kernel
theorem dX5_load_4 : decode cX5_load 4 = .ok (.iload_n 1, 1) := by decide +kernel
theorem dX5_load_5 : decode cX5_load 5 = .ok (.invokevirtual 126, 3) := by decide +kernel
theorem dX5_load_8 : decode cX5_load 8 = .ok (.astore_n 3, 1) := by decide +kernel
theorem dX5_load_9 : decode cX5_load 9 = .ok (.aload_n 0, 1) := by decide +kernel
theorem dX5_load_10 : decode cX5_load 10 = .ok (.getfield 10, 3) := by decide +kernel
theorem dX5_load_13 : decode cX5_load 13 = .ok (.iload_n 2, 1) := by decide +kernel
theorem dX5_load_14 : decode cX5_load 14 = .ok (.invokevirtual 130, 3) := by decide +kernel
theorem dX5_load_17 : decode cX5_load 17 = .ok (.astore 4, 2) := by decide +kernel
theorem dX5_load_19 : decode cX5_load 19 = .ok (.aload_n 3, 1) := by decide +kernel
theorem dX5_load_20 : decode cX5_load 20 = .ok (.ifnull 8, 3) := by decide +kernel
theorem dX5_load_23 : decode cX5_load 23 = .ok (.aload 4, 2) := by decide +kernel
theorem dX5_load_25 : decode cX5_load 25 = .ok (.ifnonnull 13, 3) := by decide +kernel
theorem dX5_load_28 : decode cX5_load 28 = .ok (.new 60, 3) := by decide +kernel
theorem dX5_load_31 : decode cX5_load 31 = .ok (.dup, 1) := by decide +kernel
theorem dX5_load_32 : decode cX5_load 32 = .ok (.ldc 134, 2) := by decide +kernel
theorem dX5_load_34 : decode cX5_load 34 = .ok (.invokespecial 64, 3) := by decide +kernel
theorem dX5_load_37 : decode cX5_load 37 = .ok (.athrow, 1) := by decide +kernel
theorem dX5_load_38 : decode cX5_load 38 = .ok (.aload 4, 2) := by decide +kernel
theorem dX5_load_40 : decode cX5_load 40 = .ok (.getfield 136, 3) := by decide +kernel
theorem dX5_load_43 : decode cX5_load 43 = .ok (.ifCond .ne 22, 3) := by decide +kernel
theorem dX5_load_46 : decode cX5_load 46 = .ok (.aload_n 3, 1) := by decide +kernel
theorem dX5_load_47 : decode cX5_load 47 = .ok (.getfield 141, 3) := by decide +kernel
theorem dX5_load_50 : decode cX5_load 50 = .ok (.ifCond .ne 15, 3) := by decide +kernel
theorem dX5_load_53 : decode cX5_load 53 = .ok (.aload_n 3, 1) := by decide +kernel
theorem dX5_load_54 : decode cX5_load 54 = .ok (.getfield 144, 3) := by decide +kernel
theorem dX5_load_57 : decode cX5_load 57 = .ok (.aload 4, 2) := by decide +kernel
theorem dX5_load_59 : decode cX5_load 59 = .ok (.getfield 147, 3) := by decide +kernel
theorem dX5_load_62 : decode cX5_load 62 = .ok (.if_icmp .eq 13, 3) := by decide +kernel
theorem dX5_load_65 : decode cX5_load 65 = .ok (.new 37, 3) := by decide +kernel
theorem dX5_load_68 : decode cX5_load 68 = .ok (.dup, 1) := by decide +kernel
theorem dX5_load_69 : decode cX5_load 69 = .ok (.ldc 150, 2) := by decide +kernel
theorem dX5_load_71 : decode cX5_load 71 = .ok (.invokespecial 41, 3) := by decide +kernel
theorem dX5_load_74 : decode cX5_load 74 = .ok (.athrow, 1) := by decide +kernel
theorem dX5_load_75 : decode cX5_load 75 = .ok (.aload 4, 2) := by decide +kernel
theorem dX5_load_77 : decode cX5_load 77 = .ok (.iconst 1, 1) := by decide +kernel
theorem dX5_load_78 : decode cX5_load 78 = .ok (.putfield 136, 3) := by decide +kernel
theorem dX5_load_81 : decode cX5_load 81 = .ok (.aload 4, 2) := by decide +kernel
theorem dX5_load_83 : decode cX5_load 83 = .ok (.iload_n 1, 1) := by decide +kernel
theorem dX5_load_84 : decode cX5_load 84 = .ok (.putfield 147, 3) := by decide +kernel
theorem dX5_load_87 : decode cX5_load 87 = .ok (.aload_n 3, 1) := by decide +kernel
theorem dX5_load_88 : decode cX5_load 88 = .ok (.dup, 1) := by decide +kernel
theorem dX5_load_89 : decode cX5_load 89 = .ok (.getfield 152, 3) := by decide +kernel
theorem dX5_load_92 : decode cX5_load 92 = .ok (.aload 4, 2) := by decide +kernel
theorem dX5_load_94 : decode cX5_load 94 = .ok (.getfield 155, 3) := by decide +kernel
theorem dX5_load_97 : decode cX5_load 97 = .ok (.iadd, 1) := by decide +kernel
theorem dX5_load_98 : decode cX5_load 98 = .ok (.putfield 152, 3) := by decide +kernel
theorem dX5_load_101 : decode cX5_load 101 = .ok (.aload_n 3, 1) := by decide +kernel
theorem dX5_load_102 : decode cX5_load 102 = .ok (.invokevirtual 158, 3) := by decide +kernel
theorem dX5_load_105 : decode cX5_load 105 = .ok (.ireturn, 1) := by decide +kernel
theorem dX5_send_0 : decode cX5_send 0 = .ok (.aload_n 0, 1) := by decide +kernel
theorem dX5_send_1 : decode cX5_send 1 = .ok (.getfield 10, 3) := by decide +kernel
theorem dX5_send_4 : decode cX5_send 4 = .ok (.iload_n 1, 1) := by decide +kernel
theorem dX5_send_5 : decode cX5_send 5 = .ok (.invokevirtual 126, 3) := by decide +kernel
theorem dX5_send_8 : decode cX5_send 8 = .ok (.astore_n 3, 1) := by decide +kernel
theorem dX5_send_9 : decode cX5_send 9 = .ok (.aload_n 3, 1) := by decide +kernel
theorem dX5_send_10 : decode cX5_send 10 = .ok (.ifnull 14, 3) := by decide +kernel
theorem dX5_send_13 : decode cX5_send 13 = .ok (.aload_n 0, 1) := by decide +kernel
theorem dX5_send_14 : decode cX5_send 14 = .ok (.getfield 10, 3) := by decide +kernel
theorem dX5_send_17 : decode cX5_send 17 = .ok (.iload_n 2, 1) := by decide +kernel
theorem dX5_send_18 : decode cX5_send 18 = .ok (.invokevirtual 99, 3) := by decide +kernel
theorem dX5_send_21 : decode cX5_send 21 = .ok (.ifCond .ne 13, 3) := by decide +kernel
theorem dX5_send_24 : decode cX5_send 24 = .ok (.new 60, 3) := by decide +kernel
theorem dX5_send_27 : decode cX5_send 27 = .ok (.dup, 1) := by decide +kernel
theorem dX5_send_28 : decode cX5_send 28 = .ok (.ldc 161, 2) := by decide +kernel
theorem dX5_send_30 : decode cX5_send 30 = .ok (.invokespecial 64, 3) := by decide +kernel
theorem dX5_send_33 : decode cX5_send 33 = .ok (.athrow, 1) := by decide +kernel
theorem dX5_send_34 : decode cX5_send 34 = .ok (.aload_n 3, 1) := by decide +kernel
theorem dX5_send_35 : decode cX5_send 35 = .ok (.getfield 141, 3) := by decide +kernel
theorem dX5_send_38 : decode cX5_send 38 = .ok (.ifCond .ne 21, 3) := by decide +kernel
theorem dX5_send_41 : decode cX5_send 41 = .ok (.aload_n 3, 1) := by decide +kernel
theorem dX5_send_42 : decode cX5_send 42 = .ok (.getfield 144, 3) := by decide +kernel
theorem dX5_send_45 : decode cX5_send 45 = .ok (.iload_n 2, 1) := by decide +kernel
theorem dX5_send_46 : decode cX5_send 46 = .ok (.if_icmp .ne 13, 3) := by decide +kernel
theorem dX5_send_49 : decode cX5_send 49 = .ok (.new 27, 3) := by decide +kernel
theorem dX5_send_52 : decode cX5_send 52 = .ok (.dup, 1) := by decide +kernel
theorem dX5_send_53 : decode cX5_send 53 = .ok (.ldc 163, 2) := by decide +kernel
theorem dX5_send_55 : decode cX5_send 55 = .ok (.invokespecial 31, 3) := by decide +kernel
theorem dX5_send_58 : decode cX5_send 58 = .ok (.athrow, 1) := by decide +kernel
theorem dX5_send_59 : decode cX5_send 59 = .ok (.aload_n 3, 1) := by decide +kernel
theorem dX5_send_60 : decode cX5_send 60 = .ok (.getfield 141, 3) := by decide +kernel
theorem dX5_send_63 : decode cX5_send 63 = .ok (.ifCond .eq 13, 3) := by decide +kernel
theorem dX5_send_66 : decode cX5_send 66 = .ok (.new 37, 3) := by decide +kernel
theorem dX5_send_69 : decode cX5_send 69 = .ok (.dup, 1) := by decide +kernel
theorem dX5_send_70 : decode cX5_send 70 = .ok (.ldc 165, 2) := by decide +kernel
theorem dX5_send_72 : decode cX5_send 72 = .ok (.invokespecial 41, 3) := by decide +kernel
theorem dX5_send_75 : decode cX5_send 75 = .ok (.athrow, 1) := by decide +kernel
theorem dX5_send_76 : decode cX5_send 76 = .ok (.aload_n 3, 1) := by decide +kernel
theorem dX5_send_77 : decode cX5_send 77 = .ok (.iload_n 2, 1) := by decide +kernel
theorem dX5_send_78 : decode cX5_send 78 = .ok (.invokevirtual 167, 3) := by decide +kernel
theorem dX5_send_81 : decode cX5_send 81 = .ok (.aload_n 0, 1) := by decide +kernel
theorem dX5_send_82 : decode cX5_send 82 = .ok (.getfield 10, 3) := by decide +kernel
theorem dX5_send_85 : decode cX5_send 85 = .ok (.aload_n 3, 1) := by decide +kernel
theorem dX5_send_86 : decode cX5_send 86 = .ok (.invokevirtual 171, 3) := by decide +kernel
theorem dX5_send_89 : decode cX5_send 89 = .ok (.ireturn, 1) := by decide +kernel
theorem dX5_sleigh_0 : decode cX5_sleigh 0 = .ok (.aload_n 0, 1) := by decide +kernel
theorem dX5_sleigh_1 : decode cX5_sleigh 1 = .ok (.getfield 10, 3) := by decide +kernel
theorem dX5_sleigh_4 : decode cX5_sleigh 4 = .ok (.iload_n 1, 1) := by decide +kernel
theorem dX5_sleigh_5 : decode cX5_sleigh 5 = .ok (.invokevirtual 126, 3) := by decide +kernel
theorem dX5_sleigh_8 : decode cX5_sleigh 8 = .ok (.astore_n 3, 1) := by decide +kernel
theorem dX5_sleigh_9 : decode cX5_sleigh 9 = .ok (.aload_n 3, 1) := by decide +kernel
theorem dX5_sleigh_10 : decode cX5_sleigh 10 = .ok (.ifnull 13, 3) := by decide +kernel
theorem dX5_sleigh_13 : decode cX5_sleigh 13 = .ok (.iload_n 2, 1) := by decide +kernel
theorem dX5_sleigh_14 : decode cX5_sleigh 14 = .ok (.iconst 0, 1) := by decide +kernel
theorem dX5_sleigh_15 : decode cX5_sleigh 15 = .ok (.bipush 8, 2) := by decide +kernel
theorem dX5_sleigh_17 : decode cX5_sleigh 17 = .ok (.invokestatic 23, 3) := by decide +kernel
theorem dX5_sleigh_20 : decode cX5_sleigh 20 = .ok (.ifCond .ne 13, 3) := by decide +kernel
theorem dX5_sleigh_23 : decode cX5_sleigh 23 = .ok (.new 60, 3) := by decide +kernel
theorem dX5_sleigh_26 : decode cX5_sleigh 26 = .ok (.dup, 1) := by decide +kernel
theorem dX5_sleigh_27 : decode cX5_sleigh 27 = .ok (.ldc 175, 2) := by decide +kernel
theorem dX5_sleigh_29 : decode cX5_sleigh 29 = .ok (.invokespecial 64, 3) := by decide +kernel
theorem dX5_sleigh_32 : decode cX5_sleigh 32 = .ok (.athrow, 1) := by decide +kernel
theorem dX5_sleigh_33 : decode cX5_sleigh 33 = .ok (.aload_n 0, 1) := by decide +kernel
theorem dX5_sleigh_34 : decode cX5_sleigh 34 = .ok (.getfield 10, 3) := by decide +kernel
theorem dX5_sleigh_37 : decode cX5_sleigh 37 = .ok (.iload_n 1, 1) := by decide +kernel
theorem dX5_sleigh_38 : decode cX5_sleigh 38 = .ok (.iload_n 2, 1) := by decide +kernel
theorem dX5_sleigh_39 : decode cX5_sleigh 39 = .ok (.invokevirtual 177, 3) := by decide +kernel
theorem dX5_sleigh_42 : decode cX5_sleigh 42 = .ok (.ireturn, 1) := by decide +kernel
theorem dX5_bag_0 : decode cX5_bag 0 = .ok (.aload_n 0, 1) := by decide +kernel
theorem dX5_bag_1 : decode cX5_bag 1 = .ok (.getfield 10, 3) := by decide +kernel
theorem dX5_bag_4 : decode cX5_bag 4 = .ok (.iload_n 1, 1) := by decide +kernel
theorem dX5_bag_5 : decode cX5_bag 5 = .ok (.invokevirtual 130, 3) := by decide +kernel
theorem dX5_bag_8 : decode cX5_bag 8 = .ok (.astore_n 3, 1) := by decide +kernel
theorem dX5_bag_9 : decode cX5_bag 9 = .ok (.aload_n 3, 1) := by decide +kernel
theorem dX5_bag_10 : decode cX5_bag 10 = .ok (.ifnull 12, 3) := by decide +kernel
theorem dX5_bag_13 : decode cX5_bag 13 = .ok (.iload_n 2, 1) := by decide +kernel
theorem dX5_bag_14 : decode cX5_bag 14 = .ok (.iconst 0, 1) := by decide +kernel
theorem dX5_bag_15 : decode cX5_bag 15 = .ok (.iconst 4, 1) := by decide +kernel
theorem dX5_bag_16 : decode cX5_bag 16 = .ok (.invokestatic 23, 3) := by decide +kernel
theorem dX5_bag_19 : decode cX5_bag 19 = .ok (.ifCond .ne 13, 3) := by decide +kernel
theorem dX5_bag_22 : decode cX5_bag 22 = .ok (.new 60, 3) := by decide +kernel
theorem dX5_bag_25 : decode cX5_bag 25 = .ok (.dup, 1) := by decide +kernel
theorem dX5_bag_26 : decode cX5_bag 26 = .ok (.ldc 180, 2) := by decide +kernel
theorem dX5_bag_28 : decode cX5_bag 28 = .ok (.invokespecial 64, 3) := by decide +kernel
theorem dX5_bag_31 : decode cX5_bag 31 = .ok (.athrow, 1) := by decide +kernel
theorem dX5_bag_32 : decode cX5_bag 32 = .ok (.aload_n 3, 1) := by decide +kernel
theorem dX5_bag_33 : decode cX5_bag 33 = .ok (.iload_n 2, 1) := by decide +kernel
theorem dX5_bag_34 : decode cX5_bag 34 = .ok (.invokevirtual 182, 3) := by decide +kernel
theorem dX5_bag_37 : decode cX5_bag 37 = .ok (.ireturn, 1) := by decide +kernel
theorem dX5_pass_0 : decode cX5_pass 0 = .ok (.iload_n 1, 1) := by decide +kernel
theorem dX5_pass_1 : decode cX5_pass 1 = .ok (.iconst 1, 1) := by decide +kernel
theorem dX5_pass_2 : decode cX5_pass 2 = .ok (.sipush 200, 3) := by decide +kernel
theorem dX5_pass_5 : decode cX5_pass 5 = .ok (.invokestatic 23, 3) := by decide +kernel
theorem dX5_pass_8 : decode cX5_pass 8 = .ok (.ifCond .ne 13, 3) := by decide +kernel
theorem dX5_pass_11 : decode cX5_pass 11 = .ok (.new 27, 3) := by decide +kernel
theorem dX5_pass_14 : decode cX5_pass 14 = .ok (.dup, 1) := by decide +kernel
theorem dX5_pass_15 : decode cX5_pass 15 = .ok (.ldc 185, 2) := by decide +kernel
theorem dX5_pass_17 : decode cX5_pass 17 = .ok (.invokespecial 31, 3) := by decide +kernel
theorem dX5_pass_20 : decode cX5_pass 20 = .ok (.athrow, 1) := by decide +kernel
theorem dX5_pass_21 : decode cX5_pass 21 = .ok (.iconst 0, 1) := by decide +kernel
theorem dX5_pass_22 : decode cX5_pass 22 = .ok (.istore_n 2, 1) := by decide +kernel
theorem dX5_pass_23 : decode cX5_pass 23 = .ok (.iconst 0, 1) := by decide +kernel
theorem dX5_pass_24 : decode cX5_pass 24 = .ok (.istore_n 3, 1) := by decide +kernel
theorem dX5_pass_25 : decode cX5_pass 25 = .ok (.iload_n 3, 1) := by decide +kernel
theorem dX5_pass_26 : decode cX5_pass 26 = .ok (.iload_n 1, 1) := by decide +kernel
theorem dX5_pass_27 : decode cX5_pass 27 = .ok (.if_icmp .ge 19, 3) := by decide +kernel
theorem dX5_pass_30 : decode cX5_pass 30 = .ok (.iload_n 2, 1) := by decide +kernel
theorem dX5_pass_31 : decode cX5_pass 31 = .ok (.aload_n 0, 1) := by decide +kernel
theorem dX5_pass_32 : decode cX5_pass 32 = .ok (.getfield 10, 3) := by decide +kernel
theorem dX5_pass_35 : decode cX5_pass 35 = .ok (.invokevirtual 187, 3) := by decide +kernel
theorem dX5_pass_38 : decode cX5_pass 38 = .ok (.iadd, 1) := by decide +kernel
theorem dX5_pass_39 : decode cX5_pass 39 = .ok (.istore_n 2, 1) := by decide +kernel
theorem dX5_pass_40 : decode cX5_pass 40 = .ok (.iinc 3 1, 3) := by decide +kernel
theorem dX5_pass_43 : decode cX5_pass 43 = .ok (.goto (-18), 3) := by decide +kernel
theorem dX5_pass_46 : decode cX5_pass 46 = .ok (.iload_n 2, 1) := by decide +kernel
theorem dX5_pass_47 : decode cX5_pass 47 = .ok (.ireturn, 1) := by decide +kernel
theorem dX5_count_0 : decode cX5_count 0 = .ok (.iload_n 1, 1) := by decide +kernel
theorem dX5_count_1 : decode cX5_count 1 = .ok (.iconst 0, 1) := by decide +kernel
theorem dX5_count_2 : decode cX5_count 2 = .ok (.bipush 8, 2) := by decide +kernel
theorem dX5_count_4 : decode cX5_count 4 = .ok (.invokestatic 23, 3) := by decide +kernel
theorem dX5_count_7 : decode cX5_count 7 = .ok (.ifCond .ne 13, 3) := by decide +kernel
theorem dX5_count_10 : decode cX5_count 10 = .ok (.new 60, 3) := by decide +kernel
theorem dX5_count_13 : decode cX5_count 13 = .ok (.dup, 1) := by decide +kernel
theorem dX5_count_14 : decode cX5_count 14 = .ok (.ldc 190, 2) := by decide +kernel
theorem dX5_count_16 : decode cX5_count 16 = .ok (.invokespecial 64, 3) := by decide +kernel
theorem dX5_count_19 : decode cX5_count 19 = .ok (.athrow, 1) := by decide +kernel
theorem dX5_count_20 : decode cX5_count 20 = .ok (.aload_n 0, 1) := by decide +kernel
theorem dX5_count_21 : decode cX5_count 21 = .ok (.getfield 10, 3) := by decide +kernel
theorem dX5_count_24 : decode cX5_count 24 = .ok (.iload_n 1, 1) := by decide +kernel
theorem dX5_count_25 : decode cX5_count 25 = .ok (.invokevirtual 192, 3) := by decide +kernel
theorem dX5_count_28 : decode cX5_count 28 = .ok (.ireturn, 1) := by decide +kernel
theorem dX5_foresee_0 : decode cX5_foresee 0 = .ok (.aload_n 0, 1) := by decide +kernel
theorem dX5_foresee_1 : decode cX5_foresee 1 = .ok (.getfield 10, 3) := by decide +kernel
theorem dX5_foresee_4 : decode cX5_foresee 4 = .ok (.iload_n 1, 1) := by decide +kernel
theorem dX5_foresee_5 : decode cX5_foresee 5 = .ok (.invokevirtual 126, 3) := by decide +kernel
theorem dX5_foresee_8 : decode cX5_foresee 8 = .ok (.ifnonnull 13, 3) := by decide +kernel
theorem dX5_foresee_11 : decode cX5_foresee 11 = .ok (.new 60, 3) := by decide +kernel
theorem dX5_foresee_14 : decode cX5_foresee 14 = .ok (.dup, 1) := by decide +kernel
theorem dX5_foresee_15 : decode cX5_foresee 15 = .ok (.ldc 219, 2) := by decide +kernel
theorem dX5_foresee_17 : decode cX5_foresee 17 = .ok (.invokespecial 64, 3) := by decide +kernel
theorem dX5_foresee_20 : decode cX5_foresee 20 = .ok (.athrow, 1) := by decide +kernel
theorem dX5_foresee_21 : decode cX5_foresee 21 = .ok (.iload_n 2, 1) := by decide +kernel
theorem dX5_foresee_22 : decode cX5_foresee 22 = .ok (.iconst 1, 1) := by decide +kernel
theorem dX5_foresee_23 : decode cX5_foresee 23 = .ok (.sipush 200, 3) := by decide +kernel
theorem dX5_foresee_26 : decode cX5_foresee 26 = .ok (.invokestatic 23, 3) := by decide +kernel
theorem dX5_foresee_29 : decode cX5_foresee 29 = .ok (.ifCond .ne 13, 3) := by decide +kernel
theorem dX5_foresee_32 : decode cX5_foresee 32 = .ok (.new 27, 3) := by decide +kernel
theorem dX5_foresee_35 : decode cX5_foresee 35 = .ok (.dup, 1) := by decide +kernel
theorem dX5_foresee_36 : decode cX5_foresee 36 = .ok (.ldc 185, 2) := by decide +kernel
theorem dX5_foresee_38 : decode cX5_foresee 38 = .ok (.invokespecial 31, 3) := by decide +kernel
theorem dX5_foresee_41 : decode cX5_foresee 41 = .ok (.athrow, 1) := by decide +kernel
theorem dX5_foresee_42 : decode cX5_foresee 42 = .ok (.aload_n 0, 1) := by decide +kernel
theorem dX5_foresee_43 : decode cX5_foresee 43 = .ok (.getfield 16, 3) := by decide +kernel
theorem dX5_foresee_46 : decode cX5_foresee 46 = .ok (.aload_n 0, 1) := by decide +kernel
theorem dX5_foresee_47 : decode cX5_foresee 47 = .ok (.getfield 10, 3) := by decide +kernel
theorem dX5_foresee_50 : decode cX5_foresee 50 = .ok (.invokevirtual 221, 3) := by decide +kernel
theorem dX5_foresee_53 : decode cX5_foresee 53 = .ok (.aload_n 0, 1) := by decide +kernel
theorem dX5_foresee_54 : decode cX5_foresee 54 = .ok (.getfield 16, 3) := by decide +kernel
theorem dX5_foresee_57 : decode cX5_foresee 57 = .ok (.iload_n 1, 1) := by decide +kernel
theorem dX5_foresee_58 : decode cX5_foresee 58 = .ok (.invokevirtual 126, 3) := by decide +kernel
theorem dX5_foresee_61 : decode cX5_foresee 61 = .ok (.astore_n 3, 1) := by decide +kernel
theorem dX5_foresee_62 : decode cX5_foresee 62 = .ok (.iconst 0, 1) := by decide +kernel
theorem dX5_foresee_63 : decode cX5_foresee 63 = .ok (.istore 4, 2) := by decide +kernel
theorem dX5_foresee_65 : decode cX5_foresee 65 = .ok (.aload_n 3, 1) := by decide +kernel
theorem dX5_foresee_66 : decode cX5_foresee 66 = .ok (.ifnull 31, 3) := by decide +kernel
theorem dX5_foresee_69 : decode cX5_foresee 69 = .ok (.iload 4, 2) := by decide +kernel
theorem dX5_foresee_71 : decode cX5_foresee 71 = .ok (.iload_n 2, 1) := by decide +kernel
theorem dX5_foresee_72 : decode cX5_foresee 72 = .ok (.if_icmp .ge 25, 3) := by decide +kernel
theorem dX5_foresee_75 : decode cX5_foresee 75 = .ok (.aload_n 3, 1) := by decide +kernel
theorem dX5_foresee_76 : decode cX5_foresee 76 = .ok (.getfield 141, 3) := by decide +kernel
theorem dX5_foresee_79 : decode cX5_foresee 79 = .ok (.iconst 2, 1) := by decide +kernel
theorem dX5_foresee_80 : decode cX5_foresee 80 = .ok (.if_icmp .eq 17, 3) := by decide +kernel
theorem dX5_foresee_83 : decode cX5_foresee 83 = .ok (.aload_n 0, 1) := by decide +kernel
theorem dX5_foresee_84 : decode cX5_foresee 84 = .ok (.getfield 16, 3) := by decide +kernel
theorem dX5_foresee_87 : decode cX5_foresee 87 = .ok (.invokevirtual 187, 3) := by decide +kernel
theorem dX5_foresee_90 : decode cX5_foresee 90 = .ok (.pop, 1) := by decide +kernel
theorem dX5_foresee_91 : decode cX5_foresee 91 = .ok (.iinc 4 1, 3) := by decide +kernel
theorem dX5_foresee_94 : decode cX5_foresee 94 = .ok (.goto (-29), 3) := by decide +kernel
theorem dX5_foresee_97 : decode cX5_foresee 97 = .ok (.aload_n 3, 1) := by decide +kernel
theorem dX5_foresee_98 : decode cX5_foresee 98 = .ok (.ifnull 11, 3) := by decide +kernel
theorem dX5_foresee_101 : decode cX5_foresee 101 = .ok (.aload_n 3, 1) := by decide +kernel
theorem dX5_foresee_102 : decode cX5_foresee 102 = .ok (.getfield 141, 3) := by decide +kernel
theorem dX5_foresee_105 : decode cX5_foresee 105 = .ok (.iconst 2, 1) := by decide +kernel
theorem dX5_foresee_106 : decode cX5_foresee 106 = .ok (.if_icmp .ne 7, 3) := by decide +kernel
theorem dX5_foresee_109 : decode cX5_foresee 109 = .ok (.iconst (-1), 1) := by decide +kernel
theorem dX5_foresee_110 : decode cX5_foresee 110 = .ok (.goto 7, 3) := by decide +kernel
theorem dX5_foresee_113 : decode cX5_foresee 113 = .ok (.aload_n 3, 1) := by decide +kernel
theorem dX5_foresee_114 : decode cX5_foresee 114 = .ok (.getfield 225, 3) := by decide +kernel
theorem dX5_foresee_117 : decode cX5_foresee 117 = .ok (.ireturn, 1) := by decide +kernel
theorem dX5_isWithin_0 : decode cX5_isWithin 0 = .ok (.iload_n 0, 1) := by decide +kernel
theorem dX5_isWithin_1 : decode cX5_isWithin 1 = .ok (.iload_n 1, 1) := by decide +kernel
theorem dX5_isWithin_2 : decode cX5_isWithin 2 = .ok (.if_icmp .lt 12, 3) := by decide +kernel
theorem dX5_isWithin_5 : decode cX5_isWithin 5 = .ok (.iload_n 0, 1) := by decide +kernel
theorem dX5_isWithin_6 : decode cX5_isWithin 6 = .ok (.iload_n 2, 1) := by decide +kernel
theorem dX5_isWithin_7 : decode cX5_isWithin 7 = .ok (.if_icmp .gt 7, 3) := by decide +kernel
theorem dX5_isWithin_10 : decode cX5_isWithin 10 = .ok (.iconst 1, 1) := by decide +kernel
theorem dX5_isWithin_11 : decode cX5_isWithin 11 = .ok (.goto 4, 3) := by decide +kernel
theorem dX5_isWithin_14 : decode cX5_isWithin 14 = .ok (.iconst 0, 1) := by decide +kernel
theorem dX5_isWithin_15 : decode cX5_isWithin 15 = .ok (.ireturn, 1) := by decide +kernel
theorem dX5_isOnMap_0 : decode cX5_isOnMap 0 = .ok (.iload_n 0, 1) := by decide +kernel
theorem dX5_isOnMap_1 : decode cX5_isOnMap 1 = .ok (.iconst 0, 1) := by decide +kernel
theorem dX5_isOnMap_2 : decode cX5_isOnMap 2 = .ok (.bipush 15, 2) := by decide +kernel
theorem dX5_isOnMap_4 : decode cX5_isOnMap 4 = .ok (.invokestatic 23, 3) := by decide +kernel
theorem dX5_isOnMap_7 : decode cX5_isOnMap 7 = .ok (.ifCond .eq 17, 3) := by decide +kernel
theorem dX5_isOnMap_10 : decode cX5_isOnMap 10 = .ok (.iload_n 1, 1) := by decide +kernel
theorem dX5_isOnMap_11 : decode cX5_isOnMap 11 = .ok (.iconst 0, 1) := by decide +kernel
theorem dX5_isOnMap_12 : decode cX5_isOnMap 12 = .ok (.bipush 9, 2) := by decide +kernel
theorem dX5_isOnMap_14 : decode cX5_isOnMap 14 = .ok (.invokestatic 23, 3) := by decide +kernel
theorem dX5_isOnMap_17 : decode cX5_isOnMap 17 = .ok (.ifCond .eq 7, 3) := by decide +kernel
theorem dX5_isOnMap_20 : decode cX5_isOnMap 20 = .ok (.iconst 1, 1) := by decide +kernel
theorem dX5_isOnMap_21 : decode cX5_isOnMap 21 = .ok (.goto 4, 3) := by decide +kernel
theorem dX5_isOnMap_24 : decode cX5_isOnMap 24 = .ok (.iconst 0, 1) := by decide +kernel
theorem dX5_isOnMap_25 : decode cX5_isOnMap 25 = .ok (.ireturn, 1) := by decide +kernel
theorem dX5_isRectangle_0 : decode cX5_isRectangle 0 = .ok (.iload_n 0, 1) := by decide +kernel
theorem dX5_isRectangle_1 : decode cX5_isRectangle 1 = .ok (.iload_n 1, 1) := by decide +kernel
theorem dX5_isRectangle_2 : decode cX5_isRectangle 2 = .ok (.invokestatic 56, 3) := by decide +kernel
theorem dX5_isRectangle_5 : decode cX5_isRectangle 5 = .ok (.ifCond .eq 31, 3) := by decide +kernel
theorem dX5_isRectangle_8 : decode cX5_isRectangle 8 = .ok (.iload_n 2, 1) := by decide +kernel
theorem dX5_isRectangle_9 : decode cX5_isRectangle 9 = .ok (.iconst 1, 1) := by decide +kernel
theorem dX5_isRectangle_10 : decode cX5_isRectangle 10 = .ok (.bipush 16, 2) := by decide +kernel
theorem dX5_isRectangle_12 : decode cX5_isRectangle 12 = .ok (.iload_n 0, 1) := by decide +kernel
theorem dX5_isRectangle_13 : decode cX5_isRectangle 13 = .ok (.isub, 1) := by decide +kernel
theorem dX5_isRectangle_14 : decode cX5_isRectangle 14 = .ok (.invokestatic 23, 3) := by decide +kernel
theorem dX5_isRectangle_17 : decode cX5_isRectangle 17 = .ok (.ifCond .eq 19, 3) := by decide +kernel
theorem dX5_isRectangle_20 : decode cX5_isRectangle 20 = .ok (.iload_n 3, 1) := by decide +kernel
theorem dX5_isRectangle_21 : decode cX5_isRectangle 21 = .ok (.iconst 1, 1) := by decide +kernel
theorem dX5_isRectangle_22 : decode cX5_isRectangle 22 = .ok (.bipush 10, 2) := by decide +kernel
theorem dX5_isRectangle_24 : decode cX5_isRectangle 24 = .ok (.iload_n 1, 1) := by decide +kernel
theorem dX5_isRectangle_25 : decode cX5_isRectangle 25 = .ok (.isub, 1) := by decide +kernel
theorem dX5_isRectangle_26 : decode cX5_isRectangle 26 = .ok (.invokestatic 23, 3) := by decide +kernel
theorem dX5_isRectangle_29 : decode cX5_isRectangle 29 = .ok (.ifCond .eq 7, 3) := by decide +kernel
theorem dX5_isRectangle_32 : decode cX5_isRectangle 32 = .ok (.iconst 1, 1) := by decide +kernel
theorem dX5_isRectangle_33 : decode cX5_isRectangle 33 = .ok (.goto 4, 3) := by decide +kernel
theorem dX5_isRectangle_36 : decode cX5_isRectangle 36 = .ok (.iconst 0, 1) := by decide +kernel
theorem dX5_isRectangle_37 : decode cX5_isRectangle 37 = .ok (.ireturn, 1) := by decide +kernel
theorem dX5_isCell_0 : decode cX5_isCell 0 = .ok (.iload_n 0, 1) := by decide +kernel
theorem dX5_isCell_1 : decode cX5_isCell 1 = .ok (.ifCond .lt 14, 3) := by decide +kernel
theorem dX5_isCell_4 : decode cX5_isCell 4 = .ok (.iload_n 0, 1) := by decide +kernel
theorem dX5_isCell_5 : decode cX5_isCell 5 = .ok (.sipush 160, 3) := by decide +kernel
theorem dX5_isCell_8 : decode cX5_isCell 8 = .ok (.if_icmp .ge 7, 3) := by decide +kernel
theorem dX5_isCell_11 : decode cX5_isCell 11 = .ok (.iconst 1, 1) := by decide +kernel
theorem dX5_isCell_12 : decode cX5_isCell 12 = .ok (.goto 4, 3) := by decide +kernel
theorem dX5_isCell_15 : decode cX5_isCell 15 = .ok (.iconst 0, 1) := by decide +kernel
theorem dX5_isCell_16 : decode cX5_isCell 16 = .ok (.ireturn, 1) := by decide +kernel
theorem dX5_numberOf_0 : decode cX5_numberOf 0 = .ok (.iload_n 0, 1) := by decide +kernel
theorem dX5_numberOf_1 : decode cX5_numberOf 1 = .ok (.bipush 16, 2) := by decide +kernel
theorem dX5_numberOf_3 : decode cX5_numberOf 3 = .ok (.iload_n 1, 1) := by decide +kernel
theorem dX5_numberOf_4 : decode cX5_numberOf 4 = .ok (.imul, 1) := by decide +kernel
theorem dX5_numberOf_5 : decode cX5_numberOf 5 = .ok (.iadd, 1) := by decide +kernel
theorem dX5_numberOf_6 : decode cX5_numberOf 6 = .ok (.ireturn, 1) := by decide +kernel
theorem dX5_beside_0 : decode cX5_beside 0 = .ok (.iload_n 0, 1) := by decide +kernel
theorem dX5_beside_1 : decode cX5_beside 1 = .ok (.bipush 16, 2) := by decide +kernel
theorem dX5_beside_3 : decode cX5_beside 3 = .ok (.irem, 1) := by decide +kernel
theorem dX5_beside_4 : decode cX5_beside 4 = .ok (.istore_n 2, 1) := by decide +kernel
theorem dX5_beside_5 : decode cX5_beside 5 = .ok (.iload_n 1, 1) := by decide +kernel
theorem dX5_beside_6 : decode cX5_beside 6 = .ok (.tableswitch 67 0 2 #[26, 41, 53], 26) := by decide +kernel
theorem dX5_beside_32 : decode cX5_beside 32 = .ok (.iload_n 0, 1) := by decide +kernel
theorem dX5_beside_33 : decode cX5_beside 33 = .ok (.bipush 16, 2) := by decide +kernel
theorem dX5_beside_35 : decode cX5_beside 35 = .ok (.if_icmp .ge 7, 3) := by decide +kernel
theorem dX5_beside_38 : decode cX5_beside 38 = .ok (.iconst (-1), 1) := by decide +kernel
theorem dX5_beside_39 : decode cX5_beside 39 = .ok (.goto 7, 3) := by decide +kernel
theorem dX5_beside_42 : decode cX5_beside 42 = .ok (.iload_n 0, 1) := by decide +kernel
theorem dX5_beside_43 : decode cX5_beside 43 = .ok (.bipush 16, 2) := by decide +kernel
theorem dX5_beside_45 : decode cX5_beside 45 = .ok (.isub, 1) := by decide +kernel
theorem dX5_beside_46 : decode cX5_beside 46 = .ok (.ireturn, 1) := by decide +kernel
theorem dX5_beside_47 : decode cX5_beside 47 = .ok (.iload_n 2, 1) := by decide +kernel
theorem dX5_beside_48 : decode cX5_beside 48 = .ok (.ifCond .ne 7, 3) := by decide +kernel
theorem dX5_beside_51 : decode cX5_beside 51 = .ok (.iconst (-1), 1) := by decide +kernel
theorem dX5_beside_52 : decode cX5_beside 52 = .ok (.goto 6, 3) := by decide +kernel
theorem dX5_beside_55 : decode cX5_beside 55 = .ok (.iload_n 0, 1) := by decide +kernel
theorem dX5_beside_56 : decode cX5_beside 56 = .ok (.iconst 1, 1) := by decide +kernel
theorem dX5_beside_57 : decode cX5_beside 57 = .ok (.isub, 1) := by decide +kernel
theorem dX5_beside_58 : decode cX5_beside 58 = .ok (.ireturn, 1) := by decide +kernel
theorem dX5_beside_59 : decode cX5_beside 59 = .ok (.iload_n 2, 1) := by decide +kernel
theorem dX5_beside_60 : decode cX5_beside 60 = .ok (.bipush 15, 2) := by decide +kernel
theorem dX5_beside_62 : decode cX5_beside 62 = .ok (.if_icmp .ne 7, 3) := by decide +kernel
theorem dX5_beside_65 : decode cX5_beside 65 = .ok (.iconst (-1), 1) := by decide +kernel
theorem dX5_beside_66 : decode cX5_beside 66 = .ok (.goto 6, 3) := by decide +kernel
theorem dX5_beside_69 : decode cX5_beside 69 = .ok (.iload_n 0, 1) := by decide +kernel
theorem dX5_beside_70 : decode cX5_beside 70 = .ok (.iconst 1, 1) := by decide +kernel
theorem dX5_beside_71 : decode cX5_beside 71 = .ok (.iadd, 1) := by decide +kernel
theorem dX5_beside_72 : decode cX5_beside 72 = .ok (.ireturn, 1) := by decide +kernel
theorem dX5_beside_73 : decode cX5_beside 73 = .ok (.iload_n 0, 1) := by decide +kernel
theorem dX5_beside_74 : decode cX5_beside 74 = .ok (.bipush 16, 2) := by decide +kernel
theorem dX5_beside_76 : decode cX5_beside 76 = .ok (.iadd, 1) := by decide +kernel
theorem dX5_beside_77 : decode cX5_beside 77 = .ok (.sipush 160, 3) := by decide +kernel
theorem dX5_beside_80 : decode cX5_beside 80 = .ok (.if_icmp .ge 10, 3) := by decide +kernel
theorem dX5_beside_83 : decode cX5_beside 83 = .ok (.iload_n 0, 1) := by decide +kernel
theorem dX5_beside_84 : decode cX5_beside 84 = .ok (.bipush 16, 2) := by decide +kernel
theorem dX5_beside_86 : decode cX5_beside 86 = .ok (.iadd, 1) := by decide +kernel
theorem dX5_beside_87 : decode cX5_beside 87 = .ok (.goto 4, 3) := by decide +kernel
theorem dX5_beside_90 : decode cX5_beside 90 = .ok (.iconst (-1), 1) := by decide +kernel
theorem dX5_beside_91 : decode cX5_beside 91 = .ok (.ireturn, 1) := by decide +kernel
theorem dX5_thicknessFor_0 : decode cX5_thicknessFor 0 = .ok (.bipush 8, 2) := by decide +kernel
theorem dX5_thicknessFor_2 : decode cX5_thicknessFor 2 = .ok (.iload_n 0, 1) := by decide +kernel
theorem dX5_thicknessFor_3 : decode cX5_thicknessFor 3 = .ok (.bipush 12, 2) := by decide +kernel
theorem dX5_thicknessFor_5 : decode cX5_thicknessFor 5 = .ok (.idiv, 1) := by decide +kernel
theorem dX5_thicknessFor_6 : decode cX5_thicknessFor 6 = .ok (.iadd, 1) := by decide +kernel
theorem dX5_thicknessFor_7 : decode cX5_thicknessFor 7 = .ok (.ireturn, 1) := by decide +kernel
theorem dX5_drag_0 : decode cX5_drag 0 = .ok (.bipush 60, 2) := by decide +kernel
theorem dX5_drag_2 : decode cX5_drag 2 = .ok (.iload_n 1, 1) := by decide +kernel
theorem dX5_drag_3 : decode cX5_drag 3 = .ok (.imul, 1) := by decide +kernel
theorem dX5_drag_4 : decode cX5_drag 4 = .ok (.istore_n 3, 1) := by decide +kernel
theorem dX5_drag_5 : decode cX5_drag 5 = .ok (.iload_n 3, 1) := by decide +kernel
theorem dX5_drag_6 : decode cX5_drag 6 = .ok (.ifCond .le 9, 3) := by decide +kernel
theorem dX5_drag_9 : decode cX5_drag 9 = .ok (.iload_n 0, 1) := by decide +kernel
theorem dX5_drag_10 : decode cX5_drag 10 = .ok (.iload_n 3, 1) := by decide +kernel
theorem dX5_drag_11 : decode cX5_drag 11 = .ok (.idiv, 1) := by decide +kernel
theorem dX5_drag_12 : decode cX5_drag 12 = .ok (.goto 4, 3) := by decide +kernel
theorem dX5_drag_15 : decode cX5_drag 15 = .ok (.iconst 0, 1) := by decide +kernel
theorem dX5_drag_16 : decode cX5_drag 16 = .ok (.iload_n 2, 1) := by decide +kernel
theorem dX5_drag_17 : decode cX5_drag 17 = .ok (.bipush 50, 2) := by decide +kernel
theorem dX5_drag_19 : decode cX5_drag 19 = .ok (.if_icmp .lt 7, 3) := by decide +kernel
theorem dX5_drag_22 : decode cX5_drag 22 = .ok (.iconst 1, 1) := by decide +kernel
theorem dX5_drag_23 : decode cX5_drag 23 = .ok (.goto 4, 3) := by decide +kernel
theorem dX5_drag_26 : decode cX5_drag 26 = .ok (.iconst 0, 1) := by decide +kernel
theorem dX5_drag_27 : decode cX5_drag 27 = .ok (.iadd, 1) := by decide +kernel
theorem dX5_drag_28 : decode cX5_drag 28 = .ok (.ireturn, 1) := by decide +kernel
theorem dX6_init_0 : decode cX6_init 0 = .ok (.aload_n 0, 1) := by decide +kernel
theorem dX6_init_1 : decode cX6_init 1 = .ok (.invokespecial 1, 3) := by decide +kernel
theorem dX6_init_4 : decode cX6_init 4 = .ok (.aload_n 0, 1) := by decide +kernel
theorem dX6_init_5 : decode cX6_init 5 = .ok (.sipush 160, 3) := by decide +kernel
theorem dX6_init_8 : decode cX6_init 8 = .ok (.newarray .int, 2) := by decide +kernel
theorem dX6_init_10 : decode cX6_init 10 = .ok (.putfield 7, 3) := by decide +kernel
theorem dX6_init_13 : decode cX6_init 13 = .ok (.aload_n 0, 1) := by decide +kernel
theorem dX6_init_14 : decode cX6_init 14 = .ok (.sipush 160, 3) := by decide +kernel
theorem dX6_init_17 : decode cX6_init 17 = .ok (.newarray .int, 2) := by decide +kernel
theorem dX6_init_19 : decode cX6_init 19 = .ok (.putfield 13, 3) := by decide +kernel
theorem dX6_init_22 : decode cX6_init 22 = .ok (.aload_n 0, 1) := by decide +kernel
theorem dX6_init_23 : decode cX6_init 23 = .ok (.sipush 160, 3) := by decide +kernel
theorem dX6_init_26 : decode cX6_init 26 = .ok (.newarray .int, 2) := by decide +kernel
theorem dX6_init_28 : decode cX6_init 28 = .ok (.putfield 16, 3) := by decide +kernel
theorem dX6_init_31 : decode cX6_init 31 = .ok (.aload_n 0, 1) := by decide +kernel
theorem dX6_init_32 : decode cX6_init 32 = .ok (.sipush 160, 3) := by decide +kernel
theorem dX6_init_35 : decode cX6_init 35 = .ok (.newarray .boolean, 2) := by decide +kernel
theorem dX6_init_37 : decode cX6_init 37 = .ok (.putfield 19, 3) := by decide +kernel
theorem dX6_init_40 : decode cX6_init 40 = .ok (.aload_n 0, 1) := by decide +kernel
theorem dX6_init_41 : decode cX6_init 41 = .ok (.bipush 8, 2) := by decide +kernel
theorem dX6_init_43 : decode cX6_init 43 = .ok (.newarray .int, 2) := by decide +kernel
theorem dX6_init_45 : decode cX6_init 45 = .ok (.dup, 1) := by decide +kernel
theorem dX6_init_46 : decode cX6_init 46 = .ok (.iconst 0, 1) := by decide +kernel
theorem dX6_init_47 : decode cX6_init 47 = .ok (.iconst 5, 1) := by decide +kernel
theorem dX6_init_48 : decode cX6_init 48 = .ok (.iastore, 1) := by decide +kernel
theorem dX6_init_49 : decode cX6_init 49 = .ok (.dup, 1) := by decide +kernel
theorem dX6_init_50 : decode cX6_init 50 = .ok (.iconst 1, 1) := by decide +kernel
theorem dX6_init_51 : decode cX6_init 51 = .ok (.iconst 5, 1) := by decide +kernel
theorem dX6_init_52 : decode cX6_init 52 = .ok (.iastore, 1) := by decide +kernel
theorem dX6_init_53 : decode cX6_init 53 = .ok (.dup, 1) := by decide +kernel
theorem dX6_init_54 : decode cX6_init 54 = .ok (.iconst 2, 1) := by decide +kernel
theorem dX6_init_55 : decode cX6_init 55 = .ok (.iconst 5, 1) := by decide +kernel
theorem dX6_init_56 : decode cX6_init 56 = .ok (.iastore, 1) := by decide +kernel
theorem dX6_init_57 : decode cX6_init 57 = .ok (.dup, 1) := by decide +kernel
theorem dX6_init_58 : decode cX6_init 58 = .ok (.iconst 3, 1) := by decide +kernel
theorem dX6_init_59 : decode cX6_init 59 = .ok (.iconst 5, 1) := by decide +kernel
theorem dX6_init_60 : decode cX6_init 60 = .ok (.iastore, 1) := by decide +kernel
theorem dX6_init_61 : decode cX6_init 61 = .ok (.dup, 1) := by decide +kernel
theorem dX6_init_62 : decode cX6_init 62 = .ok (.iconst 4, 1) := by decide +kernel
theorem dX6_init_63 : decode cX6_init 63 = .ok (.iconst 5, 1) := by decide +kernel
theorem dX6_init_64 : decode cX6_init 64 = .ok (.iastore, 1) := by decide +kernel
theorem dX6_init_65 : decode cX6_init 65 = .ok (.dup, 1) := by decide +kernel
theorem dX6_init_66 : decode cX6_init 66 = .ok (.iconst 5, 1) := by decide +kernel
theorem dX6_init_67 : decode cX6_init 67 = .ok (.iconst 5, 1) := by decide +kernel
theorem dX6_init_68 : decode cX6_init 68 = .ok (.iastore, 1) := by decide +kernel
theorem dX6_init_69 : decode cX6_init 69 = .ok (.dup, 1) := by decide +kernel
theorem dX6_init_70 : decode cX6_init 70 = .ok (.bipush 6, 2) := by decide +kernel
theorem dX6_init_72 : decode cX6_init 72 = .ok (.iconst 5, 1) := by decide +kernel
theorem dX6_init_73 : decode cX6_init 73 = .ok (.iastore, 1) := by decide +kernel
theorem dX6_init_74 : decode cX6_init 74 = .ok (.dup, 1) := by decide +kernel
theorem dX6_init_75 : decode cX6_init 75 = .ok (.bipush 7, 2) := by decide +kernel
theorem dX6_init_77 : decode cX6_init 77 = .ok (.iconst 5, 1) := by decide +kernel
theorem dX6_init_78 : decode cX6_init 78 = .ok (.iastore, 1) := by decide +kernel
theorem dX6_init_79 : decode cX6_init 79 = .ok (.putfield 23, 3) := by decide +kernel
theorem dX6_init_82 : decode cX6_init 82 = .ok (.aload_n 0, 1) := by decide +kernel
theorem dX6_init_83 : decode cX6_init 83 = .ok (.iconst 0, 1) := by decide +kernel
theorem dX6_init_84 : decode cX6_init 84 = .ok (.newarray .int, 2) := by decide +kernel
theorem dX6_init_86 : decode cX6_init 86 = .ok (.putfield 26, 3) := by decide +kernel
theorem dX6_init_89 : decode cX6_init 89 = .ok (.aload_n 0, 1) := by decide +kernel
theorem dX6_init_90 : decode cX6_init 90 = .ok (.iconst 0, 1) := by decide +kernel
theorem dX6_init_91 : decode cX6_init 91 = .ok (.anewarray 29, 3) := by decide +kernel
theorem dX6_init_94 : decode cX6_init 94 = .ok (.putfield 31, 3) := by decide +kernel
theorem dX6_init_97 : decode cX6_init 97 = .ok (.aload_n 0, 1) := by decide +kernel
theorem dX6_init_98 : decode cX6_init 98 = .ok (.iconst 0, 1) := by decide +kernel
theorem dX6_init_99 : decode cX6_init 99 = .ok (.anewarray 35, 3) := by decide +kernel
theorem dX6_init_102 : decode cX6_init 102 = .ok (.putfield 36, 3) := by decide +kernel
theorem dX6_init_105 : decode cX6_init 105 = .ok (.aload_n 0, 1) := by decide +kernel
theorem dX6_init_106 : decode cX6_init 106 = .ok (.sipush 160, 3) := by decide +kernel
theorem dX6_init_109 : decode cX6_init 109 = .ok (.newarray .int, 2) := by decide +kernel
theorem dX6_init_111 : decode cX6_init 111 = .ok (.putfield 40, 3) := by decide +kernel
theorem dX6_init_114 : decode cX6_init 114 = .ok (.aload_n 0, 1) := by decide +kernel
theorem dX6_init_115 : decode cX6_init 115 = .ok (.sipush 160, 3) := by decide +kernel
theorem dX6_init_118 : decode cX6_init 118 = .ok (.newarray .boolean, 2) := by decide +kernel
theorem dX6_init_120 : decode cX6_init 120 = .ok (.putfield 43, 3) := by decide +kernel
theorem dX6_init_123 : decode cX6_init 123 = .ok (.iconst 0, 1) := by decide +kernel
theorem dX6_init_124 : decode cX6_init 124 = .ok (.istore_n 1, 1) := by decide +kernel
theorem dX6_init_125 : decode cX6_init 125 = .ok (.iload_n 1, 1) := by decide +kernel
theorem dX6_init_126 : decode cX6_init 126 = .ok (.sipush 160, 3) := by decide +kernel
theorem dX6_init_129 : decode cX6_init 129 = .ok (.if_icmp .ge 24, 3) := by decide +kernel
theorem dX6_init_132 : decode cX6_init 132 = .ok (.aload_n 0, 1) := by decide +kernel
theorem dX6_init_133 : decode cX6_init 133 = .ok (.getfield 7, 3) := by decide +kernel
theorem dX6_init_136 : decode cX6_init 136 = .ok (.iload_n 1, 1) := by decide +kernel
theorem dX6_init_137 : decode cX6_init 137 = .ok (.bipush 30, 2) := by decide +kernel
theorem dX6_init_139 : decode cX6_init 139 = .ok (.iastore, 1) := by decide +kernel
theorem dX6_init_140 : decode cX6_init 140 = .ok (.aload_n 0, 1) := by decide +kernel
theorem dX6_init_141 : decode cX6_init 141 = .ok (.getfield 13, 3) := by decide +kernel
theorem dX6_init_144 : decode cX6_init 144 = .ok (.iload_n 1, 1) := by decide +kernel
theorem dX6_init_145 : decode cX6_init 145 = .ok (.iconst 1, 1) := by decide +kernel
theorem dX6_init_146 : decode cX6_init 146 = .ok (.iastore, 1) := by decide +kernel
theorem dX6_init_147 : decode cX6_init 147 = .ok (.iinc 1 1, 3) := by decide +kernel
theorem dX6_init_150 : decode cX6_init 150 = .ok (.goto (-25), 3) := by decide +kernel
theorem dX6_init_153 : decode cX6_init 153 = .ok (.return_, 1) := by decide +kernel
theorem dX6_post_0 : decode cX6_post 0 = .ok (.aload_n 0, 1) := by decide +kernel
theorem dX6_post_1 : decode cX6_post 1 = .ok (.getfield 26, 3) := by decide +kernel
theorem dX6_post_4 : decode cX6_post 4 = .ok (.arraylength, 1) := by decide +kernel
theorem dX6_post_5 : decode cX6_post 5 = .ok (.iconst 1, 1) := by decide +kernel
theorem dX6_post_6 : decode cX6_post 6 = .ok (.iadd, 1) := by decide +kernel
theorem dX6_post_7 : decode cX6_post 7 = .ok (.newarray .int, 2) := by decide +kernel
theorem dX6_post_9 : decode cX6_post 9 = .ok (.astore_n 2, 1) := by decide +kernel
theorem dX6_post_10 : decode cX6_post 10 = .ok (.iconst 0, 1) := by decide +kernel
theorem dX6_post_11 : decode cX6_post 11 = .ok (.istore_n 3, 1) := by decide +kernel
theorem dX6_post_12 : decode cX6_post 12 = .ok (.iload_n 3, 1) := by decide +kernel
theorem dX6_post_13 : decode cX6_post 13 = .ok (.aload_n 0, 1) := by decide +kernel
theorem dX6_post_14 : decode cX6_post 14 = .ok (.getfield 26, 3) := by decide +kernel
theorem dX6_post_17 : decode cX6_post 17 = .ok (.arraylength, 1) := by decide +kernel
theorem dX6_post_18 : decode cX6_post 18 = .ok (.if_icmp .ge 18, 3) := by decide +kernel
theorem dX6_post_21 : decode cX6_post 21 = .ok (.aload_n 2, 1) := by decide +kernel
theorem dX6_post_22 : decode cX6_post 22 = .ok (.iload_n 3, 1) := by decide +kernel
theorem dX6_post_23 : decode cX6_post 23 = .ok (.aload_n 0, 1) := by decide +kernel
theorem dX6_post_24 : decode cX6_post 24 = .ok (.getfield 26, 3) := by decide +kernel
theorem dX6_post_27 : decode cX6_post 27 = .ok (.iload_n 3, 1) := by decide +kernel
theorem dX6_post_28 : decode cX6_post 28 = .ok (.iaload, 1) := by decide +kernel
theorem dX6_post_29 : decode cX6_post 29 = .ok (.iastore, 1) := by decide +kernel
theorem dX6_post_30 : decode cX6_post 30 = .ok (.iinc 3 1, 3) := by decide +kernel
theorem dX6_post_33 : decode cX6_post 33 = .ok (.goto (-21), 3) := by decide +kernel
theorem dX6_post_36 : decode cX6_post 36 = .ok (.aload_n 2, 1) := by decide +kernel
theorem dX6_post_37 : decode cX6_post 37 = .ok (.aload_n 0, 1) := by decide +kernel
theorem dX6_post_38 : decode cX6_post 38 = .ok (.getfield 26, 3) := by decide +kernel
theorem dX6_post_41 : decode cX6_post 41 = .ok (.arraylength, 1) := by decide +kernel
theorem dX6_post_42 : decode cX6_post 42 = .ok (.iload_n 1, 1) := by decide +kernel
theorem dX6_post_43 : decode cX6_post 43 = .ok (.iastore, 1) := by decide +kernel
theorem dX6_post_44 : decode cX6_post 44 = .ok (.aload_n 0, 1) := by decide +kernel
theorem dX6_post_45 : decode cX6_post 45 = .ok (.aload_n 2, 1) := by decide +kernel
theorem dX6_post_46 : decode cX6_post 46 = .ok (.putfield 26, 3) := by decide +kernel
theorem dX6_post_49 : decode cX6_post 49 = .ok (.aload_n 0, 1) := by decide +kernel
theorem dX6_post_50 : decode cX6_post 50 = .ok (.iload_n 1, 1) := by decide +kernel
theorem dX6_post_51 : decode cX6_post 51 = .ok (.iconst (-1), 1) := by decide +kernel
theorem dX6_post_52 : decode cX6_post 52 = .ok (.invokevirtual 63, 3) := by decide +kernel
theorem dX6_post_55 : decode cX6_post 55 = .ok (.return_, 1) := by decide +kernel
theorem dX6_ice_0 : decode cX6_ice 0 = .ok (.aload_n 0, 1) := by decide +kernel
theorem dX6_ice_1 : decode cX6_ice 1 = .ok (.getfield 7, 3) := by decide +kernel
theorem dX6_ice_4 : decode cX6_ice 4 = .ok (.iload_n 1, 1) := by decide +kernel
theorem dX6_ice_5 : decode cX6_ice 5 = .ok (.iload_n 2, 1) := by decide +kernel
theorem dX6_ice_6 : decode cX6_ice 6 = .ok (.iastore, 1) := by decide +kernel
theorem dX6_ice_7 : decode cX6_ice 7 = .ok (.aload_n 0, 1) := by decide +kernel
theorem dX6_ice_8 : decode cX6_ice 8 = .ok (.getfield 16, 3) := by decide +kernel
theorem dX6_ice_11 : decode cX6_ice 11 = .ok (.iload_n 1, 1) := by decide +kernel
theorem dX6_ice_12 : decode cX6_ice 12 = .ok (.iconst 0, 1) := by decide +kernel
theorem dX6_ice_13 : decode cX6_ice 13 = .ok (.iastore, 1) := by decide +kernel
theorem dX6_ice_14 : decode cX6_ice 14 = .ok (.aload_n 0, 1) := by decide +kernel
theorem dX6_ice_15 : decode cX6_ice 15 = .ok (.getfield 19, 3) := by decide +kernel
theorem dX6_ice_18 : decode cX6_ice 18 = .ok (.iload_n 1, 1) := by decide +kernel
theorem dX6_ice_19 : decode cX6_ice 19 = .ok (.iconst 0, 1) := by decide +kernel
theorem dX6_ice_20 : decode cX6_ice 20 = .ok (.bastore, 1) := by decide +kernel
theorem dX6_ice_21 : decode cX6_ice 21 = .ok (.return_, 1) := by decide +kernel
theorem dX6_postAt_0 : decode cX6_postAt 0 = .ok (.iconst 0, 1) := by decide +kernel
theorem dX6_postAt_1 : decode cX6_postAt 1 = .ok (.istore_n 2, 1) := by decide +kernel
theorem dX6_postAt_2 : decode cX6_postAt 2 = .ok (.iload_n 2, 1) := by decide +kernel
theorem dX6_postAt_3 : decode cX6_postAt 3 = .ok (.aload_n 0, 1) := by decide +kernel
theorem dX6_postAt_4 : decode cX6_postAt 4 = .ok (.getfield 26, 3) := by decide +kernel
theorem dX6_postAt_7 : decode cX6_postAt 7 = .ok (.arraylength, 1) := by decide +kernel
theorem dX6_postAt_8 : decode cX6_postAt 8 = .ok (.if_icmp .ge 21, 3) := by decide +kernel
theorem dX6_postAt_11 : decode cX6_postAt 11 = .ok (.aload_n 0, 1) := by decide +kernel
theorem dX6_postAt_12 : decode cX6_postAt 12 = .ok (.getfield 26, 3) := by decide +kernel
theorem dX6_postAt_15 : decode cX6_postAt 15 = .ok (.iload_n 2, 1) := by decide +kernel
theorem dX6_postAt_16 : decode cX6_postAt 16 = .ok (.iaload, 1) := by decide +kernel
theorem dX6_postAt_17 : decode cX6_postAt 17 = .ok (.iload_n 1, 1) := by decide +kernel
theorem dX6_postAt_18 : decode cX6_postAt 18 = .ok (.if_icmp .ne 5, 3) := by decide +kernel
theorem dX6_postAt_21 : decode cX6_postAt 21 = .ok (.iload_n 2, 1) := by decide +kernel
theorem dX6_postAt_22 : decode cX6_postAt 22 = .ok (.ireturn, 1) := by decide +kernel
theorem dX6_postAt_23 : decode cX6_postAt 23 = .ok (.iinc 2 1, 3) := by decide +kernel
theorem dX6_postAt_26 : decode cX6_postAt 26 = .ok (.goto (-24), 3) := by decide +kernel
theorem dX6_postAt_29 : decode cX6_postAt 29 = .ok (.iconst (-1), 1) := by decide +kernel
theorem dX6_postAt_30 : decode cX6_postAt 30 = .ok (.ireturn, 1) := by decide +kernel
theorem dX6_come_0 : decode cX6_come 0 = .ok (.aload_n 0, 1) := by decide +kernel
theorem dX6_come_1 : decode cX6_come 1 = .ok (.getfield 31, 3) := by decide +kernel
theorem dX6_come_4 : decode cX6_come 4 = .ok (.arraylength, 1) := by decide +kernel
theorem dX6_come_5 : decode cX6_come 5 = .ok (.iconst 1, 1) := by decide +kernel
theorem dX6_come_6 : decode cX6_come 6 = .ok (.iadd, 1) := by decide +kernel
theorem dX6_come_7 : decode cX6_come 7 = .ok (.anewarray 29, 3) := by decide +kernel
theorem dX6_come_10 : decode cX6_come 10 = .ok (.astore_n 3, 1) := by decide +kernel
theorem dX6_come_11 : decode cX6_come 11 = .ok (.iconst 0, 1) := by decide +kernel
theorem dX6_come_12 : decode cX6_come 12 = .ok (.istore 4, 2) := by decide +kernel
theorem dX6_come_14 : decode cX6_come 14 = .ok (.iload 4, 2) := by decide +kernel
theorem dX6_come_16 : decode cX6_come 16 = .ok (.aload_n 0, 1) := by decide +kernel
theorem dX6_come_17 : decode cX6_come 17 = .ok (.getfield 31, 3) := by decide +kernel
theorem dX6_come_20 : decode cX6_come 20 = .ok (.arraylength, 1) := by decide +kernel
theorem dX6_come_21 : decode cX6_come 21 = .ok (.if_icmp .ge 20, 3) := by decide +kernel
theorem dX6_come_24 : decode cX6_come 24 = .ok (.aload_n 3, 1) := by decide +kernel
theorem dX6_come_25 : decode cX6_come 25 = .ok (.iload 4, 2) := by decide +kernel
theorem dX6_come_27 : decode cX6_come 27 = .ok (.aload_n 0, 1) := by decide +kernel
theorem dX6_come_28 : decode cX6_come 28 = .ok (.getfield 31, 3) := by decide +kernel
theorem dX6_come_31 : decode cX6_come 31 = .ok (.iload 4, 2) := by decide +kernel
theorem dX6_come_33 : decode cX6_come 33 = .ok (.aaload, 1) := by decide +kernel
theorem dX6_come_34 : decode cX6_come 34 = .ok (.aastore, 1) := by decide +kernel
theorem dX6_come_35 : decode cX6_come 35 = .ok (.iinc 4 1, 3) := by decide +kernel
theorem dX6_come_38 : decode cX6_come 38 = .ok (.goto (-24), 3) := by decide +kernel
theorem dX6_come_41 : decode cX6_come 41 = .ok (.new 29, 3) := by decide +kernel
theorem dX6_come_44 : decode cX6_come 44 = .ok (.dup, 1) := by decide +kernel
theorem dX6_come_45 : decode cX6_come 45 = .ok (.invokespecial 67, 3) := by decide +kernel
theorem dX6_come_48 : decode cX6_come 48 = .ok (.astore 4, 2) := by decide +kernel
theorem dX6_come_50 : decode cX6_come 50 = .ok (.aload 4, 2) := by decide +kernel
theorem dX6_come_52 : decode cX6_come 52 = .ok (.iload_n 2, 1) := by decide +kernel
theorem dX6_come_53 : decode cX6_come 53 = .ok (.putfield 68, 3) := by decide +kernel
theorem dX6_come_56 : decode cX6_come 56 = .ok (.aload 4, 2) := by decide +kernel
theorem dX6_come_58 : decode cX6_come 58 = .ok (.aload_n 0, 1) := by decide +kernel
theorem dX6_come_59 : decode cX6_come 59 = .ok (.getfield 26, 3) := by decide +kernel
theorem dX6_come_62 : decode cX6_come 62 = .ok (.iload_n 1, 1) := by decide +kernel
theorem dX6_come_63 : decode cX6_come 63 = .ok (.iaload, 1) := by decide +kernel
theorem dX6_come_64 : decode cX6_come 64 = .ok (.putfield 71, 3) := by decide +kernel
theorem dX6_come_67 : decode cX6_come 67 = .ok (.aload 4, 2) := by decide +kernel
theorem dX6_come_69 : decode cX6_come 69 = .ok (.iload_n 1, 1) := by decide +kernel
theorem dX6_come_70 : decode cX6_come 70 = .ok (.putfield 74, 3) := by decide +kernel
theorem dX6_come_73 : decode cX6_come 73 = .ok (.aload_n 3, 1) := by decide +kernel
theorem dX6_come_74 : decode cX6_come 74 = .ok (.aload_n 0, 1) := by decide +kernel
theorem dX6_come_75 : decode cX6_come 75 = .ok (.getfield 31, 3) := by decide +kernel
theorem dX6_come_78 : decode cX6_come 78 = .ok (.arraylength, 1) := by decide +kernel
theorem dX6_come_79 : decode cX6_come 79 = .ok (.aload 4, 2) := by decide +kernel
theorem dX6_come_81 : decode cX6_come 81 = .ok (.aastore, 1) := by decide +kernel
theorem dX6_come_82 : decode cX6_come 82 = .ok (.aload_n 0, 1) := by decide +kernel
theorem dX6_come_83 : decode cX6_come 83 = .ok (.aload_n 3, 1) := by decide +kernel
theorem dX6_come_84 : decode cX6_come 84 = .ok (.putfield 31, 3) := by decide +kernel
theorem dX6_come_87 : decode cX6_come 87 = .ok (.return_, 1) := by decide +kernel
theorem dX6_bag_0 : decode cX6_bag 0 = .ok (.aload_n 0, 1) := by decide +kernel
theorem dX6_bag_1 : decode cX6_bag 1 = .ok (.getfield 36, 3) := by decide +kernel
theorem dX6_bag_4 : decode cX6_bag 4 = .ok (.arraylength, 1) := by decide +kernel
theorem dX6_bag_5 : decode cX6_bag 5 = .ok (.iconst 1, 1) := by decide +kernel
theorem dX6_bag_6 : decode cX6_bag 6 = .ok (.iadd, 1) := by decide +kernel
theorem dX6_bag_7 : decode cX6_bag 7 = .ok (.anewarray 35, 3) := by decide +kernel
theorem dX6_bag_10 : decode cX6_bag 10 = .ok (.astore 4, 2) := by decide +kernel
theorem dX6_bag_12 : decode cX6_bag 12 = .ok (.iconst 0, 1) := by decide +kernel
theorem dX6_bag_13 : decode cX6_bag 13 = .ok (.istore 5, 2) := by decide +kernel
theorem dX6_bag_15 : decode cX6_bag 15 = .ok (.iload 5, 2) := by decide +kernel
theorem dX6_bag_17 : decode cX6_bag 17 = .ok (.aload_n 0, 1) := by decide +kernel
theorem dX6_bag_18 : decode cX6_bag 18 = .ok (.getfield 36, 3) := by decide +kernel
theorem dX6_bag_21 : decode cX6_bag 21 = .ok (.arraylength, 1) := by decide +kernel
theorem dX6_bag_22 : decode cX6_bag 22 = .ok (.if_icmp .ge 21, 3) := by decide +kernel
theorem dX6_bag_25 : decode cX6_bag 25 = .ok (.aload 4, 2) := by decide +kernel
theorem dX6_bag_27 : decode cX6_bag 27 = .ok (.iload 5, 2) := by decide +kernel
theorem dX6_bag_29 : decode cX6_bag 29 = .ok (.aload_n 0, 1) := by decide +kernel
theorem dX6_bag_30 : decode cX6_bag 30 = .ok (.getfield 36, 3) := by decide +kernel
theorem dX6_bag_33 : decode cX6_bag 33 = .ok (.iload 5, 2) := by decide +kernel
theorem dX6_bag_35 : decode cX6_bag 35 = .ok (.aaload, 1) := by decide +kernel
theorem dX6_bag_36 : decode cX6_bag 36 = .ok (.aastore, 1) := by decide +kernel
theorem dX6_bag_37 : decode cX6_bag 37 = .ok (.iinc 5 1, 3) := by decide +kernel
theorem dX6_bag_40 : decode cX6_bag 40 = .ok (.goto (-25), 3) := by decide +kernel
theorem dX6_bag_43 : decode cX6_bag 43 = .ok (.aload 4, 2) := by decide +kernel
theorem dX6_bag_45 : decode cX6_bag 45 = .ok (.aload_n 0, 1) := by decide +kernel
theorem dX6_bag_46 : decode cX6_bag 46 = .ok (.getfield 36, 3) := by decide +kernel
theorem dX6_bag_49 : decode cX6_bag 49 = .ok (.arraylength, 1) := by decide +kernel
theorem dX6_bag_50 : decode cX6_bag 50 = .ok (.iconst 5, 1) := by decide +kernel
theorem dX6_bag_51 : decode cX6_bag 51 = .ok (.newarray .int, 2) := by decide +kernel
theorem dX6_bag_53 : decode cX6_bag 53 = .ok (.dup, 1) := by decide +kernel
theorem dX6_bag_54 : decode cX6_bag 54 = .ok (.iconst 0, 1) := by decide +kernel
theorem dX6_bag_55 : decode cX6_bag 55 = .ok (.iload_n 3, 1) := by decide +kernel
theorem dX6_bag_56 : decode cX6_bag 56 = .ok (.iastore, 1) := by decide +kernel
theorem dX6_bag_57 : decode cX6_bag 57 = .ok (.dup, 1) := by decide +kernel
theorem dX6_bag_58 : decode cX6_bag 58 = .ok (.iconst 1, 1) := by decide +kernel
theorem dX6_bag_59 : decode cX6_bag 59 = .ok (.iload_n 2, 1) := by decide +kernel
theorem dX6_bag_60 : decode cX6_bag 60 = .ok (.iastore, 1) := by decide +kernel
theorem dX6_bag_61 : decode cX6_bag 61 = .ok (.dup, 1) := by decide +kernel
theorem dX6_bag_62 : decode cX6_bag 62 = .ok (.iconst 2, 1) := by decide +kernel
theorem dX6_bag_63 : decode cX6_bag 63 = .ok (.iconst 0, 1) := by decide +kernel
theorem dX6_bag_64 : decode cX6_bag 64 = .ok (.iastore, 1) := by decide +kernel
theorem dX6_bag_65 : decode cX6_bag 65 = .ok (.dup, 1) := by decide +kernel
theorem dX6_bag_66 : decode cX6_bag 66 = .ok (.iconst 3, 1) := by decide +kernel
theorem dX6_bag_67 : decode cX6_bag 67 = .ok (.iload_n 1, 1) := by decide +kernel
theorem dX6_bag_68 : decode cX6_bag 68 = .ok (.iastore, 1) := by decide +kernel
theorem dX6_bag_69 : decode cX6_bag 69 = .ok (.dup, 1) := by decide +kernel
theorem dX6_bag_70 : decode cX6_bag 70 = .ok (.iconst 4, 1) := by decide +kernel
theorem dX6_bag_71 : decode cX6_bag 71 = .ok (.iconst (-1), 1) := by decide +kernel
theorem dX6_bag_72 : decode cX6_bag 72 = .ok (.iastore, 1) := by decide +kernel
theorem dX6_bag_73 : decode cX6_bag 73 = .ok (.aastore, 1) := by decide +kernel
theorem dX6_bag_74 : decode cX6_bag 74 = .ok (.aload_n 0, 1) := by decide +kernel
theorem dX6_bag_75 : decode cX6_bag 75 = .ok (.aload 4, 2) := by decide +kernel
theorem dX6_bag_77 : decode cX6_bag 77 = .ok (.putfield 36, 3) := by decide +kernel
theorem dX6_bag_80 : decode cX6_bag 80 = .ok (.return_, 1) := by decide +kernel
theorem dX6_weight_0 : decode cX6_weight 0 = .ok (.bipush 40, 2) := by decide +kernel
theorem dX6_weight_2 : decode cX6_weight 2 = .ok (.bipush 30, 2) := by decide +kernel
theorem dX6_weight_4 : decode cX6_weight 4 = .ok (.aload_n 0, 1) := by decide +kernel
theorem dX6_weight_5 : decode cX6_weight 5 = .ok (.getfield 31, 3) := by decide +kernel
theorem dX6_weight_8 : decode cX6_weight 8 = .ok (.iload_n 1, 1) := by decide +kernel
theorem dX6_weight_9 : decode cX6_weight 9 = .ok (.aaload, 1) := by decide +kernel
theorem dX6_weight_10 : decode cX6_weight 10 = .ok (.getfield 68, 3) := by decide +kernel
theorem dX6_weight_13 : decode cX6_weight 13 = .ok (.imul, 1) := by decide +kernel
theorem dX6_weight_14 : decode cX6_weight 14 = .ok (.iadd, 1) := by decide +kernel
theorem dX6_weight_15 : decode cX6_weight 15 = .ok (.istore_n 2, 1) := by decide +kernel
theorem dX6_weight_16 : decode cX6_weight 16 = .ok (.aload_n 0, 1) := by decide +kernel
theorem dX6_weight_17 : decode cX6_weight 17 = .ok (.getfield 36, 3) := by decide +kernel
theorem dX6_weight_20 : decode cX6_weight 20 = .ok (.astore_n 3, 1) := by decide +kernel
theorem dX6_weight_21 : decode cX6_weight 21 = .ok (.aload_n 3, 1) := by decide +kernel
theorem dX6_weight_22 : decode cX6_weight 22 = .ok (.arraylength, 1) := by decide +kernel
theorem dX6_weight_23 : decode cX6_weight 23 = .ok (.istore 4, 2) := by decide +kernel
theorem dX6_weight_25 : decode cX6_weight 25 = .ok (.iconst 0, 1) := by decide +kernel
theorem dX6_weight_26 : decode cX6_weight 26 = .ok (.istore 5, 2) := by decide +kernel
theorem dX6_weight_28 : decode cX6_weight 28 = .ok (.iload 5, 2) := by decide +kernel
theorem dX6_weight_30 : decode cX6_weight 30 = .ok (.iload 4, 2) := by decide +kernel
theorem dX6_weight_32 : decode cX6_weight 32 = .ok (.if_icmp .ge 38, 3) := by decide +kernel
theorem dX6_weight_35 : decode cX6_weight 35 = .ok (.aload_n 3, 1) := by decide +kernel
theorem dX6_weight_36 : decode cX6_weight 36 = .ok (.iload 5, 2) := by decide +kernel
theorem dX6_weight_38 : decode cX6_weight 38 = .ok (.aaload, 1) := by decide +kernel
theorem dX6_weight_39 : decode cX6_weight 39 = .ok (.astore 6, 2) := by decide +kernel
theorem dX6_weight_41 : decode cX6_weight 41 = .ok (.aload 6, 2) := by decide +kernel
theorem dX6_weight_43 : decode cX6_weight 43 = .ok (.iconst 2, 1) := by decide +kernel
theorem dX6_weight_44 : decode cX6_weight 44 = .ok (.iaload, 1) := by decide +kernel
theorem dX6_weight_45 : decode cX6_weight 45 = .ok (.iconst 1, 1) := by decide +kernel
theorem dX6_weight_46 : decode cX6_weight 46 = .ok (.if_icmp .ne 18, 3) := by decide +kernel
theorem dX6_weight_49 : decode cX6_weight 49 = .ok (.aload 6, 2) := by decide +kernel
theorem dX6_weight_51 : decode cX6_weight 51 = .ok (.iconst 3, 1) := by decide +kernel
theorem dX6_weight_52 : decode cX6_weight 52 = .ok (.iaload, 1) := by decide +kernel
theorem dX6_weight_53 : decode cX6_weight 53 = .ok (.iload_n 1, 1) := by decide +kernel
theorem dX6_weight_54 : decode cX6_weight 54 = .ok (.if_icmp .ne 10, 3) := by decide +kernel
theorem dX6_weight_57 : decode cX6_weight 57 = .ok (.iload_n 2, 1) := by decide +kernel
theorem dX6_weight_58 : decode cX6_weight 58 = .ok (.aload 6, 2) := by decide +kernel
theorem dX6_weight_60 : decode cX6_weight 60 = .ok (.iconst 0, 1) := by decide +kernel
theorem dX6_weight_61 : decode cX6_weight 61 = .ok (.iaload, 1) := by decide +kernel
theorem dX6_weight_62 : decode cX6_weight 62 = .ok (.iadd, 1) := by decide +kernel
theorem dX6_weight_63 : decode cX6_weight 63 = .ok (.istore_n 2, 1) := by decide +kernel
theorem dX6_weight_64 : decode cX6_weight 64 = .ok (.iinc 5 1, 3) := by decide +kernel
theorem dX6_weight_67 : decode cX6_weight 67 = .ok (.goto (-39), 3) := by decide +kernel
theorem dX6_weight_70 : decode cX6_weight 70 = .ok (.iload_n 2, 1) := by decide +kernel
theorem dX6_weight_71 : decode cX6_weight 71 = .ok (.ireturn, 1) := by decide +kernel
theorem dX6_needs_0 : decode cX6_needs 0 = .ok (.aload_n 0, 1) := by decide +kernel
theorem dX6_needs_1 : decode cX6_needs 1 = .ok (.getfield 19, 3) := by decide +kernel
theorem dX6_needs_4 : decode cX6_needs 4 = .ok (.iload_n 1, 1) := by decide +kernel
theorem dX6_needs_5 : decode cX6_needs 5 = .ok (.baload, 1) := by decide +kernel
theorem dX6_needs_6 : decode cX6_needs 6 = .ok (.ifCond .eq 15, 3) := by decide +kernel
theorem dX6_needs_9 : decode cX6_needs 9 = .ok (.bipush 16, 2) := by decide +kernel
theorem dX6_needs_11 : decode cX6_needs 11 = .ok (.iload_n 2, 1) := by decide +kernel
theorem dX6_needs_12 : decode cX6_needs 12 = .ok (.bipush 12, 2) := by decide +kernel
theorem dX6_needs_14 : decode cX6_needs 14 = .ok (.idiv, 1) := by decide +kernel
theorem dX6_needs_15 : decode cX6_needs 15 = .ok (.iconst 2, 1) := by decide +kernel
theorem dX6_needs_16 : decode cX6_needs 16 = .ok (.imul, 1) := by decide +kernel
theorem dX6_needs_17 : decode cX6_needs 17 = .ok (.iadd, 1) := by decide +kernel
theorem dX6_needs_18 : decode cX6_needs 18 = .ok (.goto 10, 3) := by decide +kernel
theorem dX6_needs_21 : decode cX6_needs 21 = .ok (.bipush 8, 2) := by decide +kernel
theorem dX6_needs_23 : decode cX6_needs 23 = .ok (.iload_n 2, 1) := by decide +kernel
theorem dX6_needs_24 : decode cX6_needs 24 = .ok (.bipush 12, 2) := by decide +kernel
theorem dX6_needs_26 : decode cX6_needs 26 = .ok (.idiv, 1) := by decide +kernel
theorem dX6_needs_27 : decode cX6_needs 27 = .ok (.iadd, 1) := by decide +kernel
theorem dX6_needs_28 : decode cX6_needs 28 = .ok (.ireturn, 1) := by decide +kernel
theorem dX6_bears_0 : decode cX6_bears 0 = .ok (.aload_n 0, 1) := by decide +kernel
theorem dX6_bears_1 : decode cX6_bears 1 = .ok (.getfield 7, 3) := by decide +kernel
theorem dX6_bears_4 : decode cX6_bears 4 = .ok (.iload_n 1, 1) := by decide +kernel
theorem dX6_bears_5 : decode cX6_bears 5 = .ok (.iaload, 1) := by decide +kernel
theorem dX6_bears_6 : decode cX6_bears 6 = .ok (.ifCond .lt 18, 3) := by decide +kernel
theorem dX6_bears_9 : decode cX6_bears 9 = .ok (.aload_n 0, 1) := by decide +kernel
theorem dX6_bears_10 : decode cX6_bears 10 = .ok (.getfield 7, 3) := by decide +kernel
theorem dX6_bears_13 : decode cX6_bears 13 = .ok (.iload_n 1, 1) := by decide +kernel
theorem dX6_bears_14 : decode cX6_bears 14 = .ok (.iaload, 1) := by decide +kernel
theorem dX6_bears_15 : decode cX6_bears 15 = .ok (.aload_n 0, 1) := by decide +kernel
theorem dX6_bears_16 : decode cX6_bears 16 = .ok (.iload_n 1, 1) := by decide +kernel
theorem dX6_bears_17 : decode cX6_bears 17 = .ok (.iload_n 2, 1) := by decide +kernel
theorem dX6_bears_18 : decode cX6_bears 18 = .ok (.invokevirtual 77, 3) := by decide +kernel
theorem dX6_bears_21 : decode cX6_bears 21 = .ok (.if_icmp .lt 7, 3) := by decide +kernel
theorem dX6_bears_24 : decode cX6_bears 24 = .ok (.iconst 1, 1) := by decide +kernel
theorem dX6_bears_25 : decode cX6_bears 25 = .ok (.goto 4, 3) := by decide +kernel
theorem dX6_bears_28 : decode cX6_bears 28 = .ok (.iconst 0, 1) := by decide +kernel
theorem dX6_bears_29 : decode cX6_bears 29 = .ok (.ireturn, 1) := by decide +kernel
theorem dX6_pace_0 : decode cX6_pace 0 = .ok (.aload_n 0, 1) := by decide +kernel
theorem dX6_pace_1 : decode cX6_pace 1 = .ok (.getfield 13, 3) := by decide +kernel
theorem dX6_pace_4 : decode cX6_pace 4 = .ok (.iload_n 1, 1) := by decide +kernel
theorem dX6_pace_5 : decode cX6_pace 5 = .ok (.iaload, 1) := by decide +kernel
theorem dX6_pace_6 : decode cX6_pace 6 = .ok (.iload_n 2, 1) := by decide +kernel
theorem dX6_pace_7 : decode cX6_pace 7 = .ok (.bipush 60, 2) := by decide +kernel
theorem dX6_pace_9 : decode cX6_pace 9 = .ok (.iload_n 3, 1) := by decide +kernel
theorem dX6_pace_10 : decode cX6_pace 10 = .ok (.imul, 1) := by decide +kernel
theorem dX6_pace_11 : decode cX6_pace 11 = .ok (.idiv, 1) := by decide +kernel
theorem dX6_pace_12 : decode cX6_pace 12 = .ok (.iadd, 1) := by decide +kernel
theorem dX6_pace_13 : decode cX6_pace 13 = .ok (.iload 4, 2) := by decide +kernel
theorem dX6_pace_15 : decode cX6_pace 15 = .ok (.bipush 50, 2) := by decide +kernel
theorem dX6_pace_17 : decode cX6_pace 17 = .ok (.if_icmp .ge 7, 3) := by decide +kernel
theorem dX6_pace_20 : decode cX6_pace 20 = .ok (.iconst 0, 1) := by decide +kernel
theorem dX6_pace_21 : decode cX6_pace 21 = .ok (.goto 4, 3) := by decide +kernel
theorem dX6_pace_24 : decode cX6_pace 24 = .ok (.iconst 1, 1) := by decide +kernel
theorem dX6_pace_25 : decode cX6_pace 25 = .ok (.iadd, 1) := by decide +kernel
theorem dX6_pace_26 : decode cX6_pace 26 = .ok (.ireturn, 1) := by decide +kernel
theorem dX6_areBeside_0 : decode cX6_areBeside 0 = .ok (.iload_n 0, 1) := by decide +kernel
theorem dX6_areBeside_1 : decode cX6_areBeside 1 = .ok (.bipush 16, 2) := by decide +kernel
theorem dX6_areBeside_3 : decode cX6_areBeside 3 = .ok (.irem, 1) := by decide +kernel
theorem dX6_areBeside_4 : decode cX6_areBeside 4 = .ok (.iload_n 1, 1) := by decide +kernel
theorem dX6_areBeside_5 : decode cX6_areBeside 5 = .ok (.bipush 16, 2) := by decide +kernel
theorem dX6_areBeside_7 : decode cX6_areBeside 7 = .ok (.irem, 1) := by decide +kernel
theorem dX6_areBeside_8 : decode cX6_areBeside 8 = .ok (.isub, 1) := by decide +kernel
theorem dX6_areBeside_9 : decode cX6_areBeside 9 = .ok (.invokestatic 81, 3) := by decide +kernel
theorem dX6_areBeside_12 : decode cX6_areBeside 12 = .ok (.iload_n 0, 1) := by decide +kernel
theorem dX6_areBeside_13 : decode cX6_areBeside 13 = .ok (.bipush 16, 2) := by decide +kernel
theorem dX6_areBeside_15 : decode cX6_areBeside 15 = .ok (.idiv, 1) := by decide +kernel
theorem dX6_areBeside_16 : decode cX6_areBeside 16 = .ok (.iload_n 1, 1) := by decide +kernel
theorem dX6_areBeside_17 : decode cX6_areBeside 17 = .ok (.bipush 16, 2) := by decide +kernel
theorem dX6_areBeside_19 : decode cX6_areBeside 19 = .ok (.idiv, 1) := by decide +kernel
theorem dX6_areBeside_20 : decode cX6_areBeside 20 = .ok (.isub, 1) := by decide +kernel
theorem dX6_areBeside_21 : decode cX6_areBeside 21 = .ok (.invokestatic 81, 3) := by decide +kernel
theorem dX6_areBeside_24 : decode cX6_areBeside 24 = .ok (.iadd, 1) := by decide +kernel
theorem dX6_areBeside_25 : decode cX6_areBeside 25 = .ok (.iconst 1, 1) := by decide +kernel
theorem dX6_areBeside_26 : decode cX6_areBeside 26 = .ok (.if_icmp .ne 7, 3) := by decide +kernel
theorem dX6_areBeside_29 : decode cX6_areBeside 29 = .ok (.iconst 1, 1) := by decide +kernel
theorem dX6_areBeside_30 : decode cX6_areBeside 30 = .ok (.goto 4, 3) := by decide +kernel
theorem dX6_areBeside_33 : decode cX6_areBeside 33 = .ok (.iconst 0, 1) := by decide +kernel
theorem dX6_areBeside_34 : decode cX6_areBeside 34 = .ok (.ireturn, 1) := by decide +kernel
theorem dX6_find_0 : decode cX6_find 0 = .ok (.iconst 0, 1) := by decide +kernel
theorem dX6_find_1 : decode cX6_find 1 = .ok (.istore 5, 2) := by decide +kernel
theorem dX6_find_3 : decode cX6_find 3 = .ok (.iload 5, 2) := by decide +kernel
theorem dX6_find_5 : decode cX6_find 5 = .ok (.sipush 160, 3) := by decide +kernel
theorem dX6_find_8 : decode cX6_find 8 = .ok (.if_icmp .ge 37, 3) := by decide +kernel
theorem dX6_find_11 : decode cX6_find 11 = .ok (.aload_n 0, 1) := by decide +kernel
theorem dX6_find_12 : decode cX6_find 12 = .ok (.getfield 40, 3) := by decide +kernel
theorem dX6_find_15 : decode cX6_find 15 = .ok (.iload 5, 2) := by decide +kernel
theorem dX6_find_17 : decode cX6_find 17 = .ok (.iload 5, 2) := by decide +kernel
theorem dX6_find_19 : decode cX6_find 19 = .ok (.iload_n 1, 1) := by decide +kernel
theorem dX6_find_20 : decode cX6_find 20 = .ok (.if_icmp .ne 7, 3) := by decide +kernel
theorem dX6_find_23 : decode cX6_find 23 = .ok (.iconst 0, 1) := by decide +kernel
theorem dX6_find_24 : decode cX6_find 24 = .ok (.goto 6, 3) := by decide +kernel
theorem dX6_find_27 : decode cX6_find 27 = .ok (.sipush 9999, 3) := by decide +kernel
theorem dX6_find_30 : decode cX6_find 30 = .ok (.iastore, 1) := by decide +kernel
theorem dX6_find_31 : decode cX6_find 31 = .ok (.aload_n 0, 1) := by decide +kernel
theorem dX6_find_32 : decode cX6_find 32 = .ok (.getfield 43, 3) := by decide +kernel
theorem dX6_find_35 : decode cX6_find 35 = .ok (.iload 5, 2) := by decide +kernel
theorem dX6_find_37 : decode cX6_find 37 = .ok (.iconst 0, 1) := by decide +kernel
theorem dX6_find_38 : decode cX6_find 38 = .ok (.bastore, 1) := by decide +kernel
theorem dX6_find_39 : decode cX6_find 39 = .ok (.iinc 5 1, 3) := by decide +kernel
theorem dX6_find_42 : decode cX6_find 42 = .ok (.goto (-39), 3) := by decide +kernel
theorem dX6_find_45 : decode cX6_find 45 = .ok (.iconst (-1), 1) := by decide +kernel
theorem dX6_find_46 : decode cX6_find 46 = .ok (.istore 5, 2) := by decide +kernel
theorem dX6_find_48 : decode cX6_find 48 = .ok (.iconst 0, 1) := by decide +kernel
theorem dX6_find_49 : decode cX6_find 49 = .ok (.istore 6, 2) := by decide +kernel
theorem dX6_find_51 : decode cX6_find 51 = .ok (.iload 6, 2) := by decide +kernel
theorem dX6_find_53 : decode cX6_find 53 = .ok (.sipush 160, 3) := by decide +kernel
theorem dX6_find_56 : decode cX6_find 56 = .ok (.if_icmp .ge 58, 3) := by decide +kernel
theorem dX6_find_59 : decode cX6_find 59 = .ok (.aload_n 0, 1) := by decide +kernel
theorem dX6_find_60 : decode cX6_find 60 = .ok (.getfield 43, 3) := by decide +kernel
theorem dX6_find_63 : decode cX6_find 63 = .ok (.iload 6, 2) := by decide +kernel
theorem dX6_find_65 : decode cX6_find 65 = .ok (.baload, 1) := by decide +kernel
theorem dX6_find_66 : decode cX6_find 66 = .ok (.ifCond .ne 42, 3) := by decide +kernel
theorem dX6_find_69 : decode cX6_find 69 = .ok (.aload_n 0, 1) := by decide +kernel
theorem dX6_find_70 : decode cX6_find 70 = .ok (.getfield 40, 3) := by decide +kernel
theorem dX6_find_73 : decode cX6_find 73 = .ok (.iload 6, 2) := by decide +kernel
theorem dX6_find_75 : decode cX6_find 75 = .ok (.iaload, 1) := by decide +kernel
theorem dX6_find_76 : decode cX6_find 76 = .ok (.sipush 9999, 3) := by decide +kernel
theorem dX6_find_79 : decode cX6_find 79 = .ok (.if_icmp .ge 29, 3) := by decide +kernel
theorem dX6_find_82 : decode cX6_find 82 = .ok (.iload 5, 2) := by decide +kernel
theorem dX6_find_84 : decode cX6_find 84 = .ok (.ifCond .lt 20, 3) := by decide +kernel
theorem dX6_find_87 : decode cX6_find 87 = .ok (.aload_n 0, 1) := by decide +kernel
theorem dX6_find_88 : decode cX6_find 88 = .ok (.getfield 40, 3) := by decide +kernel
theorem dX6_find_91 : decode cX6_find 91 = .ok (.iload 6, 2) := by decide +kernel
theorem dX6_find_93 : decode cX6_find 93 = .ok (.iaload, 1) := by decide +kernel
theorem dX6_find_94 : decode cX6_find 94 = .ok (.aload_n 0, 1) := by decide +kernel
theorem dX6_find_95 : decode cX6_find 95 = .ok (.getfield 40, 3) := by decide +kernel
theorem dX6_find_98 : decode cX6_find 98 = .ok (.iload 5, 2) := by decide +kernel
theorem dX6_find_100 : decode cX6_find 100 = .ok (.iaload, 1) := by decide +kernel
theorem dX6_find_101 : decode cX6_find 101 = .ok (.if_icmp .ge 7, 3) := by decide +kernel
theorem dX6_find_104 : decode cX6_find 104 = .ok (.iload 6, 2) := by decide +kernel
theorem dX6_find_106 : decode cX6_find 106 = .ok (.istore 5, 2) := by decide +kernel
theorem dX6_find_108 : decode cX6_find 108 = .ok (.iinc 6 1, 3) := by decide +kernel
theorem dX6_find_111 : decode cX6_find 111 = .ok (.goto (-60), 3) := by decide +kernel
theorem dX6_find_114 : decode cX6_find 114 = .ok (.iload 5, 2) := by decide +kernel
theorem dX6_find_116 : decode cX6_find 116 = .ok (.ifCond .ge 4, 3) := by decide +kernel
theorem dX6_find_119 : decode cX6_find 119 = .ok (.return_, 1) := by decide +kernel
theorem dX6_find_120 : decode cX6_find 120 = .ok (.aload_n 0, 1) := by decide +kernel
theorem dX6_find_121 : decode cX6_find 121 = .ok (.getfield 43, 3) := by decide +kernel
theorem dX6_find_124 : decode cX6_find 124 = .ok (.iload 5, 2) := by decide +kernel
theorem dX6_find_126 : decode cX6_find 126 = .ok (.iconst 1, 1) := by decide +kernel
theorem dX6_find_127 : decode cX6_find 127 = .ok (.bastore, 1) := by decide +kernel
theorem dX6_find_128 : decode cX6_find 128 = .ok (.aload_n 0, 1) := by decide +kernel
theorem dX6_find_129 : decode cX6_find 129 = .ok (.iload 5, 2) := by decide +kernel
theorem dX6_find_131 : decode cX6_find 131 = .ok (.iload_n 2, 1) := by decide +kernel
theorem dX6_find_132 : decode cX6_find 132 = .ok (.invokevirtual 87, 3) := by decide +kernel
theorem dX6_find_135 : decode cX6_find 135 = .ok (.ifCond .ne 6, 3) := by decide +kernel
theorem dX6_find_138 : decode cX6_find 138 = .ok (.goto (-93), 3) := by decide +kernel
theorem dX6_find_141 : decode cX6_find 141 = .ok (.aload_n 0, 1) := by decide +kernel
theorem dX6_find_142 : decode cX6_find 142 = .ok (.getfield 40, 3) := by decide +kernel
theorem dX6_find_145 : decode cX6_find 145 = .ok (.iload 5, 2) := by decide +kernel
theorem dX6_find_147 : decode cX6_find 147 = .ok (.iaload, 1) := by decide +kernel
theorem dX6_find_148 : decode cX6_find 148 = .ok (.aload_n 0, 1) := by decide +kernel
theorem dX6_find_149 : decode cX6_find 149 = .ok (.iload 5, 2) := by decide +kernel
theorem dX6_find_151 : decode cX6_find 151 = .ok (.iload_n 2, 1) := by decide +kernel
theorem dX6_find_152 : decode cX6_find 152 = .ok (.iload_n 3, 1) := by decide +kernel
theorem dX6_find_153 : decode cX6_find 153 = .ok (.iload 4, 2) := by decide +kernel
theorem dX6_find_155 : decode cX6_find 155 = .ok (.invokevirtual 91, 3) := by decide +kernel
theorem dX6_find_158 : decode cX6_find 158 = .ok (.iadd, 1) := by decide +kernel
theorem dX6_find_159 : decode cX6_find 159 = .ok (.istore 6, 2) := by decide +kernel
theorem dX6_find_161 : decode cX6_find 161 = .ok (.iload 5, 2) := by decide +kernel
theorem dX6_find_163 : decode cX6_find 163 = .ok (.bipush 16, 2) := by decide +kernel
theorem dX6_find_165 : decode cX6_find 165 = .ok (.if_icmp .lt 28, 3) := by decide +kernel
theorem dX6_find_168 : decode cX6_find 168 = .ok (.aload_n 0, 1) := by decide +kernel
theorem dX6_find_169 : decode cX6_find 169 = .ok (.getfield 40, 3) := by decide +kernel
theorem dX6_find_172 : decode cX6_find 172 = .ok (.iload 5, 2) := by decide +kernel
theorem dX6_find_174 : decode cX6_find 174 = .ok (.bipush 16, 2) := by decide +kernel
theorem dX6_find_176 : decode cX6_find 176 = .ok (.isub, 1) := by decide +kernel
theorem dX6_find_177 : decode cX6_find 177 = .ok (.aload_n 0, 1) := by decide +kernel
theorem dX6_find_178 : decode cX6_find 178 = .ok (.getfield 40, 3) := by decide +kernel
theorem dX6_find_181 : decode cX6_find 181 = .ok (.iload 5, 2) := by decide +kernel
theorem dX6_find_183 : decode cX6_find 183 = .ok (.bipush 16, 2) := by decide +kernel
theorem dX6_find_185 : decode cX6_find 185 = .ok (.isub, 1) := by decide +kernel
theorem dX6_find_186 : decode cX6_find 186 = .ok (.iaload, 1) := by decide +kernel
theorem dX6_find_187 : decode cX6_find 187 = .ok (.iload 6, 2) := by decide +kernel
theorem dX6_find_189 : decode cX6_find 189 = .ok (.invokestatic 95, 3) := by decide +kernel
theorem dX6_find_192 : decode cX6_find 192 = .ok (.iastore, 1) := by decide +kernel
theorem dX6_find_193 : decode cX6_find 193 = .ok (.iload 5, 2) := by decide +kernel
theorem dX6_find_195 : decode cX6_find 195 = .ok (.sipush 144, 3) := by decide +kernel
theorem dX6_find_198 : decode cX6_find 198 = .ok (.if_icmp .ge 28, 3) := by decide +kernel
theorem dX6_find_201 : decode cX6_find 201 = .ok (.aload_n 0, 1) := by decide +kernel
theorem dX6_find_202 : decode cX6_find 202 = .ok (.getfield 40, 3) := by decide +kernel
theorem dX6_find_205 : decode cX6_find 205 = .ok (.iload 5, 2) := by decide +kernel
theorem dX6_find_207 : decode cX6_find 207 = .ok (.bipush 16, 2) := by decide +kernel
theorem dX6_find_209 : decode cX6_find 209 = .ok (.iadd, 1) := by decide +kernel
theorem dX6_find_210 : decode cX6_find 210 = .ok (.aload_n 0, 1) := by decide +kernel
theorem dX6_find_211 : decode cX6_find 211 = .ok (.getfield 40, 3) := by decide +kernel
theorem dX6_find_214 : decode cX6_find 214 = .ok (.iload 5, 2) := by decide +kernel
theorem dX6_find_216 : decode cX6_find 216 = .ok (.bipush 16, 2) := by decide +kernel
theorem dX6_find_218 : decode cX6_find 218 = .ok (.iadd, 1) := by decide +kernel
theorem dX6_find_219 : decode cX6_find 219 = .ok (.iaload, 1) := by decide +kernel
theorem dX6_find_220 : decode cX6_find 220 = .ok (.iload 6, 2) := by decide +kernel
theorem dX6_find_222 : decode cX6_find 222 = .ok (.invokestatic 95, 3) := by decide +kernel
theorem dX6_find_225 : decode cX6_find 225 = .ok (.iastore, 1) := by decide +kernel
theorem dX6_find_226 : decode cX6_find 226 = .ok (.iload 5, 2) := by decide +kernel
theorem dX6_find_228 : decode cX6_find 228 = .ok (.bipush 16, 2) := by decide +kernel
theorem dX6_find_230 : decode cX6_find 230 = .ok (.irem, 1) := by decide +kernel
theorem dX6_find_231 : decode cX6_find 231 = .ok (.ifCond .le 26, 3) := by decide +kernel
theorem dX6_find_234 : decode cX6_find 234 = .ok (.aload_n 0, 1) := by decide +kernel
theorem dX6_find_235 : decode cX6_find 235 = .ok (.getfield 40, 3) := by decide +kernel
theorem dX6_find_238 : decode cX6_find 238 = .ok (.iload 5, 2) := by decide +kernel
theorem dX6_find_240 : decode cX6_find 240 = .ok (.iconst 1, 1) := by decide +kernel
theorem dX6_find_241 : decode cX6_find 241 = .ok (.isub, 1) := by decide +kernel
theorem dX6_find_242 : decode cX6_find 242 = .ok (.aload_n 0, 1) := by decide +kernel
theorem dX6_find_243 : decode cX6_find 243 = .ok (.getfield 40, 3) := by decide +kernel
theorem dX6_find_246 : decode cX6_find 246 = .ok (.iload 5, 2) := by decide +kernel
theorem dX6_find_248 : decode cX6_find 248 = .ok (.iconst 1, 1) := by decide +kernel
theorem dX6_find_249 : decode cX6_find 249 = .ok (.isub, 1) := by decide +kernel
theorem dX6_find_250 : decode cX6_find 250 = .ok (.iaload, 1) := by decide +kernel
theorem dX6_find_251 : decode cX6_find 251 = .ok (.iload 6, 2) := by decide +kernel
theorem dX6_find_253 : decode cX6_find 253 = .ok (.invokestatic 95, 3) := by decide +kernel
theorem dX6_find_256 : decode cX6_find 256 = .ok (.iastore, 1) := by decide +kernel
theorem dX6_find_257 : decode cX6_find 257 = .ok (.iload 5, 2) := by decide +kernel
theorem dX6_find_259 : decode cX6_find 259 = .ok (.bipush 16, 2) := by decide +kernel
theorem dX6_find_261 : decode cX6_find 261 = .ok (.irem, 1) := by decide +kernel
theorem dX6_find_262 : decode cX6_find 262 = .ok (.bipush 15, 2) := by decide +kernel
theorem dX6_find_264 : decode cX6_find 264 = .ok (.if_icmp .ge 26, 3) := by decide +kernel
theorem dX6_find_267 : decode cX6_find 267 = .ok (.aload_n 0, 1) := by decide +kernel
theorem dX6_find_268 : decode cX6_find 268 = .ok (.getfield 40, 3) := by decide +kernel
theorem dX6_find_271 : decode cX6_find 271 = .ok (.iload 5, 2) := by decide +kernel
theorem dX6_find_273 : decode cX6_find 273 = .ok (.iconst 1, 1) := by decide +kernel
theorem dX6_find_274 : decode cX6_find 274 = .ok (.iadd, 1) := by decide +kernel
theorem dX6_find_275 : decode cX6_find 275 = .ok (.aload_n 0, 1) := by decide +kernel
theorem dX6_find_276 : decode cX6_find 276 = .ok (.getfield 40, 3) := by decide +kernel
theorem dX6_find_279 : decode cX6_find 279 = .ok (.iload 5, 2) := by decide +kernel
theorem dX6_find_281 : decode cX6_find 281 = .ok (.iconst 1, 1) := by decide +kernel
theorem dX6_find_282 : decode cX6_find 282 = .ok (.iadd, 1) := by decide +kernel
theorem dX6_find_283 : decode cX6_find 283 = .ok (.iaload, 1) := by decide +kernel
theorem dX6_find_284 : decode cX6_find 284 = .ok (.iload 6, 2) := by decide +kernel
theorem dX6_find_286 : decode cX6_find 286 = .ok (.invokestatic 95, 3) := by decide +kernel
theorem dX6_find_289 : decode cX6_find 289 = .ok (.iastore, 1) := by decide +kernel
theorem dX6_find_290 : decode cX6_find 290 = .ok (.goto (-245), 3) := by decide +kernel
theorem dX6_way_0 : decode cX6_way 0 = .ok (.aload_n 0, 1) := by decide +kernel
theorem dX6_way_1 : decode cX6_way 1 = .ok (.iload_n 2, 1) := by decide +kernel
theorem dX6_way_2 : decode cX6_way 2 = .ok (.iload_n 3, 1) := by decide +kernel
theorem dX6_way_3 : decode cX6_way 3 = .ok (.iload 4, 2) := by decide +kernel
theorem dX6_way_5 : decode cX6_way 5 = .ok (.iload 5, 2) := by decide +kernel
theorem dX6_way_7 : decode cX6_way 7 = .ok (.invokevirtual 98, 3) := by decide +kernel
theorem dX6_way_10 : decode cX6_way 10 = .ok (.aload_n 0, 1) := by decide +kernel
theorem dX6_way_11 : decode cX6_way 11 = .ok (.getfield 40, 3) := by decide +kernel
theorem dX6_way_14 : decode cX6_way 14 = .ok (.iload_n 1, 1) := by decide +kernel
theorem dX6_way_15 : decode cX6_way 15 = .ok (.iaload, 1) := by decide +kernel
theorem dX6_way_16 : decode cX6_way 16 = .ok (.sipush 9999, 3) := by decide +kernel
theorem dX6_way_19 : decode cX6_way 19 = .ok (.if_icmp .ge 12, 3) := by decide +kernel
theorem dX6_way_22 : decode cX6_way 22 = .ok (.aload_n 0, 1) := by decide +kernel
theorem dX6_way_23 : decode cX6_way 23 = .ok (.getfield 40, 3) := by decide +kernel
theorem dX6_way_26 : decode cX6_way 26 = .ok (.iload_n 1, 1) := by decide +kernel
theorem dX6_way_27 : decode cX6_way 27 = .ok (.iaload, 1) := by decide +kernel
theorem dX6_way_28 : decode cX6_way 28 = .ok (.goto 4, 3) := by decide +kernel
theorem dX6_way_31 : decode cX6_way 31 = .ok (.iconst (-1), 1) := by decide +kernel
theorem dX6_way_32 : decode cX6_way 32 = .ok (.ireturn, 1) := by decide +kernel
theorem dX6_frost_0 : decode cX6_frost 0 = .ok (.aload_n 0, 1) := by decide +kernel
theorem dX6_frost_1 : decode cX6_frost 1 = .ok (.getfield 19, 3) := by decide +kernel
theorem dX6_frost_4 : decode cX6_frost 4 = .ok (.invokevirtual 54, 3) := by decide +kernel
theorem dX6_frost_7 : decode cX6_frost 7 = .ok (.checkcast 55, 3) := by decide +kernel
theorem dX6_frost_10 : decode cX6_frost 10 = .ok (.astore_n 2, 1) := by decide +kernel
theorem dX6_frost_11 : decode cX6_frost 11 = .ok (.iconst 0, 1) := by decide +kernel
theorem dX6_frost_12 : decode cX6_frost 12 = .ok (.istore_n 3, 1) := by decide +kernel
theorem dX6_frost_13 : decode cX6_frost 13 = .ok (.iload_n 3, 1) := by decide +kernel
theorem dX6_frost_14 : decode cX6_frost 14 = .ok (.sipush 160, 3) := by decide +kernel
theorem dX6_frost_17 : decode cX6_frost 17 = .ok (.if_icmp .ge 178, 3) := by decide +kernel
theorem dX6_frost_20 : decode cX6_frost 20 = .ok (.aload_n 0, 1) := by decide +kernel
theorem dX6_frost_21 : decode cX6_frost 21 = .ok (.getfield 7, 3) := by decide +kernel
theorem dX6_frost_24 : decode cX6_frost 24 = .ok (.iload_n 3, 1) := by decide +kernel
theorem dX6_frost_25 : decode cX6_frost 25 = .ok (.iaload, 1) := by decide +kernel
theorem dX6_frost_26 : decode cX6_frost 26 = .ok (.ifCond .ge 6, 3) := by decide +kernel
theorem dX6_frost_29 : decode cX6_frost 29 = .ok (.goto 160, 3) := by decide +kernel
theorem dX6_frost_32 : decode cX6_frost 32 = .ok (.iload_n 1, 1) := by decide +kernel
theorem dX6_frost_33 : decode cX6_frost 33 = .ok (.ifCond .le 67, 3) := by decide +kernel
theorem dX6_frost_36 : decode cX6_frost 36 = .ok (.aload_n 0, 1) := by decide +kernel
theorem dX6_frost_37 : decode cX6_frost 37 = .ok (.getfield 7, 3) := by decide +kernel
theorem dX6_frost_40 : decode cX6_frost 40 = .ok (.iload_n 3, 1) := by decide +kernel
theorem dX6_frost_41 : decode cX6_frost 41 = .ok (.sipush 200, 3) := by decide +kernel
theorem dX6_frost_44 : decode cX6_frost 44 = .ok (.aload_n 0, 1) := by decide +kernel
theorem dX6_frost_45 : decode cX6_frost 45 = .ok (.getfield 7, 3) := by decide +kernel
theorem dX6_frost_48 : decode cX6_frost 48 = .ok (.iload_n 3, 1) := by decide +kernel
theorem dX6_frost_49 : decode cX6_frost 49 = .ok (.iaload, 1) := by decide +kernel
theorem dX6_frost_50 : decode cX6_frost 50 = .ok (.bipush 12, 2) := by decide +kernel
theorem dX6_frost_52 : decode cX6_frost 52 = .ok (.iload_n 1, 1) := by decide +kernel
theorem dX6_frost_53 : decode cX6_frost 53 = .ok (.imul, 1) := by decide +kernel
theorem dX6_frost_54 : decode cX6_frost 54 = .ok (.bipush 6, 2) := by decide +kernel
theorem dX6_frost_56 : decode cX6_frost 56 = .ok (.aload_n 0, 1) := by decide +kernel
theorem dX6_frost_57 : decode cX6_frost 57 = .ok (.getfield 7, 3) := by decide +kernel
theorem dX6_frost_60 : decode cX6_frost 60 = .ok (.iload_n 3, 1) := by decide +kernel
theorem dX6_frost_61 : decode cX6_frost 61 = .ok (.iaload, 1) := by decide +kernel
theorem dX6_frost_62 : decode cX6_frost 62 = .ok (.bipush 10, 2) := by decide +kernel
theorem dX6_frost_64 : decode cX6_frost 64 = .ok (.idiv, 1) := by decide +kernel
theorem dX6_frost_65 : decode cX6_frost 65 = .ok (.iadd, 1) := by decide +kernel
theorem dX6_frost_66 : decode cX6_frost 66 = .ok (.idiv, 1) := by decide +kernel
theorem dX6_frost_67 : decode cX6_frost 67 = .ok (.iadd, 1) := by decide +kernel
theorem dX6_frost_68 : decode cX6_frost 68 = .ok (.invokestatic 95, 3) := by decide +kernel
theorem dX6_frost_71 : decode cX6_frost 71 = .ok (.iastore, 1) := by decide +kernel
theorem dX6_frost_72 : decode cX6_frost 72 = .ok (.aload_n 0, 1) := by decide +kernel
theorem dX6_frost_73 : decode cX6_frost 73 = .ok (.getfield 16, 3) := by decide +kernel
theorem dX6_frost_76 : decode cX6_frost 76 = .ok (.iload_n 3, 1) := by decide +kernel
theorem dX6_frost_77 : decode cX6_frost 77 = .ok (.aload_n 0, 1) := by decide +kernel
theorem dX6_frost_78 : decode cX6_frost 78 = .ok (.getfield 16, 3) := by decide +kernel
theorem dX6_frost_81 : decode cX6_frost 81 = .ok (.iload_n 3, 1) := by decide +kernel
theorem dX6_frost_82 : decode cX6_frost 82 = .ok (.iaload, 1) := by decide +kernel
theorem dX6_frost_83 : decode cX6_frost 83 = .ok (.iconst 2, 1) := by decide +kernel
theorem dX6_frost_84 : decode cX6_frost 84 = .ok (.if_icmp .le 14, 3) := by decide +kernel
theorem dX6_frost_87 : decode cX6_frost 87 = .ok (.aload_n 0, 1) := by decide +kernel
theorem dX6_frost_88 : decode cX6_frost 88 = .ok (.getfield 16, 3) := by decide +kernel
theorem dX6_frost_91 : decode cX6_frost 91 = .ok (.iload_n 3, 1) := by decide +kernel
theorem dX6_frost_92 : decode cX6_frost 92 = .ok (.iaload, 1) := by decide +kernel
theorem dX6_frost_93 : decode cX6_frost 93 = .ok (.iconst 2, 1) := by decide +kernel
theorem dX6_frost_94 : decode cX6_frost 94 = .ok (.isub, 1) := by decide +kernel
theorem dX6_frost_95 : decode cX6_frost 95 = .ok (.goto 4, 3) := by decide +kernel
theorem dX6_frost_98 : decode cX6_frost 98 = .ok (.iconst 0, 1) := by decide +kernel
theorem dX6_frost_99 : decode cX6_frost 99 = .ok (.iastore, 1) := by decide +kernel
theorem dX6_frost_100 : decode cX6_frost 100 = .ok (.iload_n 1, 1) := by decide +kernel
theorem dX6_frost_101 : decode cX6_frost 101 = .ok (.ifCond .lt 6, 3) := by decide +kernel
theorem dX6_frost_104 : decode cX6_frost 104 = .ok (.goto 85, 3) := by decide +kernel
theorem dX6_frost_107 : decode cX6_frost 107 = .ok (.aload_n 0, 1) := by decide +kernel
theorem dX6_frost_108 : decode cX6_frost 108 = .ok (.getfield 7, 3) := by decide +kernel
theorem dX6_frost_111 : decode cX6_frost 111 = .ok (.iload_n 3, 1) := by decide +kernel
theorem dX6_frost_112 : decode cX6_frost 112 = .ok (.aload_n 0, 1) := by decide +kernel
theorem dX6_frost_113 : decode cX6_frost 113 = .ok (.getfield 7, 3) := by decide +kernel
theorem dX6_frost_116 : decode cX6_frost 116 = .ok (.iload_n 3, 1) := by decide +kernel
theorem dX6_frost_117 : decode cX6_frost 117 = .ok (.iaload, 1) := by decide +kernel
theorem dX6_frost_118 : decode cX6_frost 118 = .ok (.bipush (-3), 2) := by decide +kernel
theorem dX6_frost_120 : decode cX6_frost 120 = .ok (.iload_n 1, 1) := by decide +kernel
theorem dX6_frost_121 : decode cX6_frost 121 = .ok (.imul, 1) := by decide +kernel
theorem dX6_frost_122 : decode cX6_frost 122 = .ok (.if_icmp .le 16, 3) := by decide +kernel
theorem dX6_frost_125 : decode cX6_frost 125 = .ok (.aload_n 0, 1) := by decide +kernel
theorem dX6_frost_126 : decode cX6_frost 126 = .ok (.getfield 7, 3) := by decide +kernel
theorem dX6_frost_129 : decode cX6_frost 129 = .ok (.iload_n 3, 1) := by decide +kernel
theorem dX6_frost_130 : decode cX6_frost 130 = .ok (.iaload, 1) := by decide +kernel
theorem dX6_frost_131 : decode cX6_frost 131 = .ok (.iconst 3, 1) := by decide +kernel
theorem dX6_frost_132 : decode cX6_frost 132 = .ok (.iload_n 1, 1) := by decide +kernel
theorem dX6_frost_133 : decode cX6_frost 133 = .ok (.imul, 1) := by decide +kernel
theorem dX6_frost_134 : decode cX6_frost 134 = .ok (.iadd, 1) := by decide +kernel
theorem dX6_frost_135 : decode cX6_frost 135 = .ok (.goto 4, 3) := by decide +kernel
theorem dX6_frost_138 : decode cX6_frost 138 = .ok (.iconst 0, 1) := by decide +kernel
theorem dX6_frost_139 : decode cX6_frost 139 = .ok (.iastore, 1) := by decide +kernel
theorem dX6_frost_140 : decode cX6_frost 140 = .ok (.iconst 0, 1) := by decide +kernel
theorem dX6_frost_141 : decode cX6_frost 141 = .ok (.istore 4, 2) := by decide +kernel
theorem dX6_frost_143 : decode cX6_frost 143 = .ok (.iload 4, 2) := by decide +kernel
theorem dX6_frost_145 : decode cX6_frost 145 = .ok (.sipush 160, 3) := by decide +kernel
theorem dX6_frost_148 : decode cX6_frost 148 = .ok (.if_icmp .ge 41, 3) := by decide +kernel
theorem dX6_frost_151 : decode cX6_frost 151 = .ok (.aload_n 0, 1) := by decide +kernel
theorem dX6_frost_152 : decode cX6_frost 152 = .ok (.getfield 16, 3) := by decide +kernel
theorem dX6_frost_155 : decode cX6_frost 155 = .ok (.iload_n 3, 1) := by decide +kernel
theorem dX6_frost_156 : decode cX6_frost 156 = .ok (.iaload, 1) := by decide +kernel
theorem dX6_frost_157 : decode cX6_frost 157 = .ok (.ifCond .le 32, 3) := by decide +kernel
theorem dX6_frost_160 : decode cX6_frost 160 = .ok (.aload_n 2, 1) := by decide +kernel
theorem dX6_frost_161 : decode cX6_frost 161 = .ok (.iload 4, 2) := by decide +kernel
theorem dX6_frost_163 : decode cX6_frost 163 = .ok (.baload, 1) := by decide +kernel
theorem dX6_frost_164 : decode cX6_frost 164 = .ok (.ifCond .eq 19, 3) := by decide +kernel
theorem dX6_frost_167 : decode cX6_frost 167 = .ok (.iload_n 3, 1) := by decide +kernel
theorem dX6_frost_168 : decode cX6_frost 168 = .ok (.iload 4, 2) := by decide +kernel
theorem dX6_frost_170 : decode cX6_frost 170 = .ok (.invokestatic 102, 3) := by decide +kernel
theorem dX6_frost_173 : decode cX6_frost 173 = .ok (.ifCond .eq 10, 3) := by decide +kernel
theorem dX6_frost_176 : decode cX6_frost 176 = .ok (.aload_n 0, 1) := by decide +kernel
theorem dX6_frost_177 : decode cX6_frost 177 = .ok (.getfield 19, 3) := by decide +kernel
theorem dX6_frost_180 : decode cX6_frost 180 = .ok (.iload_n 3, 1) := by decide +kernel
theorem dX6_frost_181 : decode cX6_frost 181 = .ok (.iconst 1, 1) := by decide +kernel
theorem dX6_frost_182 : decode cX6_frost 182 = .ok (.bastore, 1) := by decide +kernel
theorem dX6_frost_183 : decode cX6_frost 183 = .ok (.iinc 4 1, 3) := by decide +kernel
theorem dX6_frost_186 : decode cX6_frost 186 = .ok (.goto (-43), 3) := by decide +kernel
theorem dX6_frost_189 : decode cX6_frost 189 = .ok (.iinc 3 1, 3) := by decide +kernel
theorem dX6_frost_192 : decode cX6_frost 192 = .ok (.goto (-179), 3) := by decide +kernel
theorem dX6_frost_195 : decode cX6_frost 195 = .ok (.return_, 1) := by decide +kernel
theorem dX6_pass_0 : decode cX6_pass 0 = .ok (.iconst 0, 1) := by decide +kernel
theorem dX6_pass_1 : decode cX6_pass 1 = .ok (.istore_n 1, 1) := by decide +kernel
theorem dX6_pass_2 : decode cX6_pass 2 = .ok (.aload_n 0, 1) := by decide +kernel
theorem dX6_pass_3 : decode cX6_pass 3 = .ok (.getfield 46, 3) := by decide +kernel
theorem dX6_pass_6 : decode cX6_pass 6 = .ok (.bipush 24, 2) := by decide +kernel
theorem dX6_pass_8 : decode cX6_pass 8 = .ok (.irem, 1) := by decide +kernel
theorem dX6_pass_9 : decode cX6_pass 9 = .ok (.ifCond .ne 22, 3) := by decide +kernel
theorem dX6_pass_12 : decode cX6_pass 12 = .ok (.aload_n 0, 1) := by decide +kernel
theorem dX6_pass_13 : decode cX6_pass 13 = .ok (.aload_n 0, 1) := by decide +kernel
theorem dX6_pass_14 : decode cX6_pass 14 = .ok (.getfield 23, 3) := by decide +kernel
theorem dX6_pass_17 : decode cX6_pass 17 = .ok (.aload_n 0, 1) := by decide +kernel
theorem dX6_pass_18 : decode cX6_pass 18 = .ok (.getfield 46, 3) := by decide +kernel
theorem dX6_pass_21 : decode cX6_pass 21 = .ok (.bipush 24, 2) := by decide +kernel
theorem dX6_pass_23 : decode cX6_pass 23 = .ok (.idiv, 1) := by decide +kernel
theorem dX6_pass_24 : decode cX6_pass 24 = .ok (.bipush 8, 2) := by decide +kernel
theorem dX6_pass_26 : decode cX6_pass 26 = .ok (.irem, 1) := by decide +kernel
theorem dX6_pass_27 : decode cX6_pass 27 = .ok (.iaload, 1) := by decide +kernel
theorem dX6_pass_28 : decode cX6_pass 28 = .ok (.invokevirtual 105, 3) := by decide +kernel
theorem dX6_pass_31 : decode cX6_pass 31 = .ok (.iconst 0, 1) := by decide +kernel
theorem dX6_pass_32 : decode cX6_pass 32 = .ok (.istore_n 2, 1) := by decide +kernel
theorem dX6_pass_33 : decode cX6_pass 33 = .ok (.iload_n 2, 1) := by decide +kernel
theorem dX6_pass_34 : decode cX6_pass 34 = .ok (.aload_n 0, 1) := by decide +kernel
theorem dX6_pass_35 : decode cX6_pass 35 = .ok (.getfield 31, 3) := by decide +kernel
theorem dX6_pass_38 : decode cX6_pass 38 = .ok (.arraylength, 1) := by decide +kernel
theorem dX6_pass_39 : decode cX6_pass 39 = .ok (.if_icmp .ge 121, 3) := by decide +kernel
theorem dX6_pass_42 : decode cX6_pass 42 = .ok (.aload_n 0, 1) := by decide +kernel
theorem dX6_pass_43 : decode cX6_pass 43 = .ok (.getfield 31, 3) := by decide +kernel
theorem dX6_pass_46 : decode cX6_pass 46 = .ok (.iload_n 2, 1) := by decide +kernel
theorem dX6_pass_47 : decode cX6_pass 47 = .ok (.aaload, 1) := by decide +kernel
theorem dX6_pass_48 : decode cX6_pass 48 = .ok (.astore_n 3, 1) := by decide +kernel
theorem dX6_pass_49 : decode cX6_pass 49 = .ok (.aload_n 3, 1) := by decide +kernel
theorem dX6_pass_50 : decode cX6_pass 50 = .ok (.getfield 109, 3) := by decide +kernel
theorem dX6_pass_53 : decode cX6_pass 53 = .ok (.iconst 2, 1) := by decide +kernel
theorem dX6_pass_54 : decode cX6_pass 54 = .ok (.if_icmp .eq 100, 3) := by decide +kernel
theorem dX6_pass_57 : decode cX6_pass 57 = .ok (.aload_n 0, 1) := by decide +kernel
theorem dX6_pass_58 : decode cX6_pass 58 = .ok (.aload_n 3, 1) := by decide +kernel
theorem dX6_pass_59 : decode cX6_pass 59 = .ok (.getfield 71, 3) := by decide +kernel
theorem dX6_pass_62 : decode cX6_pass 62 = .ok (.aload_n 0, 1) := by decide +kernel
theorem dX6_pass_63 : decode cX6_pass 63 = .ok (.iload_n 2, 1) := by decide +kernel
theorem dX6_pass_64 : decode cX6_pass 64 = .ok (.invokevirtual 112, 3) := by decide +kernel
theorem dX6_pass_67 : decode cX6_pass 67 = .ok (.invokevirtual 87, 3) := by decide +kernel
theorem dX6_pass_70 : decode cX6_pass 70 = .ok (.ifCond .eq 6, 3) := by decide +kernel
theorem dX6_pass_73 : decode cX6_pass 73 = .ok (.goto 81, 3) := by decide +kernel
theorem dX6_pass_76 : decode cX6_pass 76 = .ok (.aload_n 0, 1) := by decide +kernel
theorem dX6_pass_77 : decode cX6_pass 77 = .ok (.getfield 36, 3) := by decide +kernel
theorem dX6_pass_80 : decode cX6_pass 80 = .ok (.astore 4, 2) := by decide +kernel
theorem dX6_pass_82 : decode cX6_pass 82 = .ok (.aload 4, 2) := by decide +kernel
theorem dX6_pass_84 : decode cX6_pass 84 = .ok (.arraylength, 1) := by decide +kernel
theorem dX6_pass_85 : decode cX6_pass 85 = .ok (.istore 5, 2) := by decide +kernel
theorem dX6_pass_87 : decode cX6_pass 87 = .ok (.iconst 0, 1) := by decide +kernel
theorem dX6_pass_88 : decode cX6_pass 88 = .ok (.istore 6, 2) := by decide +kernel
theorem dX6_pass_90 : decode cX6_pass 90 = .ok (.iload 6, 2) := by decide +kernel
theorem dX6_pass_92 : decode cX6_pass 92 = .ok (.iload 5, 2) := by decide +kernel
theorem dX6_pass_94 : decode cX6_pass 94 = .ok (.if_icmp .ge 45, 3) := by decide +kernel
theorem dX6_pass_97 : decode cX6_pass 97 = .ok (.aload 4, 2) := by decide +kernel
theorem dX6_pass_99 : decode cX6_pass 99 = .ok (.iload 6, 2) := by decide +kernel
theorem dX6_pass_101 : decode cX6_pass 101 = .ok (.aaload, 1) := by decide +kernel
theorem dX6_pass_102 : decode cX6_pass 102 = .ok (.astore 7, 2) := by decide +kernel
theorem dX6_pass_104 : decode cX6_pass 104 = .ok (.aload 7, 2) := by decide +kernel
theorem dX6_pass_106 : decode cX6_pass 106 = .ok (.iconst 2, 1) := by decide +kernel
theorem dX6_pass_107 : decode cX6_pass 107 = .ok (.iaload, 1) := by decide +kernel
theorem dX6_pass_108 : decode cX6_pass 108 = .ok (.iconst 1, 1) := by decide +kernel
theorem dX6_pass_109 : decode cX6_pass 109 = .ok (.if_icmp .ne 24, 3) := by decide +kernel
theorem dX6_pass_112 : decode cX6_pass 112 = .ok (.aload 7, 2) := by decide +kernel
theorem dX6_pass_114 : decode cX6_pass 114 = .ok (.iconst 3, 1) := by decide +kernel
theorem dX6_pass_115 : decode cX6_pass 115 = .ok (.iaload, 1) := by decide +kernel
theorem dX6_pass_116 : decode cX6_pass 116 = .ok (.iload_n 2, 1) := by decide +kernel
theorem dX6_pass_117 : decode cX6_pass 117 = .ok (.if_icmp .eq 6, 3) := by decide +kernel
theorem dX6_pass_120 : decode cX6_pass 120 = .ok (.goto 13, 3) := by decide +kernel
theorem dX6_pass_123 : decode cX6_pass 123 = .ok (.aload 7, 2) := by decide +kernel
theorem dX6_pass_125 : decode cX6_pass 125 = .ok (.iconst 2, 1) := by decide +kernel
theorem dX6_pass_126 : decode cX6_pass 126 = .ok (.iconst 3, 1) := by decide +kernel
theorem dX6_pass_127 : decode cX6_pass 127 = .ok (.iastore, 1) := by decide +kernel
theorem dX6_pass_128 : decode cX6_pass 128 = .ok (.aload 7, 2) := by decide +kernel
theorem dX6_pass_130 : decode cX6_pass 130 = .ok (.iconst 3, 1) := by decide +kernel
theorem dX6_pass_131 : decode cX6_pass 131 = .ok (.iconst (-1), 1) := by decide +kernel
theorem dX6_pass_132 : decode cX6_pass 132 = .ok (.iastore, 1) := by decide +kernel
theorem dX6_pass_133 : decode cX6_pass 133 = .ok (.iinc 6 1, 3) := by decide +kernel
theorem dX6_pass_136 : decode cX6_pass 136 = .ok (.goto (-46), 3) := by decide +kernel
theorem dX6_pass_139 : decode cX6_pass 139 = .ok (.aload_n 3, 1) := by decide +kernel
theorem dX6_pass_140 : decode cX6_pass 140 = .ok (.iconst 2, 1) := by decide +kernel
theorem dX6_pass_141 : decode cX6_pass 141 = .ok (.putfield 109, 3) := by decide +kernel
theorem dX6_pass_144 : decode cX6_pass 144 = .ok (.aload_n 3, 1) := by decide +kernel
theorem dX6_pass_145 : decode cX6_pass 145 = .ok (.iconst (-1), 1) := by decide +kernel
theorem dX6_pass_146 : decode cX6_pass 146 = .ok (.putfield 74, 3) := by decide +kernel
theorem dX6_pass_149 : decode cX6_pass 149 = .ok (.aload_n 3, 1) := by decide +kernel
theorem dX6_pass_150 : decode cX6_pass 150 = .ok (.iconst 0, 1) := by decide +kernel
theorem dX6_pass_151 : decode cX6_pass 151 = .ok (.putfield 115, 3) := by decide +kernel
theorem dX6_pass_154 : decode cX6_pass 154 = .ok (.iinc 2 1, 3) := by decide +kernel
theorem dX6_pass_157 : decode cX6_pass 157 = .ok (.goto (-124), 3) := by decide +kernel
theorem dX6_pass_160 : decode cX6_pass 160 = .ok (.iconst 0, 1) := by decide +kernel
theorem dX6_pass_161 : decode cX6_pass 161 = .ok (.istore_n 2, 1) := by decide +kernel
theorem dX6_pass_162 : decode cX6_pass 162 = .ok (.iload_n 2, 1) := by decide +kernel
theorem dX6_pass_163 : decode cX6_pass 163 = .ok (.aload_n 0, 1) := by decide +kernel
theorem dX6_pass_164 : decode cX6_pass 164 = .ok (.getfield 31, 3) := by decide +kernel
theorem dX6_pass_167 : decode cX6_pass 167 = .ok (.arraylength, 1) := by decide +kernel
theorem dX6_pass_168 : decode cX6_pass 168 = .ok (.if_icmp .ge 199, 3) := by decide +kernel
theorem dX6_pass_171 : decode cX6_pass 171 = .ok (.aload_n 0, 1) := by decide +kernel
theorem dX6_pass_172 : decode cX6_pass 172 = .ok (.getfield 31, 3) := by decide +kernel
theorem dX6_pass_175 : decode cX6_pass 175 = .ok (.iload_n 2, 1) := by decide +kernel
theorem dX6_pass_176 : decode cX6_pass 176 = .ok (.aaload, 1) := by decide +kernel
theorem dX6_pass_177 : decode cX6_pass 177 = .ok (.astore_n 3, 1) := by decide +kernel
theorem dX6_pass_178 : decode cX6_pass 178 = .ok (.aload_n 3, 1) := by decide +kernel
theorem dX6_pass_179 : decode cX6_pass 179 = .ok (.getfield 115, 3) := by decide +kernel
theorem dX6_pass_182 : decode cX6_pass 182 = .ok (.ifCond .ne 6, 3) := by decide +kernel
theorem dX6_pass_185 : decode cX6_pass 185 = .ok (.goto 176, 3) := by decide +kernel
theorem dX6_pass_188 : decode cX6_pass 188 = .ok (.aload_n 3, 1) := by decide +kernel
theorem dX6_pass_189 : decode cX6_pass 189 = .ok (.dup, 1) := by decide +kernel
theorem dX6_pass_190 : decode cX6_pass 190 = .ok (.getfield 115, 3) := by decide +kernel
theorem dX6_pass_193 : decode cX6_pass 193 = .ok (.iconst 1, 1) := by decide +kernel
theorem dX6_pass_194 : decode cX6_pass 194 = .ok (.isub, 1) := by decide +kernel
theorem dX6_pass_195 : decode cX6_pass 195 = .ok (.putfield 115, 3) := by decide +kernel
theorem dX6_pass_198 : decode cX6_pass 198 = .ok (.aload_n 3, 1) := by decide +kernel
theorem dX6_pass_199 : decode cX6_pass 199 = .ok (.getfield 115, 3) := by decide +kernel
theorem dX6_pass_202 : decode cX6_pass 202 = .ok (.ifCond .le 6, 3) := by decide +kernel
theorem dX6_pass_205 : decode cX6_pass 205 = .ok (.goto 156, 3) := by decide +kernel
theorem dX6_pass_208 : decode cX6_pass 208 = .ok (.aload_n 3, 1) := by decide +kernel
theorem dX6_pass_209 : decode cX6_pass 209 = .ok (.aload_n 3, 1) := by decide +kernel
theorem dX6_pass_210 : decode cX6_pass 210 = .ok (.getfield 118, 3) := by decide +kernel
theorem dX6_pass_213 : decode cX6_pass 213 = .ok (.putfield 71, 3) := by decide +kernel
theorem dX6_pass_216 : decode cX6_pass 216 = .ok (.aload_n 3, 1) := by decide +kernel
theorem dX6_pass_217 : decode cX6_pass 217 = .ok (.getfield 121, 3) := by decide +kernel
theorem dX6_pass_220 : decode cX6_pass 220 = .ok (.bipush 100, 2) := by decide +kernel
theorem dX6_pass_222 : decode cX6_pass 222 = .ok (.if_icmp .ge 13, 3) := by decide +kernel
theorem dX6_pass_225 : decode cX6_pass 225 = .ok (.aload_n 3, 1) := by decide +kernel
theorem dX6_pass_226 : decode cX6_pass 226 = .ok (.dup, 1) := by decide +kernel
theorem dX6_pass_227 : decode cX6_pass 227 = .ok (.getfield 121, 3) := by decide +kernel
theorem dX6_pass_230 : decode cX6_pass 230 = .ok (.iconst 1, 1) := by decide +kernel
theorem dX6_pass_231 : decode cX6_pass 231 = .ok (.iadd, 1) := by decide +kernel
theorem dX6_pass_232 : decode cX6_pass 232 = .ok (.putfield 121, 3) := by decide +kernel
theorem dX6_pass_235 : decode cX6_pass 235 = .ok (.aload_n 3, 1) := by decide +kernel
theorem dX6_pass_236 : decode cX6_pass 236 = .ok (.getfield 71, 3) := by decide +kernel
theorem dX6_pass_239 : decode cX6_pass 239 = .ok (.aload_n 0, 1) := by decide +kernel
theorem dX6_pass_240 : decode cX6_pass 240 = .ok (.getfield 26, 3) := by decide +kernel
theorem dX6_pass_243 : decode cX6_pass 243 = .ok (.aload_n 3, 1) := by decide +kernel
theorem dX6_pass_244 : decode cX6_pass 244 = .ok (.getfield 74, 3) := by decide +kernel
theorem dX6_pass_247 : decode cX6_pass 247 = .ok (.iaload, 1) := by decide +kernel
theorem dX6_pass_248 : decode cX6_pass 248 = .ok (.if_icmp .eq 6, 3) := by decide +kernel
theorem dX6_pass_251 : decode cX6_pass 251 = .ok (.goto 110, 3) := by decide +kernel
theorem dX6_pass_254 : decode cX6_pass 254 = .ok (.aload_n 3, 1) := by decide +kernel
theorem dX6_pass_255 : decode cX6_pass 255 = .ok (.iconst 0, 1) := by decide +kernel
theorem dX6_pass_256 : decode cX6_pass 256 = .ok (.putfield 109, 3) := by decide +kernel
theorem dX6_pass_259 : decode cX6_pass 259 = .ok (.aload_n 0, 1) := by decide +kernel
theorem dX6_pass_260 : decode cX6_pass 260 = .ok (.getfield 36, 3) := by decide +kernel
theorem dX6_pass_263 : decode cX6_pass 263 = .ok (.astore 4, 2) := by decide +kernel
theorem dX6_pass_265 : decode cX6_pass 265 = .ok (.aload 4, 2) := by decide +kernel
theorem dX6_pass_267 : decode cX6_pass 267 = .ok (.arraylength, 1) := by decide +kernel
theorem dX6_pass_268 : decode cX6_pass 268 = .ok (.istore 5, 2) := by decide +kernel
theorem dX6_pass_270 : decode cX6_pass 270 = .ok (.iconst 0, 1) := by decide +kernel
theorem dX6_pass_271 : decode cX6_pass 271 = .ok (.istore 6, 2) := by decide +kernel
theorem dX6_pass_273 : decode cX6_pass 273 = .ok (.iload 6, 2) := by decide +kernel
theorem dX6_pass_275 : decode cX6_pass 275 = .ok (.iload 5, 2) := by decide +kernel
theorem dX6_pass_277 : decode cX6_pass 277 = .ok (.if_icmp .ge 84, 3) := by decide +kernel
theorem dX6_pass_280 : decode cX6_pass 280 = .ok (.aload 4, 2) := by decide +kernel
theorem dX6_pass_282 : decode cX6_pass 282 = .ok (.iload 6, 2) := by decide +kernel
theorem dX6_pass_284 : decode cX6_pass 284 = .ok (.aaload, 1) := by decide +kernel
theorem dX6_pass_285 : decode cX6_pass 285 = .ok (.astore 7, 2) := by decide +kernel
theorem dX6_pass_287 : decode cX6_pass 287 = .ok (.aload 7, 2) := by decide +kernel
theorem dX6_pass_289 : decode cX6_pass 289 = .ok (.iconst 2, 1) := by decide +kernel
theorem dX6_pass_290 : decode cX6_pass 290 = .ok (.iaload, 1) := by decide +kernel
theorem dX6_pass_291 : decode cX6_pass 291 = .ok (.iconst 1, 1) := by decide +kernel
theorem dX6_pass_292 : decode cX6_pass 292 = .ok (.if_icmp .ne 63, 3) := by decide +kernel
theorem dX6_pass_295 : decode cX6_pass 295 = .ok (.aload 7, 2) := by decide +kernel
theorem dX6_pass_297 : decode cX6_pass 297 = .ok (.iconst 3, 1) := by decide +kernel
theorem dX6_pass_298 : decode cX6_pass 298 = .ok (.iaload, 1) := by decide +kernel
theorem dX6_pass_299 : decode cX6_pass 299 = .ok (.iload_n 2, 1) := by decide +kernel
theorem dX6_pass_300 : decode cX6_pass 300 = .ok (.if_icmp .eq 6, 3) := by decide +kernel
theorem dX6_pass_303 : decode cX6_pass 303 = .ok (.goto 52, 3) := by decide +kernel
theorem dX6_pass_306 : decode cX6_pass 306 = .ok (.aload 7, 2) := by decide +kernel
theorem dX6_pass_308 : decode cX6_pass 308 = .ok (.iconst 3, 1) := by decide +kernel
theorem dX6_pass_309 : decode cX6_pass 309 = .ok (.aload_n 3, 1) := by decide +kernel
theorem dX6_pass_310 : decode cX6_pass 310 = .ok (.getfield 74, 3) := by decide +kernel
theorem dX6_pass_313 : decode cX6_pass 313 = .ok (.iastore, 1) := by decide +kernel
theorem dX6_pass_314 : decode cX6_pass 314 = .ok (.aload 7, 2) := by decide +kernel
theorem dX6_pass_316 : decode cX6_pass 316 = .ok (.iconst 2, 1) := by decide +kernel
theorem dX6_pass_317 : decode cX6_pass 317 = .ok (.aload 7, 2) := by decide +kernel
theorem dX6_pass_319 : decode cX6_pass 319 = .ok (.iconst 1, 1) := by decide +kernel
theorem dX6_pass_320 : decode cX6_pass 320 = .ok (.iaload, 1) := by decide +kernel
theorem dX6_pass_321 : decode cX6_pass 321 = .ok (.aload_n 3, 1) := by decide +kernel
theorem dX6_pass_322 : decode cX6_pass 322 = .ok (.getfield 74, 3) := by decide +kernel
theorem dX6_pass_325 : decode cX6_pass 325 = .ok (.if_icmp .ne 7, 3) := by decide +kernel
theorem dX6_pass_328 : decode cX6_pass 328 = .ok (.iconst 2, 1) := by decide +kernel
theorem dX6_pass_329 : decode cX6_pass 329 = .ok (.goto 4, 3) := by decide +kernel
theorem dX6_pass_332 : decode cX6_pass 332 = .ok (.iconst 0, 1) := by decide +kernel
theorem dX6_pass_333 : decode cX6_pass 333 = .ok (.iastore, 1) := by decide +kernel
theorem dX6_pass_334 : decode cX6_pass 334 = .ok (.aload 7, 2) := by decide +kernel
theorem dX6_pass_336 : decode cX6_pass 336 = .ok (.iconst 2, 1) := by decide +kernel
theorem dX6_pass_337 : decode cX6_pass 337 = .ok (.iaload, 1) := by decide +kernel
theorem dX6_pass_338 : decode cX6_pass 338 = .ok (.ifCond .ne 6, 3) := by decide +kernel
theorem dX6_pass_341 : decode cX6_pass 341 = .ok (.goto 14, 3) := by decide +kernel
theorem dX6_pass_344 : decode cX6_pass 344 = .ok (.aload 7, 2) := by decide +kernel
theorem dX6_pass_346 : decode cX6_pass 346 = .ok (.iconst 4, 1) := by decide +kernel
theorem dX6_pass_347 : decode cX6_pass 347 = .ok (.aload_n 0, 1) := by decide +kernel
theorem dX6_pass_348 : decode cX6_pass 348 = .ok (.getfield 46, 3) := by decide +kernel
theorem dX6_pass_351 : decode cX6_pass 351 = .ok (.iastore, 1) := by decide +kernel
theorem dX6_pass_352 : decode cX6_pass 352 = .ok (.iinc 1 1, 3) := by decide +kernel
theorem dX6_pass_355 : decode cX6_pass 355 = .ok (.iinc 6 1, 3) := by decide +kernel
theorem dX6_pass_358 : decode cX6_pass 358 = .ok (.goto (-85), 3) := by decide +kernel
theorem dX6_pass_361 : decode cX6_pass 361 = .ok (.iinc 2 1, 3) := by decide +kernel
theorem dX6_pass_364 : decode cX6_pass 364 = .ok (.goto (-202), 3) := by decide +kernel
theorem dX6_pass_367 : decode cX6_pass 367 = .ok (.iconst 0, 1) := by decide +kernel
theorem dX6_pass_368 : decode cX6_pass 368 = .ok (.istore_n 2, 1) := by decide +kernel
theorem dX6_pass_369 : decode cX6_pass 369 = .ok (.iload_n 2, 1) := by decide +kernel
theorem dX6_pass_370 : decode cX6_pass 370 = .ok (.aload_n 0, 1) := by decide +kernel
theorem dX6_pass_371 : decode cX6_pass 371 = .ok (.getfield 31, 3) := by decide +kernel
theorem dX6_pass_374 : decode cX6_pass 374 = .ok (.arraylength, 1) := by decide +kernel
theorem dX6_pass_375 : decode cX6_pass 375 = .ok (.if_icmp .ge 277, 3) := by decide +kernel
theorem dX6_pass_378 : decode cX6_pass 378 = .ok (.aload_n 0, 1) := by decide +kernel
theorem dX6_pass_379 : decode cX6_pass 379 = .ok (.getfield 31, 3) := by decide +kernel
theorem dX6_pass_382 : decode cX6_pass 382 = .ok (.iload_n 2, 1) := by decide +kernel
theorem dX6_pass_383 : decode cX6_pass 383 = .ok (.aaload, 1) := by decide +kernel
theorem dX6_pass_384 : decode cX6_pass 384 = .ok (.astore_n 3, 1) := by decide +kernel
theorem dX6_pass_385 : decode cX6_pass 385 = .ok (.aload_n 3, 1) := by decide +kernel
theorem dX6_pass_386 : decode cX6_pass 386 = .ok (.getfield 109, 3) := by decide +kernel
theorem dX6_pass_389 : decode cX6_pass 389 = .ok (.iconst 1, 1) := by decide +kernel
theorem dX6_pass_390 : decode cX6_pass 390 = .ok (.if_icmp .ne 256, 3) := by decide +kernel
theorem dX6_pass_393 : decode cX6_pass 393 = .ok (.aload_n 3, 1) := by decide +kernel
theorem dX6_pass_394 : decode cX6_pass 394 = .ok (.getfield 115, 3) := by decide +kernel
theorem dX6_pass_397 : decode cX6_pass 397 = .ok (.ifCond .le 6, 3) := by decide +kernel
theorem dX6_pass_400 : decode cX6_pass 400 = .ok (.goto 246, 3) := by decide +kernel
theorem dX6_pass_403 : decode cX6_pass 403 = .ok (.aload_n 0, 1) := by decide +kernel
theorem dX6_pass_404 : decode cX6_pass 404 = .ok (.iload_n 2, 1) := by decide +kernel
theorem dX6_pass_405 : decode cX6_pass 405 = .ok (.invokevirtual 112, 3) := by decide +kernel
theorem dX6_pass_408 : decode cX6_pass 408 = .ok (.istore 4, 2) := by decide +kernel
theorem dX6_pass_410 : decode cX6_pass 410 = .ok (.aload_n 0, 1) := by decide +kernel
theorem dX6_pass_411 : decode cX6_pass 411 = .ok (.aload_n 3, 1) := by decide +kernel
theorem dX6_pass_412 : decode cX6_pass 412 = .ok (.getfield 71, 3) := by decide +kernel
theorem dX6_pass_415 : decode cX6_pass 415 = .ok (.aload_n 0, 1) := by decide +kernel
theorem dX6_pass_416 : decode cX6_pass 416 = .ok (.getfield 26, 3) := by decide +kernel
theorem dX6_pass_419 : decode cX6_pass 419 = .ok (.aload_n 3, 1) := by decide +kernel
theorem dX6_pass_420 : decode cX6_pass 420 = .ok (.getfield 74, 3) := by decide +kernel
theorem dX6_pass_423 : decode cX6_pass 423 = .ok (.iaload, 1) := by decide +kernel
theorem dX6_pass_424 : decode cX6_pass 424 = .ok (.iload 4, 2) := by decide +kernel
theorem dX6_pass_426 : decode cX6_pass 426 = .ok (.aload_n 3, 1) := by decide +kernel
theorem dX6_pass_427 : decode cX6_pass 427 = .ok (.getfield 68, 3) := by decide +kernel
theorem dX6_pass_430 : decode cX6_pass 430 = .ok (.aload_n 3, 1) := by decide +kernel
theorem dX6_pass_431 : decode cX6_pass 431 = .ok (.getfield 121, 3) := by decide +kernel
theorem dX6_pass_434 : decode cX6_pass 434 = .ok (.invokevirtual 124, 3) := by decide +kernel
theorem dX6_pass_437 : decode cX6_pass 437 = .ok (.ifCond .ge 6, 3) := by decide +kernel
theorem dX6_pass_440 : decode cX6_pass 440 = .ok (.goto 206, 3) := by decide +kernel
theorem dX6_pass_443 : decode cX6_pass 443 = .ok (.sipush 159, 3) := by decide +kernel
theorem dX6_pass_446 : decode cX6_pass 446 = .ok (.istore 5, 2) := by decide +kernel
theorem dX6_pass_448 : decode cX6_pass 448 = .ok (.iload 5, 2) := by decide +kernel
theorem dX6_pass_450 : decode cX6_pass 450 = .ok (.ifCond .lt 87, 3) := by decide +kernel
theorem dX6_pass_453 : decode cX6_pass 453 = .ok (.iload 5, 2) := by decide +kernel
theorem dX6_pass_455 : decode cX6_pass 455 = .ok (.aload_n 3, 1) := by decide +kernel
theorem dX6_pass_456 : decode cX6_pass 456 = .ok (.getfield 71, 3) := by decide +kernel
theorem dX6_pass_459 : decode cX6_pass 459 = .ok (.invokestatic 102, 3) := by decide +kernel
theorem dX6_pass_462 : decode cX6_pass 462 = .ok (.ifCond .eq 69, 3) := by decide +kernel
theorem dX6_pass_465 : decode cX6_pass 465 = .ok (.aload_n 0, 1) := by decide +kernel
theorem dX6_pass_466 : decode cX6_pass 466 = .ok (.iload 5, 2) := by decide +kernel
theorem dX6_pass_468 : decode cX6_pass 468 = .ok (.iload 4, 2) := by decide +kernel
theorem dX6_pass_470 : decode cX6_pass 470 = .ok (.invokevirtual 87, 3) := by decide +kernel
theorem dX6_pass_473 : decode cX6_pass 473 = .ok (.ifCond .eq 58, 3) := by decide +kernel
theorem dX6_pass_476 : decode cX6_pass 476 = .ok (.aload_n 0, 1) := by decide +kernel
theorem dX6_pass_477 : decode cX6_pass 477 = .ok (.getfield 40, 3) := by decide +kernel
theorem dX6_pass_480 : decode cX6_pass 480 = .ok (.iload 5, 2) := by decide +kernel
theorem dX6_pass_482 : decode cX6_pass 482 = .ok (.iaload, 1) := by decide +kernel
theorem dX6_pass_483 : decode cX6_pass 483 = .ok (.sipush 9999, 3) := by decide +kernel
theorem dX6_pass_486 : decode cX6_pass 486 = .ok (.if_icmp .ge 45, 3) := by decide +kernel
theorem dX6_pass_489 : decode cX6_pass 489 = .ok (.aload_n 0, 1) := by decide +kernel
theorem dX6_pass_490 : decode cX6_pass 490 = .ok (.getfield 40, 3) := by decide +kernel
theorem dX6_pass_493 : decode cX6_pass 493 = .ok (.iload 5, 2) := by decide +kernel
theorem dX6_pass_495 : decode cX6_pass 495 = .ok (.iaload, 1) := by decide +kernel
theorem dX6_pass_496 : decode cX6_pass 496 = .ok (.aload_n 0, 1) := by decide +kernel
theorem dX6_pass_497 : decode cX6_pass 497 = .ok (.iload 5, 2) := by decide +kernel
theorem dX6_pass_499 : decode cX6_pass 499 = .ok (.iload 4, 2) := by decide +kernel
theorem dX6_pass_501 : decode cX6_pass 501 = .ok (.aload_n 3, 1) := by decide +kernel
theorem dX6_pass_502 : decode cX6_pass 502 = .ok (.getfield 68, 3) := by decide +kernel
theorem dX6_pass_505 : decode cX6_pass 505 = .ok (.aload_n 3, 1) := by decide +kernel
theorem dX6_pass_506 : decode cX6_pass 506 = .ok (.getfield 121, 3) := by decide +kernel
theorem dX6_pass_509 : decode cX6_pass 509 = .ok (.invokevirtual 91, 3) := by decide +kernel
theorem dX6_pass_512 : decode cX6_pass 512 = .ok (.iadd, 1) := by decide +kernel
theorem dX6_pass_513 : decode cX6_pass 513 = .ok (.aload_n 0, 1) := by decide +kernel
theorem dX6_pass_514 : decode cX6_pass 514 = .ok (.getfield 40, 3) := by decide +kernel
theorem dX6_pass_517 : decode cX6_pass 517 = .ok (.aload_n 3, 1) := by decide +kernel
theorem dX6_pass_518 : decode cX6_pass 518 = .ok (.getfield 71, 3) := by decide +kernel
theorem dX6_pass_521 : decode cX6_pass 521 = .ok (.iaload, 1) := by decide +kernel
theorem dX6_pass_522 : decode cX6_pass 522 = .ok (.if_icmp .ne 9, 3) := by decide +kernel
theorem dX6_pass_525 : decode cX6_pass 525 = .ok (.aload_n 3, 1) := by decide +kernel
theorem dX6_pass_526 : decode cX6_pass 526 = .ok (.iload 5, 2) := by decide +kernel
theorem dX6_pass_528 : decode cX6_pass 528 = .ok (.putfield 118, 3) := by decide +kernel
theorem dX6_pass_531 : decode cX6_pass 531 = .ok (.iinc 5 (-1), 3) := by decide +kernel
theorem dX6_pass_534 : decode cX6_pass 534 = .ok (.goto (-86), 3) := by decide +kernel
theorem dX6_pass_537 : decode cX6_pass 537 = .ok (.aload_n 3, 1) := by decide +kernel
theorem dX6_pass_538 : decode cX6_pass 538 = .ok (.aload_n 0, 1) := by decide +kernel
theorem dX6_pass_539 : decode cX6_pass 539 = .ok (.aload_n 3, 1) := by decide +kernel
theorem dX6_pass_540 : decode cX6_pass 540 = .ok (.getfield 118, 3) := by decide +kernel
theorem dX6_pass_543 : decode cX6_pass 543 = .ok (.iload 4, 2) := by decide +kernel
theorem dX6_pass_545 : decode cX6_pass 545 = .ok (.aload_n 3, 1) := by decide +kernel
theorem dX6_pass_546 : decode cX6_pass 546 = .ok (.getfield 68, 3) := by decide +kernel
theorem dX6_pass_549 : decode cX6_pass 549 = .ok (.aload_n 3, 1) := by decide +kernel
theorem dX6_pass_550 : decode cX6_pass 550 = .ok (.getfield 121, 3) := by decide +kernel
theorem dX6_pass_553 : decode cX6_pass 553 = .ok (.invokevirtual 91, 3) := by decide +kernel
theorem dX6_pass_556 : decode cX6_pass 556 = .ok (.putfield 115, 3) := by decide +kernel
theorem dX6_pass_559 : decode cX6_pass 559 = .ok (.aload_n 0, 1) := by decide +kernel
theorem dX6_pass_560 : decode cX6_pass 560 = .ok (.getfield 7, 3) := by decide +kernel
theorem dX6_pass_563 : decode cX6_pass 563 = .ok (.aload_n 3, 1) := by decide +kernel
theorem dX6_pass_564 : decode cX6_pass 564 = .ok (.getfield 71, 3) := by decide +kernel
theorem dX6_pass_567 : decode cX6_pass 567 = .ok (.iaload, 1) := by decide +kernel
theorem dX6_pass_568 : decode cX6_pass 568 = .ok (.ifCond .lt 78, 3) := by decide +kernel
theorem dX6_pass_571 : decode cX6_pass 571 = .ok (.aload_n 0, 1) := by decide +kernel
theorem dX6_pass_572 : decode cX6_pass 572 = .ok (.getfield 7, 3) := by decide +kernel
theorem dX6_pass_575 : decode cX6_pass 575 = .ok (.aload_n 3, 1) := by decide +kernel
theorem dX6_pass_576 : decode cX6_pass 576 = .ok (.getfield 71, 3) := by decide +kernel
theorem dX6_pass_579 : decode cX6_pass 579 = .ok (.iaload, 1) := by decide +kernel
theorem dX6_pass_580 : decode cX6_pass 580 = .ok (.aload_n 0, 1) := by decide +kernel
theorem dX6_pass_581 : decode cX6_pass 581 = .ok (.aload_n 3, 1) := by decide +kernel
theorem dX6_pass_582 : decode cX6_pass 582 = .ok (.getfield 71, 3) := by decide +kernel
theorem dX6_pass_585 : decode cX6_pass 585 = .ok (.iload 4, 2) := by decide +kernel
theorem dX6_pass_587 : decode cX6_pass 587 = .ok (.invokevirtual 77, 3) := by decide +kernel
theorem dX6_pass_590 : decode cX6_pass 590 = .ok (.bipush 10, 2) := by decide +kernel
theorem dX6_pass_592 : decode cX6_pass 592 = .ok (.iadd, 1) := by decide +kernel
theorem dX6_pass_593 : decode cX6_pass 593 = .ok (.if_icmp .ge 53, 3) := by decide +kernel
theorem dX6_pass_596 : decode cX6_pass 596 = .ok (.aload_n 0, 1) := by decide +kernel
theorem dX6_pass_597 : decode cX6_pass 597 = .ok (.getfield 16, 3) := by decide +kernel
theorem dX6_pass_600 : decode cX6_pass 600 = .ok (.aload_n 3, 1) := by decide +kernel
theorem dX6_pass_601 : decode cX6_pass 601 = .ok (.getfield 71, 3) := by decide +kernel
theorem dX6_pass_604 : decode cX6_pass 604 = .ok (.iaload, 1) := by decide +kernel
theorem dX6_pass_605 : decode cX6_pass 605 = .ok (.bipush 9, 2) := by decide +kernel
theorem dX6_pass_607 : decode cX6_pass 607 = .ok (.if_icmp .ge 16, 3) := by decide +kernel
theorem dX6_pass_610 : decode cX6_pass 610 = .ok (.aload_n 0, 1) := by decide +kernel
theorem dX6_pass_611 : decode cX6_pass 611 = .ok (.getfield 16, 3) := by decide +kernel
theorem dX6_pass_614 : decode cX6_pass 614 = .ok (.aload_n 3, 1) := by decide +kernel
theorem dX6_pass_615 : decode cX6_pass 615 = .ok (.getfield 71, 3) := by decide +kernel
theorem dX6_pass_618 : decode cX6_pass 618 = .ok (.dup2, 1) := by decide +kernel
theorem dX6_pass_619 : decode cX6_pass 619 = .ok (.iaload, 1) := by decide +kernel
theorem dX6_pass_620 : decode cX6_pass 620 = .ok (.iconst 1, 1) := by decide +kernel
theorem dX6_pass_621 : decode cX6_pass 621 = .ok (.iadd, 1) := by decide +kernel
theorem dX6_pass_622 : decode cX6_pass 622 = .ok (.iastore, 1) := by decide +kernel
theorem dX6_pass_623 : decode cX6_pass 623 = .ok (.aload_n 0, 1) := by decide +kernel
theorem dX6_pass_624 : decode cX6_pass 624 = .ok (.getfield 16, 3) := by decide +kernel
theorem dX6_pass_627 : decode cX6_pass 627 = .ok (.aload_n 3, 1) := by decide +kernel
theorem dX6_pass_628 : decode cX6_pass 628 = .ok (.getfield 71, 3) := by decide +kernel
theorem dX6_pass_631 : decode cX6_pass 631 = .ok (.iaload, 1) := by decide +kernel
theorem dX6_pass_632 : decode cX6_pass 632 = .ok (.iconst 2, 1) := by decide +kernel
theorem dX6_pass_633 : decode cX6_pass 633 = .ok (.if_icmp .le 13, 3) := by decide +kernel
theorem dX6_pass_636 : decode cX6_pass 636 = .ok (.aload_n 0, 1) := by decide +kernel
theorem dX6_pass_637 : decode cX6_pass 637 = .ok (.getfield 19, 3) := by decide +kernel
theorem dX6_pass_640 : decode cX6_pass 640 = .ok (.aload_n 3, 1) := by decide +kernel
theorem dX6_pass_641 : decode cX6_pass 641 = .ok (.getfield 71, 3) := by decide +kernel
theorem dX6_pass_644 : decode cX6_pass 644 = .ok (.iconst 1, 1) := by decide +kernel
theorem dX6_pass_645 : decode cX6_pass 645 = .ok (.bastore, 1) := by decide +kernel
theorem dX6_pass_646 : decode cX6_pass 646 = .ok (.iinc 2 1, 3) := by decide +kernel
theorem dX6_pass_649 : decode cX6_pass 649 = .ok (.goto (-280), 3) := by decide +kernel
theorem dX6_pass_652 : decode cX6_pass 652 = .ok (.aload_n 0, 1) := by decide +kernel
theorem dX6_pass_653 : decode cX6_pass 653 = .ok (.getfield 31, 3) := by decide +kernel
theorem dX6_pass_656 : decode cX6_pass 656 = .ok (.astore_n 2, 1) := by decide +kernel
theorem dX6_pass_657 : decode cX6_pass 657 = .ok (.aload_n 2, 1) := by decide +kernel
theorem dX6_pass_658 : decode cX6_pass 658 = .ok (.arraylength, 1) := by decide +kernel
theorem dX6_pass_659 : decode cX6_pass 659 = .ok (.istore_n 3, 1) := by decide +kernel
theorem dX6_pass_660 : decode cX6_pass 660 = .ok (.iconst 0, 1) := by decide +kernel
theorem dX6_pass_661 : decode cX6_pass 661 = .ok (.istore 4, 2) := by decide +kernel
theorem dX6_pass_663 : decode cX6_pass 663 = .ok (.iload 4, 2) := by decide +kernel
theorem dX6_pass_665 : decode cX6_pass 665 = .ok (.iload_n 3, 1) := by decide +kernel
theorem dX6_pass_666 : decode cX6_pass 666 = .ok (.if_icmp .ge 48, 3) := by decide +kernel
theorem dX6_pass_669 : decode cX6_pass 669 = .ok (.aload_n 2, 1) := by decide +kernel
theorem dX6_pass_670 : decode cX6_pass 670 = .ok (.iload 4, 2) := by decide +kernel
theorem dX6_pass_672 : decode cX6_pass 672 = .ok (.aaload, 1) := by decide +kernel
theorem dX6_pass_673 : decode cX6_pass 673 = .ok (.astore 5, 2) := by decide +kernel
theorem dX6_pass_675 : decode cX6_pass 675 = .ok (.aload 5, 2) := by decide +kernel
theorem dX6_pass_677 : decode cX6_pass 677 = .ok (.getfield 109, 3) := by decide +kernel
theorem dX6_pass_680 : decode cX6_pass 680 = .ok (.ifCond .ne 28, 3) := by decide +kernel
theorem dX6_pass_683 : decode cX6_pass 683 = .ok (.aload 5, 2) := by decide +kernel
theorem dX6_pass_685 : decode cX6_pass 685 = .ok (.aload 5, 2) := by decide +kernel
theorem dX6_pass_687 : decode cX6_pass 687 = .ok (.getfield 121, 3) := by decide +kernel
theorem dX6_pass_690 : decode cX6_pass 690 = .ok (.iconst 2, 1) := by decide +kernel
theorem dX6_pass_691 : decode cX6_pass 691 = .ok (.if_icmp .le 13, 3) := by decide +kernel
theorem dX6_pass_694 : decode cX6_pass 694 = .ok (.aload 5, 2) := by decide +kernel
theorem dX6_pass_696 : decode cX6_pass 696 = .ok (.getfield 121, 3) := by decide +kernel
theorem dX6_pass_699 : decode cX6_pass 699 = .ok (.iconst 2, 1) := by decide +kernel
theorem dX6_pass_700 : decode cX6_pass 700 = .ok (.isub, 1) := by decide +kernel
theorem dX6_pass_701 : decode cX6_pass 701 = .ok (.goto 4, 3) := by decide +kernel
theorem dX6_pass_704 : decode cX6_pass 704 = .ok (.iconst 0, 1) := by decide +kernel
theorem dX6_pass_705 : decode cX6_pass 705 = .ok (.putfield 121, 3) := by decide +kernel
theorem dX6_pass_708 : decode cX6_pass 708 = .ok (.iinc 4 1, 3) := by decide +kernel
theorem dX6_pass_711 : decode cX6_pass 711 = .ok (.goto (-48), 3) := by decide +kernel
theorem dX6_pass_714 : decode cX6_pass 714 = .ok (.aload_n 0, 1) := by decide +kernel
theorem dX6_pass_715 : decode cX6_pass 715 = .ok (.dup, 1) := by decide +kernel
theorem dX6_pass_716 : decode cX6_pass 716 = .ok (.getfield 46, 3) := by decide +kernel
theorem dX6_pass_719 : decode cX6_pass 719 = .ok (.iconst 1, 1) := by decide +kernel
theorem dX6_pass_720 : decode cX6_pass 720 = .ok (.iadd, 1) := by decide +kernel
theorem dX6_pass_721 : decode cX6_pass 721 = .ok (.putfield 46, 3) := by decide +kernel
theorem dX6_pass_724 : decode cX6_pass 724 = .ok (.iload_n 1, 1) := by decide +kernel
theorem dX6_pass_725 : decode cX6_pass 725 = .ok (.ireturn, 1) := by decide +kernel
theorem dX7_init_0 : decode cX7_init 0 = .ok (.aload_n 0, 1) := by decide +kernel
theorem dX7_init_1 : decode cX7_init 1 = .ok (.invokespecial 1, 3) := by decide +kernel
theorem dX7_init_4 : decode cX7_init 4 = .ok (.return_, 1) := by decide +kernel
theorem dJ9_floorMod_7cf53_0 : decode cJ9_floorMod_7cf53 0 = .ok (.iload_n 0, 1) := by decide +kernel
theorem dJ9_floorMod_7cf53_1 : decode cJ9_floorMod_7cf53 1 = .ok (.iload_n 1, 1) := by decide +kernel
theorem dJ9_floorMod_7cf53_2 : decode cJ9_floorMod_7cf53 2 = .ok (.irem, 1) := by decide +kernel
theorem dJ9_floorMod_7cf53_3 : decode cJ9_floorMod_7cf53 3 = .ok (.istore_n 2, 1) := by decide +kernel
theorem dJ9_floorMod_7cf53_4 : decode cJ9_floorMod_7cf53 4 = .ok (.iload_n 0, 1) := by decide +kernel
theorem dJ9_floorMod_7cf53_5 : decode cJ9_floorMod_7cf53 5 = .ok (.iload_n 1, 1) := by decide +kernel
theorem dJ9_floorMod_7cf53_6 : decode cJ9_floorMod_7cf53 6 = .ok (.ixor, 1) := by decide +kernel
theorem dJ9_floorMod_7cf53_7 : decode cJ9_floorMod_7cf53 7 = .ok (.ifCond .ge 11, 3) := by decide +kernel
theorem dJ9_floorMod_7cf53_10 : decode cJ9_floorMod_7cf53 10 = .ok (.iload_n 2, 1) := by decide +kernel
theorem dJ9_floorMod_7cf53_11 : decode cJ9_floorMod_7cf53 11 = .ok (.ifCond .eq 7, 3) := by decide +kernel
theorem dJ9_floorMod_7cf53_14 : decode cJ9_floorMod_7cf53 14 = .ok (.iload_n 2, 1) := by decide +kernel
theorem dJ9_floorMod_7cf53_15 : decode cJ9_floorMod_7cf53 15 = .ok (.iload_n 1, 1) := by decide +kernel
theorem dJ9_floorMod_7cf53_16 : decode cJ9_floorMod_7cf53 16 = .ok (.iadd, 1) := by decide +kernel
theorem dJ9_floorMod_7cf53_17 : decode cJ9_floorMod_7cf53 17 = .ok (.ireturn, 1) := by decide +kernel
theorem dJ9_floorMod_7cf53_18 : decode cJ9_floorMod_7cf53 18 = .ok (.iload_n 2, 1) := by decide +kernel
theorem dJ9_floorMod_7cf53_19 : decode cJ9_floorMod_7cf53 19 = .ok (.ireturn, 1) := by decide +kernel
theorem dJ9_abs_0f7a4_0 : decode cJ9_abs_0f7a4 0 = .ok (.iload_n 0, 1) := by decide +kernel
theorem dJ9_abs_0f7a4_1 : decode cJ9_abs_0f7a4 1 = .ok (.ifCond .ge 8, 3) := by decide +kernel
theorem dJ9_abs_0f7a4_4 : decode cJ9_abs_0f7a4 4 = .ok (.iload_n 0, 1) := by decide +kernel
theorem dJ9_abs_0f7a4_5 : decode cJ9_abs_0f7a4 5 = .ok (.ineg, 1) := by decide +kernel
theorem dJ9_abs_0f7a4_6 : decode cJ9_abs_0f7a4 6 = .ok (.goto 4, 3) := by decide +kernel
theorem dJ9_abs_0f7a4_9 : decode cJ9_abs_0f7a4 9 = .ok (.iload_n 0, 1) := by decide +kernel
theorem dJ9_abs_0f7a4_10 : decode cJ9_abs_0f7a4 10 = .ok (.ireturn, 1) := by decide +kernel
theorem dJ9_max_7cf53_0 : decode cJ9_max_7cf53 0 = .ok (.iload_n 0, 1) := by decide +kernel
theorem dJ9_max_7cf53_1 : decode cJ9_max_7cf53 1 = .ok (.iload_n 1, 1) := by decide +kernel
theorem dJ9_max_7cf53_2 : decode cJ9_max_7cf53 2 = .ok (.if_icmp .lt 7, 3) := by decide +kernel
theorem dJ9_max_7cf53_5 : decode cJ9_max_7cf53 5 = .ok (.iload_n 0, 1) := by decide +kernel
theorem dJ9_max_7cf53_6 : decode cJ9_max_7cf53 6 = .ok (.goto 4, 3) := by decide +kernel
theorem dJ9_max_7cf53_9 : decode cJ9_max_7cf53 9 = .ok (.iload_n 1, 1) := by decide +kernel
theorem dJ9_max_7cf53_10 : decode cJ9_max_7cf53 10 = .ok (.ireturn, 1) := by decide +kernel
theorem dJ9_min_7cf53_0 : decode cJ9_min_7cf53 0 = .ok (.iload_n 0, 1) := by decide +kernel
theorem dJ9_min_7cf53_1 : decode cJ9_min_7cf53 1 = .ok (.iload_n 1, 1) := by decide +kernel
theorem dJ9_min_7cf53_2 : decode cJ9_min_7cf53 2 = .ok (.if_icmp .gt 7, 3) := by decide +kernel
theorem dJ9_min_7cf53_5 : decode cJ9_min_7cf53 5 = .ok (.iload_n 0, 1) := by decide +kernel
theorem dJ9_min_7cf53_6 : decode cJ9_min_7cf53 6 = .ok (.goto 4, 3) := by decide +kernel
theorem dJ9_min_7cf53_9 : decode cJ9_min_7cf53 9 = .ok (.iload_n 1, 1) := by decide +kernel
theorem dJ9_min_7cf53_10 : decode cJ9_min_7cf53 10 = .ok (.ireturn, 1) := by decide +kernel
theorem dJ7_fill_53178_0 : decode cJ7_fill_53178 0 = .ok (.iconst 0, 1) := by decide +kernel
theorem dJ7_fill_53178_1 : decode cJ7_fill_53178 1 = .ok (.istore_n 2, 1) := by decide +kernel
theorem dJ7_fill_53178_2 : decode cJ7_fill_53178 2 = .ok (.aload_n 0, 1) := by decide +kernel
theorem dJ7_fill_53178_3 : decode cJ7_fill_53178 3 = .ok (.arraylength, 1) := by decide +kernel
theorem dJ7_fill_53178_4 : decode cJ7_fill_53178 4 = .ok (.istore_n 3, 1) := by decide +kernel
theorem dJ7_fill_53178_5 : decode cJ7_fill_53178 5 = .ok (.iload_n 2, 1) := by decide +kernel
theorem dJ7_fill_53178_6 : decode cJ7_fill_53178 6 = .ok (.iload_n 3, 1) := by decide +kernel
theorem dJ7_fill_53178_7 : decode cJ7_fill_53178 7 = .ok (.if_icmp .ge 13, 3) := by decide +kernel
theorem dJ7_fill_53178_10 : decode cJ7_fill_53178 10 = .ok (.aload_n 0, 1) := by decide +kernel
theorem dJ7_fill_53178_11 : decode cJ7_fill_53178 11 = .ok (.iload_n 2, 1) := by decide +kernel
theorem dJ7_fill_53178_12 : decode cJ7_fill_53178 12 = .ok (.iload_n 1, 1) := by decide +kernel
theorem dJ7_fill_53178_13 : decode cJ7_fill_53178 13 = .ok (.iastore, 1) := by decide +kernel
theorem dJ7_fill_53178_14 : decode cJ7_fill_53178 14 = .ok (.iinc 2 1, 3) := by decide +kernel
theorem dJ7_fill_53178_17 : decode cJ7_fill_53178 17 = .ok (.goto (-12), 3) := by decide +kernel
theorem dJ7_fill_53178_20 : decode cJ7_fill_53178 20 = .ok (.return_, 1) := by decide +kernel
theorem dL_below_0 : decode cL_below 0 = .ok (.iload_n 0, 1) := by decide +kernel
theorem dL_below_1 : decode cL_below 1 = .ok (.ldc 7, 2) := by decide +kernel
theorem dL_below_3 : decode cL_below 3 = .ok (.iand, 1) := by decide +kernel
theorem dL_below_4 : decode cL_below 4 = .ok (.iload_n 1, 1) := by decide +kernel
theorem dL_below_5 : decode cL_below 5 = .ok (.irem, 1) := by decide +kernel
theorem dL_below_6 : decode cL_below 6 = .ok (.ireturn, 1) := by decide +kernel
theorem dL_cell_0 : decode cL_cell 0 = .ok (.iload_n 1, 1) := by decide +kernel
theorem dL_cell_1 : decode cL_cell 1 = .ok (.aload_n 0, 1) := by decide +kernel
theorem dL_cell_2 : decode cL_cell 2 = .ok (.arraylength, 1) := by decide +kernel
theorem dL_cell_3 : decode cL_cell 3 = .ok (.if_icmp .ge 9, 3) := by decide +kernel
theorem dL_cell_6 : decode cL_cell 6 = .ok (.aload_n 0, 1) := by decide +kernel
theorem dL_cell_7 : decode cL_cell 7 = .ok (.iload_n 1, 1) := by decide +kernel
theorem dL_cell_8 : decode cL_cell 8 = .ok (.iaload, 1) := by decide +kernel
theorem dL_cell_9 : decode cL_cell 9 = .ok (.goto 9, 3) := by decide +kernel
theorem dL_cell_12 : decode cL_cell 12 = .ok (.ldc 8, 2) := by decide +kernel
theorem dL_cell_14 : decode cL_cell 14 = .ok (.iload_n 1, 1) := by decide +kernel
theorem dL_cell_15 : decode cL_cell 15 = .ok (.iconst 3, 1) := by decide +kernel
theorem dL_cell_16 : decode cL_cell 16 = .ok (.iadd, 1) := by decide +kernel
theorem dL_cell_17 : decode cL_cell 17 = .ok (.imul, 1) := by decide +kernel
theorem dL_cell_18 : decode cL_cell 18 = .ok (.ireturn, 1) := by decide +kernel
theorem dL_build_0 : decode cL_build 0 = .ok (.new 9, 3) := by decide +kernel
theorem dL_build_3 : decode cL_build 3 = .ok (.dup, 1) := by decide +kernel
theorem dL_build_4 : decode cL_build 4 = .ok (.invokespecial 11, 3) := by decide +kernel
theorem dL_build_7 : decode cL_build 7 = .ok (.astore_n 2, 1) := by decide +kernel
theorem dL_build_8 : decode cL_build 8 = .ok (.iconst 2, 1) := by decide +kernel
theorem dL_build_9 : decode cL_build 9 = .ok (.aload_n 1, 1) := by decide +kernel
theorem dL_build_10 : decode cL_build 10 = .ok (.iconst 0, 1) := by decide +kernel
theorem dL_build_11 : decode cL_build 11 = .ok (.invokestatic 12, 3) := by decide +kernel
theorem dL_build_14 : decode cL_build 14 = .ok (.bipush 7, 2) := by decide +kernel
theorem dL_build_16 : decode cL_build 16 = .ok (.invokestatic 18, 3) := by decide +kernel
theorem dL_build_19 : decode cL_build 19 = .ok (.iadd, 1) := by decide +kernel
theorem dL_build_20 : decode cL_build 20 = .ok (.istore_n 3, 1) := by decide +kernel
theorem dL_build_21 : decode cL_build 21 = .ok (.iconst 0, 1) := by decide +kernel
theorem dL_build_22 : decode cL_build 22 = .ok (.istore 4, 2) := by decide +kernel
theorem dL_build_24 : decode cL_build 24 = .ok (.iload 4, 2) := by decide +kernel
theorem dL_build_26 : decode cL_build 26 = .ok (.iload_n 3, 1) := by decide +kernel
theorem dL_build_27 : decode cL_build 27 = .ok (.if_icmp .ge 198, 3) := by decide +kernel
theorem dL_build_30 : decode cL_build 30 = .ok (.aload_n 1, 1) := by decide +kernel
theorem dL_build_31 : decode cL_build 31 = .ok (.iconst 1, 1) := by decide +kernel
theorem dL_build_32 : decode cL_build 32 = .ok (.iload 4, 2) := by decide +kernel
theorem dL_build_34 : decode cL_build 34 = .ok (.iconst 3, 1) := by decide +kernel
theorem dL_build_35 : decode cL_build 35 = .ok (.irem, 1) := by decide +kernel
theorem dL_build_36 : decode cL_build 36 = .ok (.iadd, 1) := by decide +kernel
theorem dL_build_37 : decode cL_build 37 = .ok (.invokestatic 12, 3) := by decide +kernel
theorem dL_build_40 : decode cL_build 40 = .ok (.iload 4, 2) := by decide +kernel
theorem dL_build_42 : decode cL_build 42 = .ok (.ishr, 1) := by decide +kernel
theorem dL_build_43 : decode cL_build 43 = .ok (.bipush 11, 2) := by decide +kernel
theorem dL_build_45 : decode cL_build 45 = .ok (.iload 4, 2) := by decide +kernel
theorem dL_build_47 : decode cL_build 47 = .ok (.imul, 1) := by decide +kernel
theorem dL_build_48 : decode cL_build 48 = .ok (.iadd, 1) := by decide +kernel
theorem dL_build_49 : decode cL_build 49 = .ok (.istore 5, 2) := by decide +kernel
theorem dL_build_51 : decode cL_build 51 = .ok (.iload 5, 2) := by decide +kernel
theorem dL_build_53 : decode cL_build 53 = .ok (.bipush 16, 2) := by decide +kernel
theorem dL_build_55 : decode cL_build 55 = .ok (.invokestatic 18, 3) := by decide +kernel
theorem dL_build_58 : decode cL_build 58 = .ok (.istore 6, 2) := by decide +kernel
theorem dL_build_60 : decode cL_build 60 = .ok (.iload 5, 2) := by decide +kernel
theorem dL_build_62 : decode cL_build 62 = .ok (.iconst 2, 1) := by decide +kernel
theorem dL_build_63 : decode cL_build 63 = .ok (.ishr, 1) := by decide +kernel
theorem dL_build_64 : decode cL_build 64 = .ok (.bipush 10, 2) := by decide +kernel
theorem dL_build_66 : decode cL_build 66 = .ok (.invokestatic 18, 3) := by decide +kernel
theorem dL_build_69 : decode cL_build 69 = .ok (.istore 7, 2) := by decide +kernel
theorem dL_build_71 : decode cL_build 71 = .ok (.iconst 1, 1) := by decide +kernel
theorem dL_build_72 : decode cL_build 72 = .ok (.iload 5, 2) := by decide +kernel
theorem dL_build_74 : decode cL_build 74 = .ok (.iconst 3, 1) := by decide +kernel
theorem dL_build_75 : decode cL_build 75 = .ok (.ishr, 1) := by decide +kernel
theorem dL_build_76 : decode cL_build 76 = .ok (.bipush 16, 2) := by decide +kernel
theorem dL_build_78 : decode cL_build 78 = .ok (.iload 6, 2) := by decide +kernel
theorem dL_build_80 : decode cL_build 80 = .ok (.isub, 1) := by decide +kernel
theorem dL_build_81 : decode cL_build 81 = .ok (.invokestatic 18, 3) := by decide +kernel
theorem dL_build_84 : decode cL_build 84 = .ok (.iadd, 1) := by decide +kernel
theorem dL_build_85 : decode cL_build 85 = .ok (.istore 8, 2) := by decide +kernel
theorem dL_build_87 : decode cL_build 87 = .ok (.iconst 1, 1) := by decide +kernel
theorem dL_build_88 : decode cL_build 88 = .ok (.iload 5, 2) := by decide +kernel
theorem dL_build_90 : decode cL_build 90 = .ok (.iconst 4, 1) := by decide +kernel
theorem dL_build_91 : decode cL_build 91 = .ok (.ishr, 1) := by decide +kernel
theorem dL_build_92 : decode cL_build 92 = .ok (.bipush 10, 2) := by decide +kernel
theorem dL_build_94 : decode cL_build 94 = .ok (.iload 7, 2) := by decide +kernel
theorem dL_build_96 : decode cL_build 96 = .ok (.isub, 1) := by decide +kernel
theorem dL_build_97 : decode cL_build 97 = .ok (.invokestatic 18, 3) := by decide +kernel
theorem dL_build_100 : decode cL_build 100 = .ok (.iadd, 1) := by decide +kernel
theorem dL_build_101 : decode cL_build 101 = .ok (.istore 9, 2) := by decide +kernel
theorem dL_build_103 : decode cL_build 103 = .ok (.iload 5, 2) := by decide +kernel
theorem dL_build_105 : decode cL_build 105 = .ok (.iconst 5, 1) := by decide +kernel
theorem dL_build_106 : decode cL_build 106 = .ok (.ishr, 1) := by decide +kernel
theorem dL_build_107 : decode cL_build 107 = .ok (.iconst 5, 1) := by decide +kernel
theorem dL_build_108 : decode cL_build 108 = .ok (.invokestatic 18, 3) := by decide +kernel
theorem dL_build_111 : decode cL_build 111 = .ok (.ifCond .ne 7, 3) := by decide +kernel
theorem dL_build_114 : decode cL_build 114 = .ok (.iconst (-1), 1) := by decide +kernel
theorem dL_build_115 : decode cL_build 115 = .ok (.goto 33, 3) := by decide +kernel
theorem dL_build_118 : decode cL_build 118 = .ok (.bipush 10, 2) := by decide +kernel
theorem dL_build_120 : decode cL_build 120 = .ok (.iload 5, 2) := by decide +kernel
theorem dL_build_122 : decode cL_build 122 = .ok (.bipush 6, 2) := by decide +kernel
theorem dL_build_124 : decode cL_build 124 = .ok (.ishr, 1) := by decide +kernel
theorem dL_build_125 : decode cL_build 125 = .ok (.iload 5, 2) := by decide +kernel
theorem dL_build_127 : decode cL_build 127 = .ok (.bipush 8, 2) := by decide +kernel
theorem dL_build_129 : decode cL_build 129 = .ok (.ishr, 1) := by decide +kernel
theorem dL_build_130 : decode cL_build 130 = .ok (.iconst 2, 1) := by decide +kernel
theorem dL_build_131 : decode cL_build 131 = .ok (.invokestatic 18, 3) := by decide +kernel
theorem dL_build_134 : decode cL_build 134 = .ok (.ifCond .ne 8, 3) := by decide +kernel
theorem dL_build_137 : decode cL_build 137 = .ok (.bipush 90, 2) := by decide +kernel
theorem dL_build_139 : decode cL_build 139 = .ok (.goto 5, 3) := by decide +kernel
theorem dL_build_142 : decode cL_build 142 = .ok (.bipush 20, 2) := by decide +kernel
theorem dL_build_144 : decode cL_build 144 = .ok (.invokestatic 18, 3) := by decide +kernel
theorem dL_build_147 : decode cL_build 147 = .ok (.iadd, 1) := by decide +kernel
theorem dL_build_148 : decode cL_build 148 = .ok (.istore 10, 2) := by decide +kernel
theorem dL_build_150 : decode cL_build 150 = .ok (.aload_n 0, 1) := by decide +kernel
theorem dL_build_151 : decode cL_build 151 = .ok (.iload 6, 2) := by decide +kernel
theorem dL_build_153 : decode cL_build 153 = .ok (.iload 7, 2) := by decide +kernel
theorem dL_build_155 : decode cL_build 155 = .ok (.iload 8, 2) := by decide +kernel
theorem dL_build_157 : decode cL_build 157 = .ok (.iload 9, 2) := by decide +kernel
theorem dL_build_159 : decode cL_build 159 = .ok (.iload 10, 2) := by decide +kernel
theorem dL_build_161 : decode cL_build 161 = .ok (.invokevirtual 22, 3) := by decide +kernel
theorem dL_build_164 : decode cL_build 164 = .ok (.iload 8, 2) := by decide +kernel
theorem dL_build_166 : decode cL_build 166 = .ok (.iload 9, 2) := by decide +kernel
theorem dL_build_168 : decode cL_build 168 = .ok (.imul, 1) := by decide +kernel
theorem dL_build_169 : decode cL_build 169 = .ok (.if_icmp .eq 5, 3) := by decide +kernel
theorem dL_build_172 : decode cL_build 172 = .ok (.aconst_null, 1) := by decide +kernel
theorem dL_build_173 : decode cL_build 173 = .ok (.areturn, 1) := by decide +kernel
theorem dL_build_174 : decode cL_build 174 = .ok (.iconst 0, 1) := by decide +kernel
theorem dL_build_175 : decode cL_build 175 = .ok (.istore 11, 2) := by decide +kernel
theorem dL_build_177 : decode cL_build 177 = .ok (.iload 11, 2) := by decide +kernel
theorem dL_build_179 : decode cL_build 179 = .ok (.iload 8, 2) := by decide +kernel
theorem dL_build_181 : decode cL_build 181 = .ok (.iload 9, 2) := by decide +kernel
theorem dL_build_183 : decode cL_build 183 = .ok (.imul, 1) := by decide +kernel
theorem dL_build_184 : decode cL_build 184 = .ok (.if_icmp .ge 35, 3) := by decide +kernel
theorem dL_build_187 : decode cL_build 187 = .ok (.aload_n 2, 1) := by decide +kernel
theorem dL_build_188 : decode cL_build 188 = .ok (.iload 6, 2) := by decide +kernel
theorem dL_build_190 : decode cL_build 190 = .ok (.iload 11, 2) := by decide +kernel
theorem dL_build_192 : decode cL_build 192 = .ok (.iload 8, 2) := by decide +kernel
theorem dL_build_194 : decode cL_build 194 = .ok (.irem, 1) := by decide +kernel
theorem dL_build_195 : decode cL_build 195 = .ok (.iadd, 1) := by decide +kernel
theorem dL_build_196 : decode cL_build 196 = .ok (.bipush 16, 2) := by decide +kernel
theorem dL_build_198 : decode cL_build 198 = .ok (.iload 7, 2) := by decide +kernel
theorem dL_build_200 : decode cL_build 200 = .ok (.iload 11, 2) := by decide +kernel
theorem dL_build_202 : decode cL_build 202 = .ok (.iload 8, 2) := by decide +kernel
theorem dL_build_204 : decode cL_build 204 = .ok (.idiv, 1) := by decide +kernel
theorem dL_build_205 : decode cL_build 205 = .ok (.iadd, 1) := by decide +kernel
theorem dL_build_206 : decode cL_build 206 = .ok (.imul, 1) := by decide +kernel
theorem dL_build_207 : decode cL_build 207 = .ok (.iadd, 1) := by decide +kernel
theorem dL_build_208 : decode cL_build 208 = .ok (.iload 10, 2) := by decide +kernel
theorem dL_build_210 : decode cL_build 210 = .ok (.invokevirtual 28, 3) := by decide +kernel
theorem dL_build_213 : decode cL_build 213 = .ok (.iinc 11 1, 3) := by decide +kernel
theorem dL_build_216 : decode cL_build 216 = .ok (.goto (-39), 3) := by decide +kernel
theorem dL_build_219 : decode cL_build 219 = .ok (.iinc 4 1, 3) := by decide +kernel
theorem dL_build_222 : decode cL_build 222 = .ok (.goto (-198), 3) := by decide +kernel
theorem dL_build_225 : decode cL_build 225 = .ok (.iconst 0, 1) := by decide +kernel
theorem dL_build_226 : decode cL_build 226 = .ok (.istore 4, 2) := by decide +kernel
theorem dL_build_228 : decode cL_build 228 = .ok (.iload 4, 2) := by decide +kernel
theorem dL_build_230 : decode cL_build 230 = .ok (.bipush 20, 2) := by decide +kernel
theorem dL_build_232 : decode cL_build 232 = .ok (.if_icmp .ge 79, 3) := by decide +kernel
theorem dL_build_235 : decode cL_build 235 = .ok (.aload_n 1, 1) := by decide +kernel
theorem dL_build_236 : decode cL_build 236 = .ok (.iconst 4, 1) := by decide +kernel
theorem dL_build_237 : decode cL_build 237 = .ok (.invokestatic 12, 3) := by decide +kernel
theorem dL_build_240 : decode cL_build 240 = .ok (.iload 4, 2) := by decide +kernel
theorem dL_build_242 : decode cL_build 242 = .ok (.ishr, 1) := by decide +kernel
theorem dL_build_243 : decode cL_build 243 = .ok (.sipush 160, 3) := by decide +kernel
theorem dL_build_246 : decode cL_build 246 = .ok (.invokestatic 18, 3) := by decide +kernel
theorem dL_build_249 : decode cL_build 249 = .ok (.istore 5, 2) := by decide +kernel
theorem dL_build_251 : decode cL_build 251 = .ok (.iconst 1, 1) := by decide +kernel
theorem dL_build_252 : decode cL_build 252 = .ok (.aload_n 1, 1) := by decide +kernel
theorem dL_build_253 : decode cL_build 253 = .ok (.iconst 5, 1) := by decide +kernel
theorem dL_build_254 : decode cL_build 254 = .ok (.invokestatic 12, 3) := by decide +kernel
theorem dL_build_257 : decode cL_build 257 = .ok (.iload 4, 2) := by decide +kernel
theorem dL_build_259 : decode cL_build 259 = .ok (.ishr, 1) := by decide +kernel
theorem dL_build_260 : decode cL_build 260 = .ok (.bipush 9, 2) := by decide +kernel
theorem dL_build_262 : decode cL_build 262 = .ok (.invokestatic 18, 3) := by decide +kernel
theorem dL_build_265 : decode cL_build 265 = .ok (.iadd, 1) := by decide +kernel
theorem dL_build_266 : decode cL_build 266 = .ok (.istore 6, 2) := by decide +kernel
theorem dL_build_268 : decode cL_build 268 = .ok (.aload_n 0, 1) := by decide +kernel
theorem dL_build_269 : decode cL_build 269 = .ok (.iload 5, 2) := by decide +kernel
theorem dL_build_271 : decode cL_build 271 = .ok (.bipush 16, 2) := by decide +kernel
theorem dL_build_273 : decode cL_build 273 = .ok (.irem, 1) := by decide +kernel
theorem dL_build_274 : decode cL_build 274 = .ok (.iload 5, 2) := by decide +kernel
theorem dL_build_276 : decode cL_build 276 = .ok (.bipush 16, 2) := by decide +kernel
theorem dL_build_278 : decode cL_build 278 = .ok (.idiv, 1) := by decide +kernel
theorem dL_build_279 : decode cL_build 279 = .ok (.iload 6, 2) := by decide +kernel
theorem dL_build_281 : decode cL_build 281 = .ok (.invokevirtual 32, 3) := by decide +kernel
theorem dL_build_284 : decode cL_build 284 = .ok (.aload_n 2, 1) := by decide +kernel
theorem dL_build_285 : decode cL_build 285 = .ok (.getfield 36, 3) := by decide +kernel
theorem dL_build_288 : decode cL_build 288 = .ok (.iload 5, 2) := by decide +kernel
theorem dL_build_290 : decode cL_build 290 = .ok (.iaload, 1) := by decide +kernel
theorem dL_build_291 : decode cL_build 291 = .ok (.if_icmp .eq 5, 3) := by decide +kernel
theorem dL_build_294 : decode cL_build 294 = .ok (.aconst_null, 1) := by decide +kernel
theorem dL_build_295 : decode cL_build 295 = .ok (.areturn, 1) := by decide +kernel
theorem dL_build_296 : decode cL_build 296 = .ok (.aload_n 2, 1) := by decide +kernel
theorem dL_build_297 : decode cL_build 297 = .ok (.getfield 36, 3) := by decide +kernel
theorem dL_build_300 : decode cL_build 300 = .ok (.iload 5, 2) := by decide +kernel
theorem dL_build_302 : decode cL_build 302 = .ok (.iload 6, 2) := by decide +kernel
theorem dL_build_304 : decode cL_build 304 = .ok (.iastore, 1) := by decide +kernel
theorem dL_build_305 : decode cL_build 305 = .ok (.iinc 4 1, 3) := by decide +kernel
theorem dL_build_308 : decode cL_build 308 = .ok (.goto (-80), 3) := by decide +kernel
theorem dL_build_311 : decode cL_build 311 = .ok (.iconst 0, 1) := by decide +kernel
theorem dL_build_312 : decode cL_build 312 = .ok (.istore 4, 2) := by decide +kernel
theorem dL_build_314 : decode cL_build 314 = .ok (.iload 4, 2) := by decide +kernel
theorem dL_build_316 : decode cL_build 316 = .ok (.bipush 8, 2) := by decide +kernel
theorem dL_build_318 : decode cL_build 318 = .ok (.if_icmp .ge 53, 3) := by decide +kernel
theorem dL_build_321 : decode cL_build 321 = .ok (.aload_n 1, 1) := by decide +kernel
theorem dL_build_322 : decode cL_build 322 = .ok (.bipush 6, 2) := by decide +kernel
theorem dL_build_324 : decode cL_build 324 = .ok (.invokestatic 12, 3) := by decide +kernel
theorem dL_build_327 : decode cL_build 327 = .ok (.iconst 2, 1) := by decide +kernel
theorem dL_build_328 : decode cL_build 328 = .ok (.iload 4, 2) := by decide +kernel
theorem dL_build_330 : decode cL_build 330 = .ok (.imul, 1) := by decide +kernel
theorem dL_build_331 : decode cL_build 331 = .ok (.ishr, 1) := by decide +kernel
theorem dL_build_332 : decode cL_build 332 = .ok (.bipush 19, 2) := by decide +kernel
theorem dL_build_334 : decode cL_build 334 = .ok (.invokestatic 18, 3) := by decide +kernel
theorem dL_build_337 : decode cL_build 337 = .ok (.bipush 9, 2) := by decide +kernel
theorem dL_build_339 : decode cL_build 339 = .ok (.isub, 1) := by decide +kernel
theorem dL_build_340 : decode cL_build 340 = .ok (.istore 5, 2) := by decide +kernel
theorem dL_build_342 : decode cL_build 342 = .ok (.aload_n 0, 1) := by decide +kernel
theorem dL_build_343 : decode cL_build 343 = .ok (.iload 4, 2) := by decide +kernel
theorem dL_build_345 : decode cL_build 345 = .ok (.iload 5, 2) := by decide +kernel
theorem dL_build_347 : decode cL_build 347 = .ok (.invokevirtual 40, 3) := by decide +kernel
theorem dL_build_350 : decode cL_build 350 = .ok (.iconst 5, 1) := by decide +kernel
theorem dL_build_351 : decode cL_build 351 = .ok (.if_icmp .eq 5, 3) := by decide +kernel
theorem dL_build_354 : decode cL_build 354 = .ok (.aconst_null, 1) := by decide +kernel
theorem dL_build_355 : decode cL_build 355 = .ok (.areturn, 1) := by decide +kernel
theorem dL_build_356 : decode cL_build 356 = .ok (.aload_n 2, 1) := by decide +kernel
theorem dL_build_357 : decode cL_build 357 = .ok (.getfield 43, 3) := by decide +kernel
theorem dL_build_360 : decode cL_build 360 = .ok (.iload 4, 2) := by decide +kernel
theorem dL_build_362 : decode cL_build 362 = .ok (.iload 5, 2) := by decide +kernel
theorem dL_build_364 : decode cL_build 364 = .ok (.iastore, 1) := by decide +kernel
theorem dL_build_365 : decode cL_build 365 = .ok (.iinc 4 1, 3) := by decide +kernel
theorem dL_build_368 : decode cL_build 368 = .ok (.goto (-54), 3) := by decide +kernel
theorem dL_build_371 : decode cL_build 371 = .ok (.iconst 2, 1) := by decide +kernel
theorem dL_build_372 : decode cL_build 372 = .ok (.aload_n 1, 1) := by decide +kernel
theorem dL_build_373 : decode cL_build 373 = .ok (.bipush 7, 2) := by decide +kernel
theorem dL_build_375 : decode cL_build 375 = .ok (.invokestatic 12, 3) := by decide +kernel
theorem dL_build_378 : decode cL_build 378 = .ok (.iconst 4, 1) := by decide +kernel
theorem dL_build_379 : decode cL_build 379 = .ok (.invokestatic 18, 3) := by decide +kernel
theorem dL_build_382 : decode cL_build 382 = .ok (.iadd, 1) := by decide +kernel
theorem dL_build_383 : decode cL_build 383 = .ok (.istore 4, 2) := by decide +kernel
theorem dL_build_385 : decode cL_build 385 = .ok (.iconst 0, 1) := by decide +kernel
theorem dL_build_386 : decode cL_build 386 = .ok (.istore 5, 2) := by decide +kernel
theorem dL_build_388 : decode cL_build 388 = .ok (.iload 5, 2) := by decide +kernel
theorem dL_build_390 : decode cL_build 390 = .ok (.iload 4, 2) := by decide +kernel
theorem dL_build_392 : decode cL_build 392 = .ok (.if_icmp .ge 84, 3) := by decide +kernel
theorem dL_build_395 : decode cL_build 395 = .ok (.aload_n 1, 1) := by decide +kernel
theorem dL_build_396 : decode cL_build 396 = .ok (.bipush 8, 2) := by decide +kernel
theorem dL_build_398 : decode cL_build 398 = .ok (.invokestatic 12, 3) := by decide +kernel
theorem dL_build_401 : decode cL_build 401 = .ok (.iconst 2, 1) := by decide +kernel
theorem dL_build_402 : decode cL_build 402 = .ok (.iload 5, 2) := by decide +kernel
theorem dL_build_404 : decode cL_build 404 = .ok (.imul, 1) := by decide +kernel
theorem dL_build_405 : decode cL_build 405 = .ok (.ishr, 1) := by decide +kernel
theorem dL_build_406 : decode cL_build 406 = .ok (.bipush 32, 2) := by decide +kernel
theorem dL_build_408 : decode cL_build 408 = .ok (.invokestatic 18, 3) := by decide +kernel
theorem dL_build_411 : decode cL_build 411 = .ok (.iconst 5, 1) := by decide +kernel
theorem dL_build_412 : decode cL_build 412 = .ok (.imul, 1) := by decide +kernel
theorem dL_build_413 : decode cL_build 413 = .ok (.iload 5, 2) := by decide +kernel
theorem dL_build_415 : decode cL_build 415 = .ok (.iadd, 1) := by decide +kernel
theorem dL_build_416 : decode cL_build 416 = .ok (.istore 6, 2) := by decide +kernel
theorem dL_build_418 : decode cL_build 418 = .ok (.iload 6, 2) := by decide +kernel
theorem dL_build_420 : decode cL_build 420 = .ok (.sipush 159, 3) := by decide +kernel
theorem dL_build_423 : decode cL_build 423 = .ok (.invokestatic 46, 3) := by decide +kernel
theorem dL_build_426 : decode cL_build 426 = .ok (.istore 6, 2) := by decide +kernel
theorem dL_build_428 : decode cL_build 428 = .ok (.aload_n 2, 1) := by decide +kernel
theorem dL_build_429 : decode cL_build 429 = .ok (.iload 6, 2) := by decide +kernel
theorem dL_build_431 : decode cL_build 431 = .ok (.invokevirtual 51, 3) := by decide +kernel
theorem dL_build_434 : decode cL_build 434 = .ok (.ifCond .lt 6, 3) := by decide +kernel
theorem dL_build_437 : decode cL_build 437 = .ok (.goto 33, 3) := by decide +kernel
theorem dL_build_440 : decode cL_build 440 = .ok (.aload_n 0, 1) := by decide +kernel
theorem dL_build_441 : decode cL_build 441 = .ok (.iload 6, 2) := by decide +kernel
theorem dL_build_443 : decode cL_build 443 = .ok (.bipush 16, 2) := by decide +kernel
theorem dL_build_445 : decode cL_build 445 = .ok (.irem, 1) := by decide +kernel
theorem dL_build_446 : decode cL_build 446 = .ok (.iload 6, 2) := by decide +kernel
theorem dL_build_448 : decode cL_build 448 = .ok (.bipush 16, 2) := by decide +kernel
theorem dL_build_450 : decode cL_build 450 = .ok (.idiv, 1) := by decide +kernel
theorem dL_build_451 : decode cL_build 451 = .ok (.invokevirtual 55, 3) := by decide +kernel
theorem dL_build_454 : decode cL_build 454 = .ok (.aload_n 2, 1) := by decide +kernel
theorem dL_build_455 : decode cL_build 455 = .ok (.getfield 58, 3) := by decide +kernel
theorem dL_build_458 : decode cL_build 458 = .ok (.arraylength, 1) := by decide +kernel
theorem dL_build_459 : decode cL_build 459 = .ok (.if_icmp .eq 5, 3) := by decide +kernel
theorem dL_build_462 : decode cL_build 462 = .ok (.aconst_null, 1) := by decide +kernel
theorem dL_build_463 : decode cL_build 463 = .ok (.areturn, 1) := by decide +kernel
theorem dL_build_464 : decode cL_build 464 = .ok (.aload_n 2, 1) := by decide +kernel
theorem dL_build_465 : decode cL_build 465 = .ok (.iload 6, 2) := by decide +kernel
theorem dL_build_467 : decode cL_build 467 = .ok (.invokevirtual 61, 3) := by decide +kernel
theorem dL_build_470 : decode cL_build 470 = .ok (.iinc 5 1, 3) := by decide +kernel
theorem dL_build_473 : decode cL_build 473 = .ok (.goto (-85), 3) := by decide +kernel
theorem dL_build_476 : decode cL_build 476 = .ok (.aload_n 2, 1) := by decide +kernel
theorem dL_build_477 : decode cL_build 477 = .ok (.getfield 58, 3) := by decide +kernel
theorem dL_build_480 : decode cL_build 480 = .ok (.arraylength, 1) := by decide +kernel
theorem dL_build_481 : decode cL_build 481 = .ok (.istore 5, 2) := by decide +kernel
theorem dL_build_483 : decode cL_build 483 = .ok (.iconst 1, 1) := by decide +kernel
theorem dL_build_484 : decode cL_build 484 = .ok (.aload_n 1, 1) := by decide +kernel
theorem dL_build_485 : decode cL_build 485 = .ok (.bipush 9, 2) := by decide +kernel
theorem dL_build_487 : decode cL_build 487 = .ok (.invokestatic 12, 3) := by decide +kernel
theorem dL_build_490 : decode cL_build 490 = .ok (.iconst 4, 1) := by decide +kernel
theorem dL_build_491 : decode cL_build 491 = .ok (.invokestatic 18, 3) := by decide +kernel
theorem dL_build_494 : decode cL_build 494 = .ok (.iadd, 1) := by decide +kernel
theorem dL_build_495 : decode cL_build 495 = .ok (.istore 6, 2) := by decide +kernel
theorem dL_build_497 : decode cL_build 497 = .ok (.iconst 0, 1) := by decide +kernel
theorem dL_build_498 : decode cL_build 498 = .ok (.istore 7, 2) := by decide +kernel
theorem dL_build_500 : decode cL_build 500 = .ok (.iload 7, 2) := by decide +kernel
theorem dL_build_502 : decode cL_build 502 = .ok (.iload 6, 2) := by decide +kernel
theorem dL_build_504 : decode cL_build 504 = .ok (.if_icmp .ge 70, 3) := by decide +kernel
theorem dL_build_507 : decode cL_build 507 = .ok (.aload_n 1, 1) := by decide +kernel
theorem dL_build_508 : decode cL_build 508 = .ok (.bipush 9, 2) := by decide +kernel
theorem dL_build_510 : decode cL_build 510 = .ok (.invokestatic 12, 3) := by decide +kernel
theorem dL_build_513 : decode cL_build 513 = .ok (.iconst 2, 1) := by decide +kernel
theorem dL_build_514 : decode cL_build 514 = .ok (.iload 7, 2) := by decide +kernel
theorem dL_build_516 : decode cL_build 516 = .ok (.iadd, 1) := by decide +kernel
theorem dL_build_517 : decode cL_build 517 = .ok (.ishr, 1) := by decide +kernel
theorem dL_build_518 : decode cL_build 518 = .ok (.iload 5, 2) := by decide +kernel
theorem dL_build_520 : decode cL_build 520 = .ok (.invokestatic 18, 3) := by decide +kernel
theorem dL_build_523 : decode cL_build 523 = .ok (.istore 8, 2) := by decide +kernel
theorem dL_build_525 : decode cL_build 525 = .ok (.iconst 1, 1) := by decide +kernel
theorem dL_build_526 : decode cL_build 526 = .ok (.aload_n 1, 1) := by decide +kernel
theorem dL_build_527 : decode cL_build 527 = .ok (.bipush 10, 2) := by decide +kernel
theorem dL_build_529 : decode cL_build 529 = .ok (.invokestatic 12, 3) := by decide +kernel
theorem dL_build_532 : decode cL_build 532 = .ok (.iconst 2, 1) := by decide +kernel
theorem dL_build_533 : decode cL_build 533 = .ok (.iload 7, 2) := by decide +kernel
theorem dL_build_535 : decode cL_build 535 = .ok (.imul, 1) := by decide +kernel
theorem dL_build_536 : decode cL_build 536 = .ok (.ishr, 1) := by decide +kernel
theorem dL_build_537 : decode cL_build 537 = .ok (.bipush 6, 2) := by decide +kernel
theorem dL_build_539 : decode cL_build 539 = .ok (.invokestatic 18, 3) := by decide +kernel
theorem dL_build_542 : decode cL_build 542 = .ok (.iadd, 1) := by decide +kernel
theorem dL_build_543 : decode cL_build 543 = .ok (.istore 9, 2) := by decide +kernel
theorem dL_build_545 : decode cL_build 545 = .ok (.aload_n 0, 1) := by decide +kernel
theorem dL_build_546 : decode cL_build 546 = .ok (.iload 8, 2) := by decide +kernel
theorem dL_build_548 : decode cL_build 548 = .ok (.iload 9, 2) := by decide +kernel
theorem dL_build_550 : decode cL_build 550 = .ok (.invokevirtual 65, 3) := by decide +kernel
theorem dL_build_553 : decode cL_build 553 = .ok (.iload 7, 2) := by decide +kernel
theorem dL_build_555 : decode cL_build 555 = .ok (.if_icmp .eq 5, 3) := by decide +kernel
theorem dL_build_558 : decode cL_build 558 = .ok (.aconst_null, 1) := by decide +kernel
theorem dL_build_559 : decode cL_build 559 = .ok (.areturn, 1) := by decide +kernel
theorem dL_build_560 : decode cL_build 560 = .ok (.aload_n 2, 1) := by decide +kernel
theorem dL_build_561 : decode cL_build 561 = .ok (.iload 8, 2) := by decide +kernel
theorem dL_build_563 : decode cL_build 563 = .ok (.iload 9, 2) := by decide +kernel
theorem dL_build_565 : decode cL_build 565 = .ok (.invokevirtual 68, 3) := by decide +kernel
theorem dL_build_568 : decode cL_build 568 = .ok (.iinc 7 1, 3) := by decide +kernel
theorem dL_build_571 : decode cL_build 571 = .ok (.goto (-71), 3) := by decide +kernel
theorem dL_build_574 : decode cL_build 574 = .ok (.iload 5, 2) := by decide +kernel
theorem dL_build_576 : decode cL_build 576 = .ok (.iconst 2, 1) := by decide +kernel
theorem dL_build_577 : decode cL_build 577 = .ok (.if_icmp .ge 7, 3) := by decide +kernel
theorem dL_build_580 : decode cL_build 580 = .ok (.iconst 0, 1) := by decide +kernel
theorem dL_build_581 : decode cL_build 581 = .ok (.goto 14, 3) := by decide +kernel
theorem dL_build_584 : decode cL_build 584 = .ok (.aload_n 1, 1) := by decide +kernel
theorem dL_build_585 : decode cL_build 585 = .ok (.bipush 11, 2) := by decide +kernel
theorem dL_build_587 : decode cL_build 587 = .ok (.invokestatic 12, 3) := by decide +kernel
theorem dL_build_590 : decode cL_build 590 = .ok (.bipush 9, 2) := by decide +kernel
theorem dL_build_592 : decode cL_build 592 = .ok (.invokestatic 18, 3) := by decide +kernel
theorem dL_build_595 : decode cL_build 595 = .ok (.istore 7, 2) := by decide +kernel
theorem dL_build_597 : decode cL_build 597 = .ok (.iconst 0, 1) := by decide +kernel
theorem dL_build_598 : decode cL_build 598 = .ok (.istore 8, 2) := by decide +kernel
theorem dL_build_600 : decode cL_build 600 = .ok (.iload 8, 2) := by decide +kernel
theorem dL_build_602 : decode cL_build 602 = .ok (.iload 7, 2) := by decide +kernel
theorem dL_build_604 : decode cL_build 604 = .ok (.if_icmp .ge 98, 3) := by decide +kernel
theorem dL_build_607 : decode cL_build 607 = .ok (.aload_n 1, 1) := by decide +kernel
theorem dL_build_608 : decode cL_build 608 = .ok (.bipush 12, 2) := by decide +kernel
theorem dL_build_610 : decode cL_build 610 = .ok (.invokestatic 12, 3) := by decide +kernel
theorem dL_build_613 : decode cL_build 613 = .ok (.iload 8, 2) := by decide +kernel
theorem dL_build_615 : decode cL_build 615 = .ok (.ishr, 1) := by decide +kernel
theorem dL_build_616 : decode cL_build 616 = .ok (.iload 5, 2) := by decide +kernel
theorem dL_build_618 : decode cL_build 618 = .ok (.invokestatic 18, 3) := by decide +kernel
theorem dL_build_621 : decode cL_build 621 = .ok (.istore 9, 2) := by decide +kernel
theorem dL_build_623 : decode cL_build 623 = .ok (.iload 9, 2) := by decide +kernel
theorem dL_build_625 : decode cL_build 625 = .ok (.iconst 1, 1) := by decide +kernel
theorem dL_build_626 : decode cL_build 626 = .ok (.iadd, 1) := by decide +kernel
theorem dL_build_627 : decode cL_build 627 = .ok (.aload_n 1, 1) := by decide +kernel
theorem dL_build_628 : decode cL_build 628 = .ok (.bipush 13, 2) := by decide +kernel
theorem dL_build_630 : decode cL_build 630 = .ok (.invokestatic 12, 3) := by decide +kernel
theorem dL_build_633 : decode cL_build 633 = .ok (.iload 8, 2) := by decide +kernel
theorem dL_build_635 : decode cL_build 635 = .ok (.ishr, 1) := by decide +kernel
theorem dL_build_636 : decode cL_build 636 = .ok (.iload 5, 2) := by decide +kernel
theorem dL_build_638 : decode cL_build 638 = .ok (.iconst 1, 1) := by decide +kernel
theorem dL_build_639 : decode cL_build 639 = .ok (.isub, 1) := by decide +kernel
theorem dL_build_640 : decode cL_build 640 = .ok (.invokestatic 18, 3) := by decide +kernel
theorem dL_build_643 : decode cL_build 643 = .ok (.iadd, 1) := by decide +kernel
theorem dL_build_644 : decode cL_build 644 = .ok (.iload 5, 2) := by decide +kernel
theorem dL_build_646 : decode cL_build 646 = .ok (.irem, 1) := by decide +kernel
theorem dL_build_647 : decode cL_build 647 = .ok (.istore 10, 2) := by decide +kernel
theorem dL_build_649 : decode cL_build 649 = .ok (.iconst 1, 1) := by decide +kernel
theorem dL_build_650 : decode cL_build 650 = .ok (.aload_n 1, 1) := by decide +kernel
theorem dL_build_651 : decode cL_build 651 = .ok (.bipush 13, 2) := by decide +kernel
theorem dL_build_653 : decode cL_build 653 = .ok (.invokestatic 12, 3) := by decide +kernel
theorem dL_build_656 : decode cL_build 656 = .ok (.iconst 2, 1) := by decide +kernel
theorem dL_build_657 : decode cL_build 657 = .ok (.iload 8, 2) := by decide +kernel
theorem dL_build_659 : decode cL_build 659 = .ok (.imul, 1) := by decide +kernel
theorem dL_build_660 : decode cL_build 660 = .ok (.ishr, 1) := by decide +kernel
theorem dL_build_661 : decode cL_build 661 = .ok (.bipush 30, 2) := by decide +kernel
theorem dL_build_663 : decode cL_build 663 = .ok (.invokestatic 18, 3) := by decide +kernel
theorem dL_build_666 : decode cL_build 666 = .ok (.iadd, 1) := by decide +kernel
theorem dL_build_667 : decode cL_build 667 = .ok (.istore 11, 2) := by decide +kernel
theorem dL_build_669 : decode cL_build 669 = .ok (.aload_n 0, 1) := by decide +kernel
theorem dL_build_670 : decode cL_build 670 = .ok (.iload 9, 2) := by decide +kernel
theorem dL_build_672 : decode cL_build 672 = .ok (.iload 10, 2) := by decide +kernel
theorem dL_build_674 : decode cL_build 674 = .ok (.iload 11, 2) := by decide +kernel
theorem dL_build_676 : decode cL_build 676 = .ok (.invokevirtual 71, 3) := by decide +kernel
theorem dL_build_679 : decode cL_build 679 = .ok (.iload 8, 2) := by decide +kernel
theorem dL_build_681 : decode cL_build 681 = .ok (.if_icmp .eq 5, 3) := by decide +kernel
theorem dL_build_684 : decode cL_build 684 = .ok (.aconst_null, 1) := by decide +kernel
theorem dL_build_685 : decode cL_build 685 = .ok (.areturn, 1) := by decide +kernel
theorem dL_build_686 : decode cL_build 686 = .ok (.aload_n 2, 1) := by decide +kernel
theorem dL_build_687 : decode cL_build 687 = .ok (.iload 9, 2) := by decide +kernel
theorem dL_build_689 : decode cL_build 689 = .ok (.iload 10, 2) := by decide +kernel
theorem dL_build_691 : decode cL_build 691 = .ok (.iload 11, 2) := by decide +kernel
theorem dL_build_693 : decode cL_build 693 = .ok (.invokevirtual 74, 3) := by decide +kernel
theorem dL_build_696 : decode cL_build 696 = .ok (.iinc 8 1, 3) := by decide +kernel
theorem dL_build_699 : decode cL_build 699 = .ok (.goto (-99), 3) := by decide +kernel
theorem dL_build_702 : decode cL_build 702 = .ok (.aload_n 2, 1) := by decide +kernel
theorem dL_build_703 : decode cL_build 703 = .ok (.areturn, 1) := by decide +kernel
theorem dL_act_0 : decode cL_act 0 = .ok (.iload_n 2, 1) := by decide +kernel
theorem dL_act_1 : decode cL_act 1 = .ok (.aload_n 1, 1) := by decide +kernel
theorem dL_act_2 : decode cL_act 2 = .ok (.getfield 78, 3) := by decide +kernel
theorem dL_act_5 : decode cL_act 5 = .ok (.arraylength, 1) := by decide +kernel
theorem dL_act_6 : decode cL_act 6 = .ok (.invokestatic 18, 3) := by decide +kernel
theorem dL_act_9 : decode cL_act 9 = .ok (.istore_n 3, 1) := by decide +kernel
theorem dL_act_10 : decode cL_act 10 = .ok (.aload_n 1, 1) := by decide +kernel
theorem dL_act_11 : decode cL_act 11 = .ok (.getfield 78, 3) := by decide +kernel
theorem dL_act_14 : decode cL_act 14 = .ok (.iload_n 3, 1) := by decide +kernel
theorem dL_act_15 : decode cL_act 15 = .ok (.aaload, 1) := by decide +kernel
theorem dL_act_16 : decode cL_act 16 = .ok (.astore 4, 2) := by decide +kernel
theorem dL_act_18 : decode cL_act 18 = .ok (.iload_n 2, 1) := by decide +kernel
theorem dL_act_19 : decode cL_act 19 = .ok (.iconst 3, 1) := by decide +kernel
theorem dL_act_20 : decode cL_act 20 = .ok (.ishr, 1) := by decide +kernel
theorem dL_act_21 : decode cL_act 21 = .ok (.aload_n 1, 1) := by decide +kernel
theorem dL_act_22 : decode cL_act 22 = .ok (.getfield 58, 3) := by decide +kernel
theorem dL_act_25 : decode cL_act 25 = .ok (.arraylength, 1) := by decide +kernel
theorem dL_act_26 : decode cL_act 26 = .ok (.invokestatic 18, 3) := by decide +kernel
theorem dL_act_29 : decode cL_act 29 = .ok (.istore 5, 2) := by decide +kernel
theorem dL_act_31 : decode cL_act 31 = .ok (.iload_n 2, 1) := by decide +kernel
theorem dL_act_32 : decode cL_act 32 = .ok (.bipush 7, 2) := by decide +kernel
theorem dL_act_34 : decode cL_act 34 = .ok (.ishr, 1) := by decide +kernel
theorem dL_act_35 : decode cL_act 35 = .ok (.iconst 5, 1) := by decide +kernel
theorem dL_act_36 : decode cL_act 36 = .ok (.invokestatic 18, 3) := by decide +kernel
theorem dL_act_39 : decode cL_act 39 = .ok (.tableswitch 270 0 3 #[29, 29, 109, 209], 29) := by decide +kernel
theorem dL_act_68 : decode cL_act 68 = .ok (.aload 4, 2) := by decide +kernel
theorem dL_act_70 : decode cL_act 70 = .ok (.getfield 82, 3) := by decide +kernel
theorem dL_act_73 : decode cL_act 73 = .ok (.ifCond .ne 13, 3) := by decide +kernel
theorem dL_act_76 : decode cL_act 76 = .ok (.aload 4, 2) := by decide +kernel
theorem dL_act_78 : decode cL_act 78 = .ok (.getfield 88, 3) := by decide +kernel
theorem dL_act_81 : decode cL_act 81 = .ok (.iload 5, 2) := by decide +kernel
theorem dL_act_83 : decode cL_act 83 = .ok (.if_icmp .ne 5, 3) := by decide +kernel
theorem dL_act_86 : decode cL_act 86 = .ok (.iconst 1, 1) := by decide +kernel
theorem dL_act_87 : decode cL_act 87 = .ok (.ireturn, 1) := by decide +kernel
theorem dL_act_88 : decode cL_act 88 = .ok (.aload 4, 2) := by decide +kernel
theorem dL_act_90 : decode cL_act 90 = .ok (.iconst 1, 1) := by decide +kernel
theorem dL_act_91 : decode cL_act 91 = .ok (.putfield 82, 3) := by decide +kernel
theorem dL_act_94 : decode cL_act 94 = .ok (.aload 4, 2) := by decide +kernel
theorem dL_act_96 : decode cL_act 96 = .ok (.iload 5, 2) := by decide +kernel
theorem dL_act_98 : decode cL_act 98 = .ok (.putfield 88, 3) := by decide +kernel
theorem dL_act_101 : decode cL_act 101 = .ok (.aload_n 0, 1) := by decide +kernel
theorem dL_act_102 : decode cL_act 102 = .ok (.iload_n 3, 1) := by decide +kernel
theorem dL_act_103 : decode cL_act 103 = .ok (.iload 5, 2) := by decide +kernel
theorem dL_act_105 : decode cL_act 105 = .ok (.invokevirtual 90, 3) := by decide +kernel
theorem dL_act_108 : decode cL_act 108 = .ok (.aload_n 1, 1) := by decide +kernel
theorem dL_act_109 : decode cL_act 109 = .ok (.aload 4, 2) := by decide +kernel
theorem dL_act_111 : decode cL_act 111 = .ok (.getfield 93, 3) := by decide +kernel
theorem dL_act_114 : decode cL_act 114 = .ok (.aload_n 1, 1) := by decide +kernel
theorem dL_act_115 : decode cL_act 115 = .ok (.getfield 58, 3) := by decide +kernel
theorem dL_act_118 : decode cL_act 118 = .ok (.iload 5, 2) := by decide +kernel
theorem dL_act_120 : decode cL_act 120 = .ok (.iaload, 1) := by decide +kernel
theorem dL_act_121 : decode cL_act 121 = .ok (.aload_n 1, 1) := by decide +kernel
theorem dL_act_122 : decode cL_act 122 = .ok (.iload_n 3, 1) := by decide +kernel
theorem dL_act_123 : decode cL_act 123 = .ok (.invokevirtual 95, 3) := by decide +kernel
theorem dL_act_126 : decode cL_act 126 = .ok (.aload 4, 2) := by decide +kernel
theorem dL_act_128 : decode cL_act 128 = .ok (.getfield 98, 3) := by decide +kernel
theorem dL_act_131 : decode cL_act 131 = .ok (.aload 4, 2) := by decide +kernel
theorem dL_act_133 : decode cL_act 133 = .ok (.getfield 101, 3) := by decide +kernel
theorem dL_act_136 : decode cL_act 136 = .ok (.invokevirtual 104, 3) := by decide +kernel
theorem dL_act_139 : decode cL_act 139 = .ok (.if_icmp .ne 7, 3) := by decide +kernel
theorem dL_act_142 : decode cL_act 142 = .ok (.iconst 1, 1) := by decide +kernel
theorem dL_act_143 : decode cL_act 143 = .ok (.goto 4, 3) := by decide +kernel
theorem dL_act_146 : decode cL_act 146 = .ok (.iconst 0, 1) := by decide +kernel
theorem dL_act_147 : decode cL_act 147 = .ok (.ireturn, 1) := by decide +kernel
theorem dL_act_148 : decode cL_act 148 = .ok (.aload 4, 2) := by decide +kernel
theorem dL_act_150 : decode cL_act 150 = .ok (.getfield 82, 3) := by decide +kernel
theorem dL_act_153 : decode cL_act 153 = .ok (.ifCond .eq 5, 3) := by decide +kernel
theorem dL_act_156 : decode cL_act 156 = .ok (.iconst 1, 1) := by decide +kernel
theorem dL_act_157 : decode cL_act 157 = .ok (.ireturn, 1) := by decide +kernel
theorem dL_act_158 : decode cL_act 158 = .ok (.iconst 0, 1) := by decide +kernel
theorem dL_act_159 : decode cL_act 159 = .ok (.istore 6, 2) := by decide +kernel
theorem dL_act_161 : decode cL_act 161 = .ok (.iload 6, 2) := by decide +kernel
theorem dL_act_163 : decode cL_act 163 = .ok (.aload_n 1, 1) := by decide +kernel
theorem dL_act_164 : decode cL_act 164 = .ok (.getfield 107, 3) := by decide +kernel
theorem dL_act_167 : decode cL_act 167 = .ok (.arraylength, 1) := by decide +kernel
theorem dL_act_168 : decode cL_act 168 = .ok (.if_icmp .ge 78, 3) := by decide +kernel
theorem dL_act_171 : decode cL_act 171 = .ok (.aload_n 1, 1) := by decide +kernel
theorem dL_act_172 : decode cL_act 172 = .ok (.getfield 107, 3) := by decide +kernel
theorem dL_act_175 : decode cL_act 175 = .ok (.iload 6, 2) := by decide +kernel
theorem dL_act_177 : decode cL_act 177 = .ok (.aaload, 1) := by decide +kernel
theorem dL_act_178 : decode cL_act 178 = .ok (.iconst 2, 1) := by decide +kernel
theorem dL_act_179 : decode cL_act 179 = .ok (.iaload, 1) := by decide +kernel
theorem dL_act_180 : decode cL_act 180 = .ok (.ifCond .ne 60, 3) := by decide +kernel
theorem dL_act_183 : decode cL_act 183 = .ok (.aload_n 1, 1) := by decide +kernel
theorem dL_act_184 : decode cL_act 184 = .ok (.getfield 107, 3) := by decide +kernel
theorem dL_act_187 : decode cL_act 187 = .ok (.iload 6, 2) := by decide +kernel
theorem dL_act_189 : decode cL_act 189 = .ok (.aaload, 1) := by decide +kernel
theorem dL_act_190 : decode cL_act 190 = .ok (.iconst 3, 1) := by decide +kernel
theorem dL_act_191 : decode cL_act 191 = .ok (.iaload, 1) := by decide +kernel
theorem dL_act_192 : decode cL_act 192 = .ok (.aload 4, 2) := by decide +kernel
theorem dL_act_194 : decode cL_act 194 = .ok (.getfield 88, 3) := by decide +kernel
theorem dL_act_197 : decode cL_act 197 = .ok (.if_icmp .eq 6, 3) := by decide +kernel
theorem dL_act_200 : decode cL_act 200 = .ok (.goto 40, 3) := by decide +kernel
theorem dL_act_203 : decode cL_act 203 = .ok (.aload_n 1, 1) := by decide +kernel
theorem dL_act_204 : decode cL_act 204 = .ok (.getfield 107, 3) := by decide +kernel
theorem dL_act_207 : decode cL_act 207 = .ok (.iload 6, 2) := by decide +kernel
theorem dL_act_209 : decode cL_act 209 = .ok (.aaload, 1) := by decide +kernel
theorem dL_act_210 : decode cL_act 210 = .ok (.iconst 2, 1) := by decide +kernel
theorem dL_act_211 : decode cL_act 211 = .ok (.iconst 1, 1) := by decide +kernel
theorem dL_act_212 : decode cL_act 212 = .ok (.iastore, 1) := by decide +kernel
theorem dL_act_213 : decode cL_act 213 = .ok (.aload_n 1, 1) := by decide +kernel
theorem dL_act_214 : decode cL_act 214 = .ok (.getfield 107, 3) := by decide +kernel
theorem dL_act_217 : decode cL_act 217 = .ok (.iload 6, 2) := by decide +kernel
theorem dL_act_219 : decode cL_act 219 = .ok (.aaload, 1) := by decide +kernel
theorem dL_act_220 : decode cL_act 220 = .ok (.iconst 3, 1) := by decide +kernel
theorem dL_act_221 : decode cL_act 221 = .ok (.iload_n 3, 1) := by decide +kernel
theorem dL_act_222 : decode cL_act 222 = .ok (.iastore, 1) := by decide +kernel
theorem dL_act_223 : decode cL_act 223 = .ok (.aload_n 0, 1) := by decide +kernel
theorem dL_act_224 : decode cL_act 224 = .ok (.iload_n 3, 1) := by decide +kernel
theorem dL_act_225 : decode cL_act 225 = .ok (.iload 6, 2) := by decide +kernel
theorem dL_act_227 : decode cL_act 227 = .ok (.invokevirtual 111, 3) := by decide +kernel
theorem dL_act_230 : decode cL_act 230 = .ok (.aload_n 1, 1) := by decide +kernel
theorem dL_act_231 : decode cL_act 231 = .ok (.iload_n 3, 1) := by decide +kernel
theorem dL_act_232 : decode cL_act 232 = .ok (.invokevirtual 95, 3) := by decide +kernel
theorem dL_act_235 : decode cL_act 235 = .ok (.if_icmp .eq 5, 3) := by decide +kernel
theorem dL_act_238 : decode cL_act 238 = .ok (.iconst 0, 1) := by decide +kernel
theorem dL_act_239 : decode cL_act 239 = .ok (.ireturn, 1) := by decide +kernel
theorem dL_act_240 : decode cL_act 240 = .ok (.iinc 6 1, 3) := by decide +kernel
theorem dL_act_243 : decode cL_act 243 = .ok (.goto (-82), 3) := by decide +kernel
theorem dL_act_246 : decode cL_act 246 = .ok (.iconst 1, 1) := by decide +kernel
theorem dL_act_247 : decode cL_act 247 = .ok (.ireturn, 1) := by decide +kernel
theorem dL_act_248 : decode cL_act 248 = .ok (.iload_n 2, 1) := by decide +kernel
theorem dL_act_249 : decode cL_act 249 = .ok (.iconst 2, 1) := by decide +kernel
theorem dL_act_250 : decode cL_act 250 = .ok (.ishr, 1) := by decide +kernel
theorem dL_act_251 : decode cL_act 251 = .ok (.bipush 8, 2) := by decide +kernel
theorem dL_act_253 : decode cL_act 253 = .ok (.invokestatic 18, 3) := by decide +kernel
theorem dL_act_256 : decode cL_act 256 = .ok (.istore 6, 2) := by decide +kernel
theorem dL_act_258 : decode cL_act 258 = .ok (.aload_n 1, 1) := by decide +kernel
theorem dL_act_259 : decode cL_act 259 = .ok (.getfield 43, 3) := by decide +kernel
theorem dL_act_262 : decode cL_act 262 = .ok (.iload 6, 2) := by decide +kernel
theorem dL_act_264 : decode cL_act 264 = .ok (.iaload, 1) := by decide +kernel
theorem dL_act_265 : decode cL_act 265 = .ok (.istore 7, 2) := by decide +kernel
theorem dL_act_267 : decode cL_act 267 = .ok (.aload_n 1, 1) := by decide +kernel
theorem dL_act_268 : decode cL_act 268 = .ok (.getfield 43, 3) := by decide +kernel
theorem dL_act_271 : decode cL_act 271 = .ok (.iload 6, 2) := by decide +kernel
theorem dL_act_273 : decode cL_act 273 = .ok (.iload_n 2, 1) := by decide +kernel
theorem dL_act_274 : decode cL_act 274 = .ok (.iconst 4, 1) := by decide +kernel
theorem dL_act_275 : decode cL_act 275 = .ok (.ishr, 1) := by decide +kernel
theorem dL_act_276 : decode cL_act 276 = .ok (.bipush 19, 2) := by decide +kernel
theorem dL_act_278 : decode cL_act 278 = .ok (.invokestatic 18, 3) := by decide +kernel
theorem dL_act_281 : decode cL_act 281 = .ok (.bipush 9, 2) := by decide +kernel
theorem dL_act_283 : decode cL_act 283 = .ok (.isub, 1) := by decide +kernel
theorem dL_act_284 : decode cL_act 284 = .ok (.iastore, 1) := by decide +kernel
theorem dL_act_285 : decode cL_act 285 = .ok (.aload_n 0, 1) := by decide +kernel
theorem dL_act_286 : decode cL_act 286 = .ok (.iload 6, 2) := by decide +kernel
theorem dL_act_288 : decode cL_act 288 = .ok (.aload_n 1, 1) := by decide +kernel
theorem dL_act_289 : decode cL_act 289 = .ok (.getfield 43, 3) := by decide +kernel
theorem dL_act_292 : decode cL_act 292 = .ok (.iload 6, 2) := by decide +kernel
theorem dL_act_294 : decode cL_act 294 = .ok (.iaload, 1) := by decide +kernel
theorem dL_act_295 : decode cL_act 295 = .ok (.invokevirtual 40, 3) := by decide +kernel
theorem dL_act_298 : decode cL_act 298 = .ok (.iload 7, 2) := by decide +kernel
theorem dL_act_300 : decode cL_act 300 = .ok (.if_icmp .ne 7, 3) := by decide +kernel
theorem dL_act_303 : decode cL_act 303 = .ok (.iconst 1, 1) := by decide +kernel
theorem dL_act_304 : decode cL_act 304 = .ok (.goto 4, 3) := by decide +kernel
theorem dL_act_307 : decode cL_act 307 = .ok (.iconst 0, 1) := by decide +kernel
theorem dL_act_308 : decode cL_act 308 = .ok (.ireturn, 1) := by decide +kernel
theorem dL_act_309 : decode cL_act 309 = .ok (.iload_n 2, 1) := by decide +kernel
theorem dL_act_310 : decode cL_act 310 = .ok (.iconst 2, 1) := by decide +kernel
theorem dL_act_311 : decode cL_act 311 = .ok (.ishr, 1) := by decide +kernel
theorem dL_act_312 : decode cL_act 312 = .ok (.sipush 160, 3) := by decide +kernel
theorem dL_act_315 : decode cL_act 315 = .ok (.invokestatic 18, 3) := by decide +kernel
theorem dL_act_318 : decode cL_act 318 = .ok (.istore 8, 2) := by decide +kernel
theorem dL_act_320 : decode cL_act 320 = .ok (.aload_n 1, 1) := by decide +kernel
theorem dL_act_321 : decode cL_act 321 = .ok (.getfield 36, 3) := by decide +kernel
theorem dL_act_324 : decode cL_act 324 = .ok (.iload 8, 2) := by decide +kernel
theorem dL_act_326 : decode cL_act 326 = .ok (.iaload, 1) := by decide +kernel
theorem dL_act_327 : decode cL_act 327 = .ok (.istore 9, 2) := by decide +kernel
theorem dL_act_329 : decode cL_act 329 = .ok (.aload_n 1, 1) := by decide +kernel
theorem dL_act_330 : decode cL_act 330 = .ok (.getfield 36, 3) := by decide +kernel
theorem dL_act_333 : decode cL_act 333 = .ok (.iload 8, 2) := by decide +kernel
theorem dL_act_335 : decode cL_act 335 = .ok (.iconst 1, 1) := by decide +kernel
theorem dL_act_336 : decode cL_act 336 = .ok (.iload_n 2, 1) := by decide +kernel
theorem dL_act_337 : decode cL_act 337 = .ok (.iconst 5, 1) := by decide +kernel
theorem dL_act_338 : decode cL_act 338 = .ok (.ishr, 1) := by decide +kernel
theorem dL_act_339 : decode cL_act 339 = .ok (.bipush 9, 2) := by decide +kernel
theorem dL_act_341 : decode cL_act 341 = .ok (.invokestatic 18, 3) := by decide +kernel
theorem dL_act_344 : decode cL_act 344 = .ok (.iadd, 1) := by decide +kernel
theorem dL_act_345 : decode cL_act 345 = .ok (.iastore, 1) := by decide +kernel
theorem dL_act_346 : decode cL_act 346 = .ok (.aload_n 0, 1) := by decide +kernel
theorem dL_act_347 : decode cL_act 347 = .ok (.iload 8, 2) := by decide +kernel
theorem dL_act_349 : decode cL_act 349 = .ok (.bipush 16, 2) := by decide +kernel
theorem dL_act_351 : decode cL_act 351 = .ok (.irem, 1) := by decide +kernel
theorem dL_act_352 : decode cL_act 352 = .ok (.iload 8, 2) := by decide +kernel
theorem dL_act_354 : decode cL_act 354 = .ok (.bipush 16, 2) := by decide +kernel
theorem dL_act_356 : decode cL_act 356 = .ok (.idiv, 1) := by decide +kernel
theorem dL_act_357 : decode cL_act 357 = .ok (.aload_n 1, 1) := by decide +kernel
theorem dL_act_358 : decode cL_act 358 = .ok (.getfield 36, 3) := by decide +kernel
theorem dL_act_361 : decode cL_act 361 = .ok (.iload 8, 2) := by decide +kernel
theorem dL_act_363 : decode cL_act 363 = .ok (.iaload, 1) := by decide +kernel
theorem dL_act_364 : decode cL_act 364 = .ok (.invokevirtual 32, 3) := by decide +kernel
theorem dL_act_367 : decode cL_act 367 = .ok (.iload 9, 2) := by decide +kernel
theorem dL_act_369 : decode cL_act 369 = .ok (.if_icmp .ne 7, 3) := by decide +kernel
theorem dL_act_372 : decode cL_act 372 = .ok (.iconst 1, 1) := by decide +kernel
theorem dL_act_373 : decode cL_act 373 = .ok (.goto 4, 3) := by decide +kernel
theorem dL_act_376 : decode cL_act 376 = .ok (.iconst 0, 1) := by decide +kernel
theorem dL_act_377 : decode cL_act 377 = .ok (.ireturn, 1) := by decide +kernel
theorem dL_law_0 : decode cL_law 0 = .ok (.new 23, 3) := by decide +kernel
theorem dL_law_3 : decode cL_law 3 = .ok (.dup, 1) := by decide +kernel
theorem dL_law_4 : decode cL_law 4 = .ok (.invokespecial 114, 3) := by decide +kernel
theorem dL_law_7 : decode cL_law 7 = .ok (.astore_n 1, 1) := by decide +kernel
theorem dL_law_8 : decode cL_law 8 = .ok (.aload_n 1, 1) := by decide +kernel
theorem dL_law_9 : decode cL_law 9 = .ok (.aload_n 0, 1) := by decide +kernel
theorem dL_law_10 : decode cL_law 10 = .ok (.invokestatic 115, 3) := by decide +kernel
theorem dL_law_13 : decode cL_law 13 = .ok (.astore_n 2, 1) := by decide +kernel
theorem dL_law_14 : decode cL_law 14 = .ok (.aload_n 2, 1) := by decide +kernel
theorem dL_law_15 : decode cL_law 15 = .ok (.ifnonnull 5, 3) := by decide +kernel
theorem dL_law_18 : decode cL_law 18 = .ok (.iconst 0, 1) := by decide +kernel
theorem dL_law_19 : decode cL_law 19 = .ok (.ireturn, 1) := by decide +kernel
theorem dL_law_20 : decode cL_law 20 = .ok (.aload_n 2, 1) := by decide +kernel
theorem dL_law_21 : decode cL_law 21 = .ok (.getfield 78, 3) := by decide +kernel
theorem dL_law_24 : decode cL_law 24 = .ok (.arraylength, 1) := by decide +kernel
theorem dL_law_25 : decode cL_law 25 = .ok (.istore_n 3, 1) := by decide +kernel
theorem dL_law_26 : decode cL_law 26 = .ok (.aload_n 2, 1) := by decide +kernel
theorem dL_law_27 : decode cL_law 27 = .ok (.getfield 107, 3) := by decide +kernel
theorem dL_law_30 : decode cL_law 30 = .ok (.arraylength, 1) := by decide +kernel
theorem dL_law_31 : decode cL_law 31 = .ok (.istore 4, 2) := by decide +kernel
theorem dL_law_33 : decode cL_law 33 = .ok (.iconst 0, 1) := by decide +kernel
theorem dL_law_34 : decode cL_law 34 = .ok (.istore 5, 2) := by decide +kernel
theorem dL_law_36 : decode cL_law 36 = .ok (.iload 5, 2) := by decide +kernel
theorem dL_law_38 : decode cL_law 38 = .ok (.bipush 48, 2) := by decide +kernel
theorem dL_law_40 : decode cL_law 40 = .ok (.if_icmp .ge 1631, 3) := by decide +kernel
theorem dL_law_43 : decode cL_law 43 = .ok (.aload_n 0, 1) := by decide +kernel
theorem dL_law_44 : decode cL_law 44 = .ok (.iload 5, 2) := by decide +kernel
theorem dL_law_46 : decode cL_law 46 = .ok (.bipush 16, 2) := by decide +kernel
theorem dL_law_48 : decode cL_law 48 = .ok (.irem, 1) := by decide +kernel
theorem dL_law_49 : decode cL_law 49 = .ok (.invokestatic 12, 3) := by decide +kernel
theorem dL_law_52 : decode cL_law 52 = .ok (.iload 5, 2) := by decide +kernel
theorem dL_law_54 : decode cL_law 54 = .ok (.bipush 16, 2) := by decide +kernel
theorem dL_law_56 : decode cL_law 56 = .ok (.idiv, 1) := by decide +kernel
theorem dL_law_57 : decode cL_law 57 = .ok (.iconst 3, 1) := by decide +kernel
theorem dL_law_58 : decode cL_law 58 = .ok (.imul, 1) := by decide +kernel
theorem dL_law_59 : decode cL_law 59 = .ok (.ishr, 1) := by decide +kernel
theorem dL_law_60 : decode cL_law 60 = .ok (.bipush 37, 2) := by decide +kernel
theorem dL_law_62 : decode cL_law 62 = .ok (.iload 5, 2) := by decide +kernel
theorem dL_law_64 : decode cL_law 64 = .ok (.imul, 1) := by decide +kernel
theorem dL_law_65 : decode cL_law 65 = .ok (.iadd, 1) := by decide +kernel
theorem dL_law_66 : decode cL_law 66 = .ok (.istore 6, 2) := by decide +kernel
theorem dL_law_68 : decode cL_law 68 = .ok (.aload_n 1, 1) := by decide +kernel
theorem dL_law_69 : decode cL_law 69 = .ok (.aload_n 2, 1) := by decide +kernel
theorem dL_law_70 : decode cL_law 70 = .ok (.iload 6, 2) := by decide +kernel
theorem dL_law_72 : decode cL_law 72 = .ok (.invokestatic 119, 3) := by decide +kernel
theorem dL_law_75 : decode cL_law 75 = .ok (.ifCond .ne 5, 3) := by decide +kernel
theorem dL_law_78 : decode cL_law 78 = .ok (.iconst 0, 1) := by decide +kernel
theorem dL_law_79 : decode cL_law 79 = .ok (.ireturn, 1) := by decide +kernel
theorem dL_law_80 : decode cL_law 80 = .ok (.sipush 160, 3) := by decide +kernel
theorem dL_law_83 : decode cL_law 83 = .ok (.iconst 4, 1) := by decide +kernel
theorem dL_law_84 : decode cL_law 84 = .ok (.multianewarray 123 2, 4) := by decide +kernel
theorem dL_law_88 : decode cL_law 88 = .ok (.astore 7, 2) := by decide +kernel
theorem dL_law_90 : decode cL_law 90 = .ok (.iconst 0, 1) := by decide +kernel
theorem dL_law_91 : decode cL_law 91 = .ok (.istore 8, 2) := by decide +kernel
theorem dL_law_93 : decode cL_law 93 = .ok (.iload 8, 2) := by decide +kernel
theorem dL_law_95 : decode cL_law 95 = .ok (.sipush 160, 3) := by decide +kernel
theorem dL_law_98 : decode cL_law 98 = .ok (.if_icmp .ge 48, 3) := by decide +kernel
theorem dL_law_101 : decode cL_law 101 = .ok (.iconst 0, 1) := by decide +kernel
theorem dL_law_102 : decode cL_law 102 = .ok (.istore 9, 2) := by decide +kernel
theorem dL_law_104 : decode cL_law 104 = .ok (.iload 9, 2) := by decide +kernel
theorem dL_law_106 : decode cL_law 106 = .ok (.iconst 4, 1) := by decide +kernel
theorem dL_law_107 : decode cL_law 107 = .ok (.if_icmp .ge 33, 3) := by decide +kernel
theorem dL_law_110 : decode cL_law 110 = .ok (.aload 7, 2) := by decide +kernel
theorem dL_law_112 : decode cL_law 112 = .ok (.iload 8, 2) := by decide +kernel
theorem dL_law_114 : decode cL_law 114 = .ok (.aaload, 1) := by decide +kernel
theorem dL_law_115 : decode cL_law 115 = .ok (.iload 9, 2) := by decide +kernel
theorem dL_law_117 : decode cL_law 117 = .ok (.aload_n 1, 1) := by decide +kernel
theorem dL_law_118 : decode cL_law 118 = .ok (.iload 8, 2) := by decide +kernel
theorem dL_law_120 : decode cL_law 120 = .ok (.bipush 16, 2) := by decide +kernel
theorem dL_law_122 : decode cL_law 122 = .ok (.irem, 1) := by decide +kernel
theorem dL_law_123 : decode cL_law 123 = .ok (.iload 8, 2) := by decide +kernel
theorem dL_law_125 : decode cL_law 125 = .ok (.bipush 16, 2) := by decide +kernel
theorem dL_law_127 : decode cL_law 127 = .ok (.idiv, 1) := by decide +kernel
theorem dL_law_128 : decode cL_law 128 = .ok (.iload 9, 2) := by decide +kernel
theorem dL_law_130 : decode cL_law 130 = .ok (.invokevirtual 124, 3) := by decide +kernel
theorem dL_law_133 : decode cL_law 133 = .ok (.iastore, 1) := by decide +kernel
theorem dL_law_134 : decode cL_law 134 = .ok (.iinc 9 1, 3) := by decide +kernel
theorem dL_law_137 : decode cL_law 137 = .ok (.goto (-33), 3) := by decide +kernel
theorem dL_law_140 : decode cL_law 140 = .ok (.iinc 8 1, 3) := by decide +kernel
theorem dL_law_143 : decode cL_law 143 = .ok (.goto (-50), 3) := by decide +kernel
theorem dL_law_146 : decode cL_law 146 = .ok (.iload_n 3, 1) := by decide +kernel
theorem dL_law_147 : decode cL_law 147 = .ok (.bipush 9, 2) := by decide +kernel
theorem dL_law_149 : decode cL_law 149 = .ok (.multianewarray 123 2, 4) := by decide +kernel
theorem dL_law_153 : decode cL_law 153 = .ok (.astore 8, 2) := by decide +kernel
theorem dL_law_155 : decode cL_law 155 = .ok (.iconst 0, 1) := by decide +kernel
theorem dL_law_156 : decode cL_law 156 = .ok (.istore 9, 2) := by decide +kernel
theorem dL_law_158 : decode cL_law 158 = .ok (.iload 9, 2) := by decide +kernel
theorem dL_law_160 : decode cL_law 160 = .ok (.iload_n 3, 1) := by decide +kernel
theorem dL_law_161 : decode cL_law 161 = .ok (.if_icmp .ge 41, 3) := by decide +kernel
theorem dL_law_164 : decode cL_law 164 = .ok (.iconst 0, 1) := by decide +kernel
theorem dL_law_165 : decode cL_law 165 = .ok (.istore 10, 2) := by decide +kernel
theorem dL_law_167 : decode cL_law 167 = .ok (.iload 10, 2) := by decide +kernel
theorem dL_law_169 : decode cL_law 169 = .ok (.bipush 9, 2) := by decide +kernel
theorem dL_law_171 : decode cL_law 171 = .ok (.if_icmp .ge 25, 3) := by decide +kernel
theorem dL_law_174 : decode cL_law 174 = .ok (.aload 8, 2) := by decide +kernel
theorem dL_law_176 : decode cL_law 176 = .ok (.iload 9, 2) := by decide +kernel
theorem dL_law_178 : decode cL_law 178 = .ok (.aaload, 1) := by decide +kernel
theorem dL_law_179 : decode cL_law 179 = .ok (.iload 10, 2) := by decide +kernel
theorem dL_law_181 : decode cL_law 181 = .ok (.aload_n 1, 1) := by decide +kernel
theorem dL_law_182 : decode cL_law 182 = .ok (.iload 9, 2) := by decide +kernel
theorem dL_law_184 : decode cL_law 184 = .ok (.iload 10, 2) := by decide +kernel
theorem dL_law_186 : decode cL_law 186 = .ok (.invokevirtual 126, 3) := by decide +kernel
theorem dL_law_189 : decode cL_law 189 = .ok (.iastore, 1) := by decide +kernel
theorem dL_law_190 : decode cL_law 190 = .ok (.iinc 10 1, 3) := by decide +kernel
theorem dL_law_193 : decode cL_law 193 = .ok (.goto (-26), 3) := by decide +kernel
theorem dL_law_196 : decode cL_law 196 = .ok (.iinc 9 1, 3) := by decide +kernel
theorem dL_law_199 : decode cL_law 199 = .ok (.goto (-41), 3) := by decide +kernel
theorem dL_law_202 : decode cL_law 202 = .ok (.iload 4, 2) := by decide +kernel
theorem dL_law_204 : decode cL_law 204 = .ok (.iconst 5, 1) := by decide +kernel
theorem dL_law_205 : decode cL_law 205 = .ok (.multianewarray 123 2, 4) := by decide +kernel
theorem dL_law_209 : decode cL_law 209 = .ok (.astore 9, 2) := by decide +kernel
theorem dL_law_211 : decode cL_law 211 = .ok (.iconst 0, 1) := by decide +kernel
theorem dL_law_212 : decode cL_law 212 = .ok (.istore 10, 2) := by decide +kernel
theorem dL_law_214 : decode cL_law 214 = .ok (.iload 10, 2) := by decide +kernel
theorem dL_law_216 : decode cL_law 216 = .ok (.iload 4, 2) := by decide +kernel
theorem dL_law_218 : decode cL_law 218 = .ok (.if_icmp .ge 40, 3) := by decide +kernel
theorem dL_law_221 : decode cL_law 221 = .ok (.iconst 0, 1) := by decide +kernel
theorem dL_law_222 : decode cL_law 222 = .ok (.istore 11, 2) := by decide +kernel
theorem dL_law_224 : decode cL_law 224 = .ok (.iload 11, 2) := by decide +kernel
theorem dL_law_226 : decode cL_law 226 = .ok (.iconst 5, 1) := by decide +kernel
theorem dL_law_227 : decode cL_law 227 = .ok (.if_icmp .ge 25, 3) := by decide +kernel
theorem dL_law_230 : decode cL_law 230 = .ok (.aload 9, 2) := by decide +kernel
theorem dL_law_232 : decode cL_law 232 = .ok (.iload 10, 2) := by decide +kernel
theorem dL_law_234 : decode cL_law 234 = .ok (.aaload, 1) := by decide +kernel
theorem dL_law_235 : decode cL_law 235 = .ok (.iload 11, 2) := by decide +kernel
theorem dL_law_237 : decode cL_law 237 = .ok (.aload_n 1, 1) := by decide +kernel
theorem dL_law_238 : decode cL_law 238 = .ok (.iload 10, 2) := by decide +kernel
theorem dL_law_240 : decode cL_law 240 = .ok (.iload 11, 2) := by decide +kernel
theorem dL_law_242 : decode cL_law 242 = .ok (.invokevirtual 129, 3) := by decide +kernel
theorem dL_law_245 : decode cL_law 245 = .ok (.iastore, 1) := by decide +kernel
theorem dL_law_246 : decode cL_law 246 = .ok (.iinc 11 1, 3) := by decide +kernel
theorem dL_law_249 : decode cL_law 249 = .ok (.goto (-25), 3) := by decide +kernel
theorem dL_law_252 : decode cL_law 252 = .ok (.iinc 10 1, 3) := by decide +kernel
theorem dL_law_255 : decode cL_law 255 = .ok (.goto (-41), 3) := by decide +kernel
theorem dL_law_258 : decode cL_law 258 = .ok (.iload 6, 2) := by decide +kernel
theorem dL_law_260 : decode cL_law 260 = .ok (.iload_n 3, 1) := by decide +kernel
theorem dL_law_261 : decode cL_law 261 = .ok (.invokestatic 18, 3) := by decide +kernel
theorem dL_law_264 : decode cL_law 264 = .ok (.istore 10, 2) := by decide +kernel
theorem dL_law_266 : decode cL_law 266 = .ok (.aload_n 1, 1) := by decide +kernel
theorem dL_law_267 : decode cL_law 267 = .ok (.iload 10, 2) := by decide +kernel
theorem dL_law_269 : decode cL_law 269 = .ok (.iconst 1, 1) := by decide +kernel
theorem dL_law_270 : decode cL_law 270 = .ok (.invokevirtual 131, 3) := by decide +kernel
theorem dL_law_273 : decode cL_law 273 = .ok (.istore 11, 2) := by decide +kernel
theorem dL_law_275 : decode cL_law 275 = .ok (.aload_n 1, 1) := by decide +kernel
theorem dL_law_276 : decode cL_law 276 = .ok (.iconst 1, 1) := by decide +kernel
theorem dL_law_277 : decode cL_law 277 = .ok (.invokevirtual 134, 3) := by decide +kernel
theorem dL_law_280 : decode cL_law 280 = .ok (.istore 12, 2) := by decide +kernel
theorem dL_law_282 : decode cL_law 282 = .ok (.aload_n 2, 1) := by decide +kernel
theorem dL_law_283 : decode cL_law 283 = .ok (.getfield 43, 3) := by decide +kernel
theorem dL_law_286 : decode cL_law 286 = .ok (.iload 5, 2) := by decide +kernel
theorem dL_law_288 : decode cL_law 288 = .ok (.bipush 24, 2) := by decide +kernel
theorem dL_law_290 : decode cL_law 290 = .ok (.idiv, 1) := by decide +kernel
theorem dL_law_291 : decode cL_law 291 = .ok (.bipush 8, 2) := by decide +kernel
theorem dL_law_293 : decode cL_law 293 = .ok (.irem, 1) := by decide +kernel
theorem dL_law_294 : decode cL_law 294 = .ok (.iaload, 1) := by decide +kernel
theorem dL_law_295 : decode cL_law 295 = .ok (.istore 13, 2) := by decide +kernel
theorem dL_law_297 : decode cL_law 297 = .ok (.aload_n 2, 1) := by decide +kernel
theorem dL_law_298 : decode cL_law 298 = .ok (.invokevirtual 137, 3) := by decide +kernel
theorem dL_law_301 : decode cL_law 301 = .ok (.pop, 1) := by decide +kernel
theorem dL_law_302 : decode cL_law 302 = .ok (.iload 5, 2) := by decide +kernel
theorem dL_law_304 : decode cL_law 304 = .ok (.bipush 24, 2) := by decide +kernel
theorem dL_law_306 : decode cL_law 306 = .ok (.irem, 1) := by decide +kernel
theorem dL_law_307 : decode cL_law 307 = .ok (.ifCond .ne 7, 3) := by decide +kernel
theorem dL_law_310 : decode cL_law 310 = .ok (.iconst 1, 1) := by decide +kernel
theorem dL_law_311 : decode cL_law 311 = .ok (.goto 4, 3) := by decide +kernel
theorem dL_law_314 : decode cL_law 314 = .ok (.iconst 0, 1) := by decide +kernel
theorem dL_law_315 : decode cL_law 315 = .ok (.istore 14, 2) := by decide +kernel
theorem dL_law_317 : decode cL_law 317 = .ok (.sipush 160, 3) := by decide +kernel
theorem dL_law_320 : decode cL_law 320 = .ok (.newarray .int, 2) := by decide +kernel
theorem dL_law_322 : decode cL_law 322 = .ok (.astore 15, 2) := by decide +kernel
theorem dL_law_324 : decode cL_law 324 = .ok (.iconst 0, 1) := by decide +kernel
theorem dL_law_325 : decode cL_law 325 = .ok (.istore 16, 2) := by decide +kernel
theorem dL_law_327 : decode cL_law 327 = .ok (.iconst 0, 1) := by decide +kernel
theorem dL_law_328 : decode cL_law 328 = .ok (.istore 17, 2) := by decide +kernel
theorem dL_law_330 : decode cL_law 330 = .ok (.iload 17, 2) := by decide +kernel
theorem dL_law_332 : decode cL_law 332 = .ok (.iload_n 3, 1) := by decide +kernel
theorem dL_law_333 : decode cL_law 333 = .ok (.if_icmp .ge 558, 3) := by decide +kernel
theorem dL_law_336 : decode cL_law 336 = .ok (.aload_n 1, 1) := by decide +kernel
theorem dL_law_337 : decode cL_law 337 = .ok (.iload 17, 2) := by decide +kernel
theorem dL_law_339 : decode cL_law 339 = .ok (.iconst 3, 1) := by decide +kernel
theorem dL_law_340 : decode cL_law 340 = .ok (.invokevirtual 126, 3) := by decide +kernel
theorem dL_law_343 : decode cL_law 343 = .ok (.istore 18, 2) := by decide +kernel
theorem dL_law_345 : decode cL_law 345 = .ok (.aload_n 1, 1) := by decide +kernel
theorem dL_law_346 : decode cL_law 346 = .ok (.iload 17, 2) := by decide +kernel
theorem dL_law_348 : decode cL_law 348 = .ok (.iconst 4, 1) := by decide +kernel
theorem dL_law_349 : decode cL_law 349 = .ok (.invokevirtual 126, 3) := by decide +kernel
theorem dL_law_352 : decode cL_law 352 = .ok (.istore 19, 2) := by decide +kernel
theorem dL_law_354 : decode cL_law 354 = .ok (.iload 17, 2) := by decide +kernel
theorem dL_law_356 : decode cL_law 356 = .ok (.iload 10, 2) := by decide +kernel
theorem dL_law_358 : decode cL_law 358 = .ok (.if_icmp .ne 22, 3) := by decide +kernel
theorem dL_law_361 : decode cL_law 361 = .ok (.iload 11, 2) := by decide +kernel
theorem dL_law_363 : decode cL_law 363 = .ok (.iload 18, 2) := by decide +kernel
theorem dL_law_365 : decode cL_law 365 = .ok (.iconst 2, 1) := by decide +kernel
theorem dL_law_366 : decode cL_law 366 = .ok (.if_icmp .ne 7, 3) := by decide +kernel
theorem dL_law_369 : decode cL_law 369 = .ok (.iconst (-1), 1) := by decide +kernel
theorem dL_law_370 : decode cL_law 370 = .ok (.goto 5, 3) := by decide +kernel
theorem dL_law_373 : decode cL_law 373 = .ok (.iload 19, 2) := by decide +kernel
theorem dL_law_375 : decode cL_law 375 = .ok (.if_icmp .eq 5, 3) := by decide +kernel
theorem dL_law_378 : decode cL_law 378 = .ok (.iconst 0, 1) := by decide +kernel
theorem dL_law_379 : decode cL_law 379 = .ok (.ireturn, 1) := by decide +kernel
theorem dL_law_380 : decode cL_law 380 = .ok (.aload_n 1, 1) := by decide +kernel
theorem dL_law_381 : decode cL_law 381 = .ok (.iload 17, 2) := by decide +kernel
theorem dL_law_383 : decode cL_law 383 = .ok (.iconst 0, 1) := by decide +kernel
theorem dL_law_384 : decode cL_law 384 = .ok (.invokevirtual 126, 3) := by decide +kernel
theorem dL_law_387 : decode cL_law 387 = .ok (.aload 8, 2) := by decide +kernel
theorem dL_law_389 : decode cL_law 389 = .ok (.iload 17, 2) := by decide +kernel
theorem dL_law_391 : decode cL_law 391 = .ok (.aaload, 1) := by decide +kernel
theorem dL_law_392 : decode cL_law 392 = .ok (.iconst 0, 1) := by decide +kernel
theorem dL_law_393 : decode cL_law 393 = .ok (.iaload, 1) := by decide +kernel
theorem dL_law_394 : decode cL_law 394 = .ok (.if_icmp .ne 49, 3) := by decide +kernel
theorem dL_law_397 : decode cL_law 397 = .ok (.aload_n 1, 1) := by decide +kernel
theorem dL_law_398 : decode cL_law 398 = .ok (.iload 17, 2) := by decide +kernel
theorem dL_law_400 : decode cL_law 400 = .ok (.bipush 7, 2) := by decide +kernel
theorem dL_law_402 : decode cL_law 402 = .ok (.invokevirtual 126, 3) := by decide +kernel
theorem dL_law_405 : decode cL_law 405 = .ok (.bipush 8, 2) := by decide +kernel
theorem dL_law_407 : decode cL_law 407 = .ok (.aload_n 1, 1) := by decide +kernel
theorem dL_law_408 : decode cL_law 408 = .ok (.iload 17, 2) := by decide +kernel
theorem dL_law_410 : decode cL_law 410 = .ok (.iconst 1, 1) := by decide +kernel
theorem dL_law_411 : decode cL_law 411 = .ok (.invokevirtual 126, 3) := by decide +kernel
theorem dL_law_414 : decode cL_law 414 = .ok (.bipush 12, 2) := by decide +kernel
theorem dL_law_416 : decode cL_law 416 = .ok (.idiv, 1) := by decide +kernel
theorem dL_law_417 : decode cL_law 417 = .ok (.iadd, 1) := by decide +kernel
theorem dL_law_418 : decode cL_law 418 = .ok (.if_icmp .ne 25, 3) := by decide +kernel
theorem dL_law_421 : decode cL_law 421 = .ok (.aload_n 1, 1) := by decide +kernel
theorem dL_law_422 : decode cL_law 422 = .ok (.iload 17, 2) := by decide +kernel
theorem dL_law_424 : decode cL_law 424 = .ok (.iconst 2, 1) := by decide +kernel
theorem dL_law_425 : decode cL_law 425 = .ok (.invokevirtual 126, 3) := by decide +kernel
theorem dL_law_428 : decode cL_law 428 = .ok (.ifCond .lt 15, 3) := by decide +kernel
theorem dL_law_431 : decode cL_law 431 = .ok (.aload_n 1, 1) := by decide +kernel
theorem dL_law_432 : decode cL_law 432 = .ok (.iload 17, 2) := by decide +kernel
theorem dL_law_434 : decode cL_law 434 = .ok (.iconst 2, 1) := by decide +kernel
theorem dL_law_435 : decode cL_law 435 = .ok (.invokevirtual 126, 3) := by decide +kernel
theorem dL_law_438 : decode cL_law 438 = .ok (.bipush 100, 2) := by decide +kernel
theorem dL_law_440 : decode cL_law 440 = .ok (.if_icmp .le 5, 3) := by decide +kernel
theorem dL_law_443 : decode cL_law 443 = .ok (.iconst 0, 1) := by decide +kernel
theorem dL_law_444 : decode cL_law 444 = .ok (.ireturn, 1) := by decide +kernel
theorem dL_law_445 : decode cL_law 445 = .ok (.aload 8, 2) := by decide +kernel
theorem dL_law_447 : decode cL_law 447 = .ok (.iload 17, 2) := by decide +kernel
theorem dL_law_449 : decode cL_law 449 = .ok (.aaload, 1) := by decide +kernel
theorem dL_law_450 : decode cL_law 450 = .ok (.iconst 3, 1) := by decide +kernel
theorem dL_law_451 : decode cL_law 451 = .ok (.iaload, 1) := by decide +kernel
theorem dL_law_452 : decode cL_law 452 = .ok (.iconst 2, 1) := by decide +kernel
theorem dL_law_453 : decode cL_law 453 = .ok (.if_icmp .ne 23, 3) := by decide +kernel
theorem dL_law_456 : decode cL_law 456 = .ok (.iload 18, 2) := by decide +kernel
theorem dL_law_458 : decode cL_law 458 = .ok (.iconst 2, 1) := by decide +kernel
theorem dL_law_459 : decode cL_law 459 = .ok (.if_icmp .ne 15, 3) := by decide +kernel
theorem dL_law_462 : decode cL_law 462 = .ok (.iload 19, 2) := by decide +kernel
theorem dL_law_464 : decode cL_law 464 = .ok (.aload 8, 2) := by decide +kernel
theorem dL_law_466 : decode cL_law 466 = .ok (.iload 17, 2) := by decide +kernel
theorem dL_law_468 : decode cL_law 468 = .ok (.aaload, 1) := by decide +kernel
theorem dL_law_469 : decode cL_law 469 = .ok (.iconst 4, 1) := by decide +kernel
theorem dL_law_470 : decode cL_law 470 = .ok (.iaload, 1) := by decide +kernel
theorem dL_law_471 : decode cL_law 471 = .ok (.if_icmp .eq 414, 3) := by decide +kernel
theorem dL_law_474 : decode cL_law 474 = .ok (.iconst 0, 1) := by decide +kernel
theorem dL_law_475 : decode cL_law 475 = .ok (.ireturn, 1) := by decide +kernel
theorem dL_law_476 : decode cL_law 476 = .ok (.iload 18, 2) := by decide +kernel
theorem dL_law_478 : decode cL_law 478 = .ok (.iconst 2, 1) := by decide +kernel
theorem dL_law_479 : decode cL_law 479 = .ok (.if_icmp .ne 128, 3) := by decide +kernel
theorem dL_law_482 : decode cL_law 482 = .ok (.bipush 8, 2) := by decide +kernel
theorem dL_law_484 : decode cL_law 484 = .ok (.aload 8, 2) := by decide +kernel
theorem dL_law_486 : decode cL_law 486 = .ok (.iload 17, 2) := by decide +kernel
theorem dL_law_488 : decode cL_law 488 = .ok (.aaload, 1) := by decide +kernel
theorem dL_law_489 : decode cL_law 489 = .ok (.iconst 1, 1) := by decide +kernel
theorem dL_law_490 : decode cL_law 490 = .ok (.iaload, 1) := by decide +kernel
theorem dL_law_491 : decode cL_law 491 = .ok (.bipush 12, 2) := by decide +kernel
theorem dL_law_493 : decode cL_law 493 = .ok (.idiv, 1) := by decide +kernel
theorem dL_law_494 : decode cL_law 494 = .ok (.iadd, 1) := by decide +kernel
theorem dL_law_495 : decode cL_law 495 = .ok (.aload_n 1, 1) := by decide +kernel
theorem dL_law_496 : decode cL_law 496 = .ok (.iload 19, 2) := by decide +kernel
theorem dL_law_498 : decode cL_law 498 = .ok (.bipush 16, 2) := by decide +kernel
theorem dL_law_500 : decode cL_law 500 = .ok (.irem, 1) := by decide +kernel
theorem dL_law_501 : decode cL_law 501 = .ok (.iload 19, 2) := by decide +kernel
theorem dL_law_503 : decode cL_law 503 = .ok (.bipush 16, 2) := by decide +kernel
theorem dL_law_505 : decode cL_law 505 = .ok (.idiv, 1) := by decide +kernel
theorem dL_law_506 : decode cL_law 506 = .ok (.iconst 3, 1) := by decide +kernel
theorem dL_law_507 : decode cL_law 507 = .ok (.invokevirtual 124, 3) := by decide +kernel
theorem dL_law_510 : decode cL_law 510 = .ok (.iconst 1, 1) := by decide +kernel
theorem dL_law_511 : decode cL_law 511 = .ok (.if_icmp .ne 7, 3) := by decide +kernel
theorem dL_law_514 : decode cL_law 514 = .ok (.iconst 2, 1) := by decide +kernel
theorem dL_law_515 : decode cL_law 515 = .ok (.goto 4, 3) := by decide +kernel
theorem dL_law_518 : decode cL_law 518 = .ok (.iconst 1, 1) := by decide +kernel
theorem dL_law_519 : decode cL_law 519 = .ok (.imul, 1) := by decide +kernel
theorem dL_law_520 : decode cL_law 520 = .ok (.istore 20, 2) := by decide +kernel
theorem dL_law_522 : decode cL_law 522 = .ok (.iload 19, 2) := by decide +kernel
theorem dL_law_524 : decode cL_law 524 = .ok (.aload 8, 2) := by decide +kernel
theorem dL_law_526 : decode cL_law 526 = .ok (.iload 17, 2) := by decide +kernel
theorem dL_law_528 : decode cL_law 528 = .ok (.aaload, 1) := by decide +kernel
theorem dL_law_529 : decode cL_law 529 = .ok (.iconst 4, 1) := by decide +kernel
theorem dL_law_530 : decode cL_law 530 = .ok (.iaload, 1) := by decide +kernel
theorem dL_law_531 : decode cL_law 531 = .ok (.if_icmp .ne 74, 3) := by decide +kernel
theorem dL_law_534 : decode cL_law 534 = .ok (.aload_n 1, 1) := by decide +kernel
theorem dL_law_535 : decode cL_law 535 = .ok (.iload 19, 2) := by decide +kernel
theorem dL_law_537 : decode cL_law 537 = .ok (.bipush 16, 2) := by decide +kernel
theorem dL_law_539 : decode cL_law 539 = .ok (.irem, 1) := by decide +kernel
theorem dL_law_540 : decode cL_law 540 = .ok (.iload 19, 2) := by decide +kernel
theorem dL_law_542 : decode cL_law 542 = .ok (.bipush 16, 2) := by decide +kernel
theorem dL_law_544 : decode cL_law 544 = .ok (.idiv, 1) := by decide +kernel
theorem dL_law_545 : decode cL_law 545 = .ok (.iconst 0, 1) := by decide +kernel
theorem dL_law_546 : decode cL_law 546 = .ok (.invokevirtual 124, 3) := by decide +kernel
theorem dL_law_549 : decode cL_law 549 = .ok (.ifCond .lt 56, 3) := by decide +kernel
theorem dL_law_552 : decode cL_law 552 = .ok (.aload_n 1, 1) := by decide +kernel
theorem dL_law_553 : decode cL_law 553 = .ok (.iload 19, 2) := by decide +kernel
theorem dL_law_555 : decode cL_law 555 = .ok (.bipush 16, 2) := by decide +kernel
theorem dL_law_557 : decode cL_law 557 = .ok (.irem, 1) := by decide +kernel
theorem dL_law_558 : decode cL_law 558 = .ok (.iload 19, 2) := by decide +kernel
theorem dL_law_560 : decode cL_law 560 = .ok (.bipush 16, 2) := by decide +kernel
theorem dL_law_562 : decode cL_law 562 = .ok (.idiv, 1) := by decide +kernel
theorem dL_law_563 : decode cL_law 563 = .ok (.iconst 0, 1) := by decide +kernel
theorem dL_law_564 : decode cL_law 564 = .ok (.invokevirtual 124, 3) := by decide +kernel
theorem dL_law_567 : decode cL_law 567 = .ok (.iload 20, 2) := by decide +kernel
theorem dL_law_569 : decode cL_law 569 = .ok (.if_icmp .ge 36, 3) := by decide +kernel
theorem dL_law_572 : decode cL_law 572 = .ok (.aload_n 1, 1) := by decide +kernel
theorem dL_law_573 : decode cL_law 573 = .ok (.iload 17, 2) := by decide +kernel
theorem dL_law_575 : decode cL_law 575 = .ok (.iconst 5, 1) := by decide +kernel
theorem dL_law_576 : decode cL_law 576 = .ok (.invokevirtual 126, 3) := by decide +kernel
theorem dL_law_579 : decode cL_law 579 = .ok (.iconst (-1), 1) := by decide +kernel
theorem dL_law_580 : decode cL_law 580 = .ok (.if_icmp .ne 25, 3) := by decide +kernel
theorem dL_law_583 : decode cL_law 583 = .ok (.aload_n 1, 1) := by decide +kernel
theorem dL_law_584 : decode cL_law 584 = .ok (.iload 17, 2) := by decide +kernel
theorem dL_law_586 : decode cL_law 586 = .ok (.bipush 6, 2) := by decide +kernel
theorem dL_law_588 : decode cL_law 588 = .ok (.invokevirtual 126, 3) := by decide +kernel
theorem dL_law_591 : decode cL_law 591 = .ok (.ifCond .ne 14, 3) := by decide +kernel
theorem dL_law_594 : decode cL_law 594 = .ok (.aload_n 1, 1) := by decide +kernel
theorem dL_law_595 : decode cL_law 595 = .ok (.iload 17, 2) := by decide +kernel
theorem dL_law_597 : decode cL_law 597 = .ok (.bipush 8, 2) := by decide +kernel
theorem dL_law_599 : decode cL_law 599 = .ok (.invokevirtual 126, 3) := by decide +kernel
theorem dL_law_602 : decode cL_law 602 = .ok (.ifCond .eq 283, 3) := by decide +kernel
theorem dL_law_605 : decode cL_law 605 = .ok (.iconst 0, 1) := by decide +kernel
theorem dL_law_606 : decode cL_law 606 = .ok (.ireturn, 1) := by decide +kernel
theorem dL_law_607 : decode cL_law 607 = .ok (.aload 8, 2) := by decide +kernel
theorem dL_law_609 : decode cL_law 609 = .ok (.iload 17, 2) := by decide +kernel
theorem dL_law_611 : decode cL_law 611 = .ok (.aaload, 1) := by decide +kernel
theorem dL_law_612 : decode cL_law 612 = .ok (.bipush 6, 2) := by decide +kernel
theorem dL_law_614 : decode cL_law 614 = .ok (.iaload, 1) := by decide +kernel
theorem dL_law_615 : decode cL_law 615 = .ok (.iconst 1, 1) := by decide +kernel
theorem dL_law_616 : decode cL_law 616 = .ok (.if_icmp .ne 7, 3) := by decide +kernel
theorem dL_law_619 : decode cL_law 619 = .ok (.iconst 1, 1) := by decide +kernel
theorem dL_law_620 : decode cL_law 620 = .ok (.goto 4, 3) := by decide +kernel
theorem dL_law_623 : decode cL_law 623 = .ok (.iconst 0, 1) := by decide +kernel
theorem dL_law_624 : decode cL_law 624 = .ok (.istore 20, 2) := by decide +kernel
theorem dL_law_626 : decode cL_law 626 = .ok (.iload 20, 2) := by decide +kernel
theorem dL_law_628 : decode cL_law 628 = .ok (.iload 19, 2) := by decide +kernel
theorem dL_law_630 : decode cL_law 630 = .ok (.aload 8, 2) := by decide +kernel
theorem dL_law_632 : decode cL_law 632 = .ok (.iload 17, 2) := by decide +kernel
theorem dL_law_634 : decode cL_law 634 = .ok (.aaload, 1) := by decide +kernel
theorem dL_law_635 : decode cL_law 635 = .ok (.iconst 4, 1) := by decide +kernel
theorem dL_law_636 : decode cL_law 636 = .ok (.iaload, 1) := by decide +kernel
theorem dL_law_637 : decode cL_law 637 = .ok (.if_icmp .eq 7, 3) := by decide +kernel
theorem dL_law_640 : decode cL_law 640 = .ok (.iconst 1, 1) := by decide +kernel
theorem dL_law_641 : decode cL_law 641 = .ok (.goto 4, 3) := by decide +kernel
theorem dL_law_644 : decode cL_law 644 = .ok (.iconst 0, 1) := by decide +kernel
theorem dL_law_645 : decode cL_law 645 = .ok (.if_icmp .eq 5, 3) := by decide +kernel
theorem dL_law_648 : decode cL_law 648 = .ok (.iconst 0, 1) := by decide +kernel
theorem dL_law_649 : decode cL_law 649 = .ok (.ireturn, 1) := by decide +kernel
theorem dL_law_650 : decode cL_law 650 = .ok (.iload 20, 2) := by decide +kernel
theorem dL_law_652 : decode cL_law 652 = .ok (.ifCond .eq 100, 3) := by decide +kernel
theorem dL_law_655 : decode cL_law 655 = .ok (.iload 19, 2) := by decide +kernel
theorem dL_law_657 : decode cL_law 657 = .ok (.bipush 16, 2) := by decide +kernel
theorem dL_law_659 : decode cL_law 659 = .ok (.irem, 1) := by decide +kernel
theorem dL_law_660 : decode cL_law 660 = .ok (.aload 8, 2) := by decide +kernel
theorem dL_law_662 : decode cL_law 662 = .ok (.iload 17, 2) := by decide +kernel
theorem dL_law_664 : decode cL_law 664 = .ok (.aaload, 1) := by decide +kernel
theorem dL_law_665 : decode cL_law 665 = .ok (.iconst 4, 1) := by decide +kernel
theorem dL_law_666 : decode cL_law 666 = .ok (.iaload, 1) := by decide +kernel
theorem dL_law_667 : decode cL_law 667 = .ok (.bipush 16, 2) := by decide +kernel
theorem dL_law_669 : decode cL_law 669 = .ok (.irem, 1) := by decide +kernel
theorem dL_law_670 : decode cL_law 670 = .ok (.isub, 1) := by decide +kernel
theorem dL_law_671 : decode cL_law 671 = .ok (.invokestatic 140, 3) := by decide +kernel
theorem dL_law_674 : decode cL_law 674 = .ok (.iload 19, 2) := by decide +kernel
theorem dL_law_676 : decode cL_law 676 = .ok (.bipush 16, 2) := by decide +kernel
theorem dL_law_678 : decode cL_law 678 = .ok (.idiv, 1) := by decide +kernel
theorem dL_law_679 : decode cL_law 679 = .ok (.aload 8, 2) := by decide +kernel
theorem dL_law_681 : decode cL_law 681 = .ok (.iload 17, 2) := by decide +kernel
theorem dL_law_683 : decode cL_law 683 = .ok (.aaload, 1) := by decide +kernel
theorem dL_law_684 : decode cL_law 684 = .ok (.iconst 4, 1) := by decide +kernel
theorem dL_law_685 : decode cL_law 685 = .ok (.iaload, 1) := by decide +kernel
theorem dL_law_686 : decode cL_law 686 = .ok (.bipush 16, 2) := by decide +kernel
theorem dL_law_688 : decode cL_law 688 = .ok (.idiv, 1) := by decide +kernel
theorem dL_law_689 : decode cL_law 689 = .ok (.isub, 1) := by decide +kernel
theorem dL_law_690 : decode cL_law 690 = .ok (.invokestatic 140, 3) := by decide +kernel
theorem dL_law_693 : decode cL_law 693 = .ok (.iadd, 1) := by decide +kernel
theorem dL_law_694 : decode cL_law 694 = .ok (.iconst 1, 1) := by decide +kernel
theorem dL_law_695 : decode cL_law 695 = .ok (.if_icmp .ne 55, 3) := by decide +kernel
theorem dL_law_698 : decode cL_law 698 = .ok (.aload_n 1, 1) := by decide +kernel
theorem dL_law_699 : decode cL_law 699 = .ok (.iload 17, 2) := by decide +kernel
theorem dL_law_701 : decode cL_law 701 = .ok (.iconst 2, 1) := by decide +kernel
theorem dL_law_702 : decode cL_law 702 = .ok (.invokevirtual 126, 3) := by decide +kernel
theorem dL_law_705 : decode cL_law 705 = .ok (.bipush 100, 2) := by decide +kernel
theorem dL_law_707 : decode cL_law 707 = .ok (.aload 8, 2) := by decide +kernel
theorem dL_law_709 : decode cL_law 709 = .ok (.iload 17, 2) := by decide +kernel
theorem dL_law_711 : decode cL_law 711 = .ok (.aaload, 1) := by decide +kernel
theorem dL_law_712 : decode cL_law 712 = .ok (.iconst 2, 1) := by decide +kernel
theorem dL_law_713 : decode cL_law 713 = .ok (.iaload, 1) := by decide +kernel
theorem dL_law_714 : decode cL_law 714 = .ok (.iconst 1, 1) := by decide +kernel
theorem dL_law_715 : decode cL_law 715 = .ok (.iadd, 1) := by decide +kernel
theorem dL_law_716 : decode cL_law 716 = .ok (.invokestatic 46, 3) := by decide +kernel
theorem dL_law_719 : decode cL_law 719 = .ok (.iload 18, 2) := by decide +kernel
theorem dL_law_721 : decode cL_law 721 = .ok (.ifCond .ne 24, 3) := by decide +kernel
theorem dL_law_724 : decode cL_law 724 = .ok (.iconst 2, 1) := by decide +kernel
theorem dL_law_725 : decode cL_law 725 = .ok (.bipush 100, 2) := by decide +kernel
theorem dL_law_727 : decode cL_law 727 = .ok (.aload 8, 2) := by decide +kernel
theorem dL_law_729 : decode cL_law 729 = .ok (.iload 17, 2) := by decide +kernel
theorem dL_law_731 : decode cL_law 731 = .ok (.aaload, 1) := by decide +kernel
theorem dL_law_732 : decode cL_law 732 = .ok (.iconst 2, 1) := by decide +kernel
theorem dL_law_733 : decode cL_law 733 = .ok (.iaload, 1) := by decide +kernel
theorem dL_law_734 : decode cL_law 734 = .ok (.iconst 1, 1) := by decide +kernel
theorem dL_law_735 : decode cL_law 735 = .ok (.iadd, 1) := by decide +kernel
theorem dL_law_736 : decode cL_law 736 = .ok (.invokestatic 46, 3) := by decide +kernel
theorem dL_law_739 : decode cL_law 739 = .ok (.invokestatic 46, 3) := by decide +kernel
theorem dL_law_742 : decode cL_law 742 = .ok (.goto 4, 3) := by decide +kernel
theorem dL_law_745 : decode cL_law 745 = .ok (.iconst 0, 1) := by decide +kernel
theorem dL_law_746 : decode cL_law 746 = .ok (.isub, 1) := by decide +kernel
theorem dL_law_747 : decode cL_law 747 = .ok (.if_icmp .eq 5, 3) := by decide +kernel
theorem dL_law_750 : decode cL_law 750 = .ok (.iconst 0, 1) := by decide +kernel
theorem dL_law_751 : decode cL_law 751 = .ok (.ireturn, 1) := by decide +kernel
theorem dL_law_752 : decode cL_law 752 = .ok (.aload 8, 2) := by decide +kernel
theorem dL_law_754 : decode cL_law 754 = .ok (.iload 17, 2) := by decide +kernel
theorem dL_law_756 : decode cL_law 756 = .ok (.aaload, 1) := by decide +kernel
theorem dL_law_757 : decode cL_law 757 = .ok (.bipush 6, 2) := by decide +kernel
theorem dL_law_759 : decode cL_law 759 = .ok (.iaload, 1) := by decide +kernel
theorem dL_law_760 : decode cL_law 760 = .ok (.iconst 1, 1) := by decide +kernel
theorem dL_law_761 : decode cL_law 761 = .ok (.if_icmp .le 32, 3) := by decide +kernel
theorem dL_law_764 : decode cL_law 764 = .ok (.aload_n 1, 1) := by decide +kernel
theorem dL_law_765 : decode cL_law 765 = .ok (.iload 17, 2) := by decide +kernel
theorem dL_law_767 : decode cL_law 767 = .ok (.bipush 6, 2) := by decide +kernel
theorem dL_law_769 : decode cL_law 769 = .ok (.invokevirtual 126, 3) := by decide +kernel
theorem dL_law_772 : decode cL_law 772 = .ok (.aload 8, 2) := by decide +kernel
theorem dL_law_774 : decode cL_law 774 = .ok (.iload 17, 2) := by decide +kernel
theorem dL_law_776 : decode cL_law 776 = .ok (.aaload, 1) := by decide +kernel
theorem dL_law_777 : decode cL_law 777 = .ok (.bipush 6, 2) := by decide +kernel
theorem dL_law_779 : decode cL_law 779 = .ok (.iaload, 1) := by decide +kernel
theorem dL_law_780 : decode cL_law 780 = .ok (.iconst 1, 1) := by decide +kernel
theorem dL_law_781 : decode cL_law 781 = .ok (.isub, 1) := by decide +kernel
theorem dL_law_782 : decode cL_law 782 = .ok (.if_icmp .ne 9, 3) := by decide +kernel
theorem dL_law_785 : decode cL_law 785 = .ok (.iload 18, 2) := by decide +kernel
theorem dL_law_787 : decode cL_law 787 = .ok (.iconst 1, 1) := by decide +kernel
theorem dL_law_788 : decode cL_law 788 = .ok (.if_icmp .eq 5, 3) := by decide +kernel
theorem dL_law_791 : decode cL_law 791 = .ok (.iconst 0, 1) := by decide +kernel
theorem dL_law_792 : decode cL_law 792 = .ok (.ireturn, 1) := by decide +kernel
theorem dL_law_793 : decode cL_law 793 = .ok (.iload 18, 2) := by decide +kernel
theorem dL_law_795 : decode cL_law 795 = .ok (.ifCond .ne 20, 3) := by decide +kernel
theorem dL_law_798 : decode cL_law 798 = .ok (.iload 19, 2) := by decide +kernel
theorem dL_law_800 : decode cL_law 800 = .ok (.aload_n 2, 1) := by decide +kernel
theorem dL_law_801 : decode cL_law 801 = .ok (.getfield 58, 3) := by decide +kernel
theorem dL_law_804 : decode cL_law 804 = .ok (.aload_n 1, 1) := by decide +kernel
theorem dL_law_805 : decode cL_law 805 = .ok (.iload 17, 2) := by decide +kernel
theorem dL_law_807 : decode cL_law 807 = .ok (.iconst 5, 1) := by decide +kernel
theorem dL_law_808 : decode cL_law 808 = .ok (.invokevirtual 126, 3) := by decide +kernel
theorem dL_law_811 : decode cL_law 811 = .ok (.iaload, 1) := by decide +kernel
theorem dL_law_812 : decode cL_law 812 = .ok (.if_icmp .ne 39, 3) := by decide +kernel
theorem dL_law_815 : decode cL_law 815 = .ok (.aload 8, 2) := by decide +kernel
theorem dL_law_817 : decode cL_law 817 = .ok (.iload 17, 2) := by decide +kernel
theorem dL_law_819 : decode cL_law 819 = .ok (.aaload, 1) := by decide +kernel
theorem dL_law_820 : decode cL_law 820 = .ok (.iconst 3, 1) := by decide +kernel
theorem dL_law_821 : decode cL_law 821 = .ok (.iaload, 1) := by decide +kernel
theorem dL_law_822 : decode cL_law 822 = .ok (.ifCond .ne 8, 3) := by decide +kernel
theorem dL_law_825 : decode cL_law 825 = .ok (.iload 18, 2) := by decide +kernel
theorem dL_law_827 : decode cL_law 827 = .ok (.ifCond .ne 24, 3) := by decide +kernel
theorem dL_law_830 : decode cL_law 830 = .ok (.iload 18, 2) := by decide +kernel
theorem dL_law_832 : decode cL_law 832 = .ok (.ifCond .ne 21, 3) := by decide +kernel
theorem dL_law_835 : decode cL_law 835 = .ok (.aload 8, 2) := by decide +kernel
theorem dL_law_837 : decode cL_law 837 = .ok (.iload 17, 2) := by decide +kernel
theorem dL_law_839 : decode cL_law 839 = .ok (.aaload, 1) := by decide +kernel
theorem dL_law_840 : decode cL_law 840 = .ok (.iconst 3, 1) := by decide +kernel
theorem dL_law_841 : decode cL_law 841 = .ok (.iaload, 1) := by decide +kernel
theorem dL_law_842 : decode cL_law 842 = .ok (.iconst 1, 1) := by decide +kernel
theorem dL_law_843 : decode cL_law 843 = .ok (.if_icmp .ne 10, 3) := by decide +kernel
theorem dL_law_846 : decode cL_law 846 = .ok (.iload 20, 2) := by decide +kernel
theorem dL_law_848 : decode cL_law 848 = .ok (.ifCond .ne 5, 3) := by decide +kernel
theorem dL_law_851 : decode cL_law 851 = .ok (.iconst 0, 1) := by decide +kernel
theorem dL_law_852 : decode cL_law 852 = .ok (.ireturn, 1) := by decide +kernel
theorem dL_law_853 : decode cL_law 853 = .ok (.aload 8, 2) := by decide +kernel
theorem dL_law_855 : decode cL_law 855 = .ok (.iload 17, 2) := by decide +kernel
theorem dL_law_857 : decode cL_law 857 = .ok (.aaload, 1) := by decide +kernel
theorem dL_law_858 : decode cL_law 858 = .ok (.bipush 6, 2) := by decide +kernel
theorem dL_law_860 : decode cL_law 860 = .ok (.iaload, 1) := by decide +kernel
theorem dL_law_861 : decode cL_law 861 = .ok (.iconst 1, 1) := by decide +kernel
theorem dL_law_862 : decode cL_law 862 = .ok (.if_icmp .gt 23, 3) := by decide +kernel
theorem dL_law_865 : decode cL_law 865 = .ok (.aload_n 1, 1) := by decide +kernel
theorem dL_law_866 : decode cL_law 866 = .ok (.iload 17, 2) := by decide +kernel
theorem dL_law_868 : decode cL_law 868 = .ok (.bipush 6, 2) := by decide +kernel
theorem dL_law_870 : decode cL_law 870 = .ok (.invokevirtual 126, 3) := by decide +kernel
theorem dL_law_873 : decode cL_law 873 = .ok (.ifCond .le 12, 3) := by decide +kernel
theorem dL_law_876 : decode cL_law 876 = .ok (.aload 15, 2) := by decide +kernel
theorem dL_law_878 : decode cL_law 878 = .ok (.iload 19, 2) := by decide +kernel
theorem dL_law_880 : decode cL_law 880 = .ok (.dup2, 1) := by decide +kernel
theorem dL_law_881 : decode cL_law 881 = .ok (.iaload, 1) := by decide +kernel
theorem dL_law_882 : decode cL_law 882 = .ok (.iconst 1, 1) := by decide +kernel
theorem dL_law_883 : decode cL_law 883 = .ok (.iadd, 1) := by decide +kernel
theorem dL_law_884 : decode cL_law 884 = .ok (.iastore, 1) := by decide +kernel
theorem dL_law_885 : decode cL_law 885 = .ok (.iinc 17 1, 3) := by decide +kernel
theorem dL_law_888 : decode cL_law 888 = .ok (.goto (-558), 3) := by decide +kernel
theorem dL_law_891 : decode cL_law 891 = .ok (.iconst 0, 1) := by decide +kernel
theorem dL_law_892 : decode cL_law 892 = .ok (.istore 17, 2) := by decide +kernel
theorem dL_law_894 : decode cL_law 894 = .ok (.iload 17, 2) := by decide +kernel
theorem dL_law_896 : decode cL_law 896 = .ok (.iload 4, 2) := by decide +kernel
theorem dL_law_898 : decode cL_law 898 = .ok (.if_icmp .ge 302, 3) := by decide +kernel
theorem dL_law_901 : decode cL_law 901 = .ok (.aload_n 1, 1) := by decide +kernel
theorem dL_law_902 : decode cL_law 902 = .ok (.iload 17, 2) := by decide +kernel
theorem dL_law_904 : decode cL_law 904 = .ok (.iconst 2, 1) := by decide +kernel
theorem dL_law_905 : decode cL_law 905 = .ok (.invokevirtual 129, 3) := by decide +kernel
theorem dL_law_908 : decode cL_law 908 = .ok (.istore 18, 2) := by decide +kernel
theorem dL_law_910 : decode cL_law 910 = .ok (.aload 9, 2) := by decide +kernel
theorem dL_law_912 : decode cL_law 912 = .ok (.iload 17, 2) := by decide +kernel
theorem dL_law_914 : decode cL_law 914 = .ok (.aaload, 1) := by decide +kernel
theorem dL_law_915 : decode cL_law 915 = .ok (.iconst 3, 1) := by decide +kernel
theorem dL_law_916 : decode cL_law 916 = .ok (.iaload, 1) := by decide +kernel
theorem dL_law_917 : decode cL_law 917 = .ok (.istore 19, 2) := by decide +kernel
theorem dL_law_919 : decode cL_law 919 = .ok (.aload_n 1, 1) := by decide +kernel
theorem dL_law_920 : decode cL_law 920 = .ok (.iload 17, 2) := by decide +kernel
theorem dL_law_922 : decode cL_law 922 = .ok (.iconst 0, 1) := by decide +kernel
theorem dL_law_923 : decode cL_law 923 = .ok (.invokevirtual 129, 3) := by decide +kernel
theorem dL_law_926 : decode cL_law 926 = .ok (.aload 9, 2) := by decide +kernel
theorem dL_law_928 : decode cL_law 928 = .ok (.iload 17, 2) := by decide +kernel
theorem dL_law_930 : decode cL_law 930 = .ok (.aaload, 1) := by decide +kernel
theorem dL_law_931 : decode cL_law 931 = .ok (.iconst 0, 1) := by decide +kernel
theorem dL_law_932 : decode cL_law 932 = .ok (.iaload, 1) := by decide +kernel
theorem dL_law_933 : decode cL_law 933 = .ok (.if_icmp .ne 78, 3) := by decide +kernel
theorem dL_law_936 : decode cL_law 936 = .ok (.aload_n 1, 1) := by decide +kernel
theorem dL_law_937 : decode cL_law 937 = .ok (.iload 17, 2) := by decide +kernel
theorem dL_law_939 : decode cL_law 939 = .ok (.iconst 1, 1) := by decide +kernel
theorem dL_law_940 : decode cL_law 940 = .ok (.invokevirtual 129, 3) := by decide +kernel
theorem dL_law_943 : decode cL_law 943 = .ok (.aload 9, 2) := by decide +kernel
theorem dL_law_945 : decode cL_law 945 = .ok (.iload 17, 2) := by decide +kernel
theorem dL_law_947 : decode cL_law 947 = .ok (.aaload, 1) := by decide +kernel
theorem dL_law_948 : decode cL_law 948 = .ok (.iconst 1, 1) := by decide +kernel
theorem dL_law_949 : decode cL_law 949 = .ok (.iaload, 1) := by decide +kernel
theorem dL_law_950 : decode cL_law 950 = .ok (.if_icmp .ne 61, 3) := by decide +kernel
theorem dL_law_953 : decode cL_law 953 = .ok (.iload 18, 2) := by decide +kernel
theorem dL_law_955 : decode cL_law 955 = .ok (.iconst 2, 1) := by decide +kernel
theorem dL_law_956 : decode cL_law 956 = .ok (.if_icmp .ne 7, 3) := by decide +kernel
theorem dL_law_959 : decode cL_law 959 = .ok (.iconst 1, 1) := by decide +kernel
theorem dL_law_960 : decode cL_law 960 = .ok (.goto 4, 3) := by decide +kernel
theorem dL_law_963 : decode cL_law 963 = .ok (.iconst 0, 1) := by decide +kernel
theorem dL_law_964 : decode cL_law 964 = .ok (.aload_n 1, 1) := by decide +kernel
theorem dL_law_965 : decode cL_law 965 = .ok (.iload 17, 2) := by decide +kernel
theorem dL_law_967 : decode cL_law 967 = .ok (.iconst 4, 1) := by decide +kernel
theorem dL_law_968 : decode cL_law 968 = .ok (.invokevirtual 129, 3) := by decide +kernel
theorem dL_law_971 : decode cL_law 971 = .ok (.ifCond .lt 7, 3) := by decide +kernel
theorem dL_law_974 : decode cL_law 974 = .ok (.iconst 1, 1) := by decide +kernel
theorem dL_law_975 : decode cL_law 975 = .ok (.goto 4, 3) := by decide +kernel
theorem dL_law_978 : decode cL_law 978 = .ok (.iconst 0, 1) := by decide +kernel
theorem dL_law_979 : decode cL_law 979 = .ok (.if_icmp .ne 32, 3) := by decide +kernel
theorem dL_law_982 : decode cL_law 982 = .ok (.iload 18, 2) := by decide +kernel
theorem dL_law_984 : decode cL_law 984 = .ok (.iconst 3, 1) := by decide +kernel
theorem dL_law_985 : decode cL_law 985 = .ok (.if_icmp .ne 7, 3) := by decide +kernel
theorem dL_law_988 : decode cL_law 988 = .ok (.iconst 1, 1) := by decide +kernel
theorem dL_law_989 : decode cL_law 989 = .ok (.goto 4, 3) := by decide +kernel
theorem dL_law_992 : decode cL_law 992 = .ok (.iconst 0, 1) := by decide +kernel
theorem dL_law_993 : decode cL_law 993 = .ok (.aload_n 1, 1) := by decide +kernel
theorem dL_law_994 : decode cL_law 994 = .ok (.iload 17, 2) := by decide +kernel
theorem dL_law_996 : decode cL_law 996 = .ok (.iconst 3, 1) := by decide +kernel
theorem dL_law_997 : decode cL_law 997 = .ok (.invokevirtual 129, 3) := by decide +kernel
theorem dL_law_1000 : decode cL_law 1000 = .ok (.ifCond .ge 7, 3) := by decide +kernel
theorem dL_law_1003 : decode cL_law 1003 = .ok (.iconst 1, 1) := by decide +kernel
theorem dL_law_1004 : decode cL_law 1004 = .ok (.goto 4, 3) := by decide +kernel
theorem dL_law_1007 : decode cL_law 1007 = .ok (.iconst 0, 1) := by decide +kernel
theorem dL_law_1008 : decode cL_law 1008 = .ok (.if_icmp .eq 5, 3) := by decide +kernel
theorem dL_law_1011 : decode cL_law 1011 = .ok (.iconst 0, 1) := by decide +kernel
theorem dL_law_1012 : decode cL_law 1012 = .ok (.ireturn, 1) := by decide +kernel
theorem dL_law_1013 : decode cL_law 1013 = .ok (.aload 9, 2) := by decide +kernel
theorem dL_law_1015 : decode cL_law 1015 = .ok (.iload 17, 2) := by decide +kernel
theorem dL_law_1017 : decode cL_law 1017 = .ok (.aaload, 1) := by decide +kernel
theorem dL_law_1018 : decode cL_law 1018 = .ok (.iconst 2, 1) := by decide +kernel
theorem dL_law_1019 : decode cL_law 1019 = .ok (.iaload, 1) := by decide +kernel
theorem dL_law_1020 : decode cL_law 1020 = .ok (.iconst 1, 1) := by decide +kernel
theorem dL_law_1021 : decode cL_law 1021 = .ok (.if_icmp .eq 29, 3) := by decide +kernel
theorem dL_law_1024 : decode cL_law 1024 = .ok (.iload 18, 2) := by decide +kernel
theorem dL_law_1026 : decode cL_law 1026 = .ok (.aload 9, 2) := by decide +kernel
theorem dL_law_1028 : decode cL_law 1028 = .ok (.iload 17, 2) := by decide +kernel
theorem dL_law_1030 : decode cL_law 1030 = .ok (.aaload, 1) := by decide +kernel
theorem dL_law_1031 : decode cL_law 1031 = .ok (.iconst 2, 1) := by decide +kernel
theorem dL_law_1032 : decode cL_law 1032 = .ok (.iaload, 1) := by decide +kernel
theorem dL_law_1033 : decode cL_law 1033 = .ok (.if_icmp .ne 15, 3) := by decide +kernel
theorem dL_law_1036 : decode cL_law 1036 = .ok (.aload_n 1, 1) := by decide +kernel
theorem dL_law_1037 : decode cL_law 1037 = .ok (.iload 17, 2) := by decide +kernel
theorem dL_law_1039 : decode cL_law 1039 = .ok (.iconst 3, 1) := by decide +kernel
theorem dL_law_1040 : decode cL_law 1040 = .ok (.invokevirtual 129, 3) := by decide +kernel
theorem dL_law_1043 : decode cL_law 1043 = .ok (.iload 19, 2) := by decide +kernel
theorem dL_law_1045 : decode cL_law 1045 = .ok (.if_icmp .eq 149, 3) := by decide +kernel
theorem dL_law_1048 : decode cL_law 1048 = .ok (.iconst 0, 1) := by decide +kernel
theorem dL_law_1049 : decode cL_law 1049 = .ok (.ireturn, 1) := by decide +kernel
theorem dL_law_1050 : decode cL_law 1050 = .ok (.aload_n 1, 1) := by decide +kernel
theorem dL_law_1051 : decode cL_law 1051 = .ok (.iload 19, 2) := by decide +kernel
theorem dL_law_1053 : decode cL_law 1053 = .ok (.iconst 3, 1) := by decide +kernel
theorem dL_law_1054 : decode cL_law 1054 = .ok (.invokevirtual 126, 3) := by decide +kernel
theorem dL_law_1057 : decode cL_law 1057 = .ok (.istore 20, 2) := by decide +kernel
theorem dL_law_1059 : decode cL_law 1059 = .ok (.iload 20, 2) := by decide +kernel
theorem dL_law_1061 : decode cL_law 1061 = .ok (.ifCond .ne 18, 3) := by decide +kernel
theorem dL_law_1064 : decode cL_law 1064 = .ok (.aload 8, 2) := by decide +kernel
theorem dL_law_1066 : decode cL_law 1066 = .ok (.iload 19, 2) := by decide +kernel
theorem dL_law_1068 : decode cL_law 1068 = .ok (.aaload, 1) := by decide +kernel
theorem dL_law_1069 : decode cL_law 1069 = .ok (.iconst 3, 1) := by decide +kernel
theorem dL_law_1070 : decode cL_law 1070 = .ok (.iaload, 1) := by decide +kernel
theorem dL_law_1071 : decode cL_law 1071 = .ok (.iconst 1, 1) := by decide +kernel
theorem dL_law_1072 : decode cL_law 1072 = .ok (.if_icmp .ne 7, 3) := by decide +kernel
theorem dL_law_1075 : decode cL_law 1075 = .ok (.iconst 1, 1) := by decide +kernel
theorem dL_law_1076 : decode cL_law 1076 = .ok (.goto 4, 3) := by decide +kernel
theorem dL_law_1079 : decode cL_law 1079 = .ok (.iconst 0, 1) := by decide +kernel
theorem dL_law_1080 : decode cL_law 1080 = .ok (.istore 21, 2) := by decide +kernel
theorem dL_law_1082 : decode cL_law 1082 = .ok (.iload 21, 2) := by decide +kernel
theorem dL_law_1084 : decode cL_law 1084 = .ok (.ifCond .eq 13, 3) := by decide +kernel
theorem dL_law_1087 : decode cL_law 1087 = .ok (.aload_n 1, 1) := by decide +kernel
theorem dL_law_1088 : decode cL_law 1088 = .ok (.iload 19, 2) := by decide +kernel
theorem dL_law_1090 : decode cL_law 1090 = .ok (.iconst 5, 1) := by decide +kernel
theorem dL_law_1091 : decode cL_law 1091 = .ok (.invokevirtual 126, 3) := by decide +kernel
theorem dL_law_1094 : decode cL_law 1094 = .ok (.goto 4, 3) := by decide +kernel
theorem dL_law_1097 : decode cL_law 1097 = .ok (.iconst (-1), 1) := by decide +kernel
theorem dL_law_1098 : decode cL_law 1098 = .ok (.istore 22, 2) := by decide +kernel
theorem dL_law_1100 : decode cL_law 1100 = .ok (.iload 18, 2) := by decide +kernel
theorem dL_law_1102 : decode cL_law 1102 = .ok (.iload 20, 2) := by decide +kernel
theorem dL_law_1104 : decode cL_law 1104 = .ok (.iconst 2, 1) := by decide +kernel
theorem dL_law_1105 : decode cL_law 1105 = .ok (.if_icmp .ne 7, 3) := by decide +kernel
theorem dL_law_1108 : decode cL_law 1108 = .ok (.iconst 3, 1) := by decide +kernel
theorem dL_law_1109 : decode cL_law 1109 = .ok (.goto 29, 3) := by decide +kernel
theorem dL_law_1112 : decode cL_law 1112 = .ok (.iload 21, 2) := by decide +kernel
theorem dL_law_1114 : decode cL_law 1114 = .ok (.ifCond .eq 23, 3) := by decide +kernel
theorem dL_law_1117 : decode cL_law 1117 = .ok (.iload 22, 2) := by decide +kernel
theorem dL_law_1119 : decode cL_law 1119 = .ok (.aload 9, 2) := by decide +kernel
theorem dL_law_1121 : decode cL_law 1121 = .ok (.iload 17, 2) := by decide +kernel
theorem dL_law_1123 : decode cL_law 1123 = .ok (.aaload, 1) := by decide +kernel
theorem dL_law_1124 : decode cL_law 1124 = .ok (.iconst 1, 1) := by decide +kernel
theorem dL_law_1125 : decode cL_law 1125 = .ok (.iaload, 1) := by decide +kernel
theorem dL_law_1126 : decode cL_law 1126 = .ok (.if_icmp .ne 7, 3) := by decide +kernel
theorem dL_law_1129 : decode cL_law 1129 = .ok (.iconst 2, 1) := by decide +kernel
theorem dL_law_1130 : decode cL_law 1130 = .ok (.goto 8, 3) := by decide +kernel
theorem dL_law_1133 : decode cL_law 1133 = .ok (.iconst 0, 1) := by decide +kernel
theorem dL_law_1134 : decode cL_law 1134 = .ok (.goto 4, 3) := by decide +kernel
theorem dL_law_1137 : decode cL_law 1137 = .ok (.iconst 1, 1) := by decide +kernel
theorem dL_law_1138 : decode cL_law 1138 = .ok (.if_icmp .ne 38, 3) := by decide +kernel
theorem dL_law_1141 : decode cL_law 1141 = .ok (.iload 21, 2) := by decide +kernel
theorem dL_law_1143 : decode cL_law 1143 = .ok (.ifCond .eq 15, 3) := by decide +kernel
theorem dL_law_1146 : decode cL_law 1146 = .ok (.aload_n 1, 1) := by decide +kernel
theorem dL_law_1147 : decode cL_law 1147 = .ok (.iload 17, 2) := by decide +kernel
theorem dL_law_1149 : decode cL_law 1149 = .ok (.iconst 3, 1) := by decide +kernel
theorem dL_law_1150 : decode cL_law 1150 = .ok (.invokevirtual 129, 3) := by decide +kernel
theorem dL_law_1153 : decode cL_law 1153 = .ok (.iload 22, 2) := by decide +kernel
theorem dL_law_1155 : decode cL_law 1155 = .ok (.if_icmp .ne 21, 3) := by decide +kernel
theorem dL_law_1158 : decode cL_law 1158 = .ok (.iload 18, 2) := by decide +kernel
theorem dL_law_1160 : decode cL_law 1160 = .ok (.iconst 2, 1) := by decide +kernel
theorem dL_law_1161 : decode cL_law 1161 = .ok (.if_icmp .ne 17, 3) := by decide +kernel
theorem dL_law_1164 : decode cL_law 1164 = .ok (.aload_n 1, 1) := by decide +kernel
theorem dL_law_1165 : decode cL_law 1165 = .ok (.iload 17, 2) := by decide +kernel
theorem dL_law_1167 : decode cL_law 1167 = .ok (.iconst 4, 1) := by decide +kernel
theorem dL_law_1168 : decode cL_law 1168 = .ok (.invokevirtual 129, 3) := by decide +kernel
theorem dL_law_1171 : decode cL_law 1171 = .ok (.iload 5, 2) := by decide +kernel
theorem dL_law_1173 : decode cL_law 1173 = .ok (.if_icmp .eq 5, 3) := by decide +kernel
theorem dL_law_1176 : decode cL_law 1176 = .ok (.iconst 0, 1) := by decide +kernel
theorem dL_law_1177 : decode cL_law 1177 = .ok (.ireturn, 1) := by decide +kernel
theorem dL_law_1178 : decode cL_law 1178 = .ok (.iload 16, 2) := by decide +kernel
theorem dL_law_1180 : decode cL_law 1180 = .ok (.iload 18, 2) := by decide +kernel
theorem dL_law_1182 : decode cL_law 1182 = .ok (.iconst 2, 1) := by decide +kernel
theorem dL_law_1183 : decode cL_law 1183 = .ok (.if_icmp .ne 7, 3) := by decide +kernel
theorem dL_law_1186 : decode cL_law 1186 = .ok (.iconst 1, 1) := by decide +kernel
theorem dL_law_1187 : decode cL_law 1187 = .ok (.goto 4, 3) := by decide +kernel
theorem dL_law_1190 : decode cL_law 1190 = .ok (.iconst 0, 1) := by decide +kernel
theorem dL_law_1191 : decode cL_law 1191 = .ok (.iadd, 1) := by decide +kernel
theorem dL_law_1192 : decode cL_law 1192 = .ok (.istore 16, 2) := by decide +kernel
theorem dL_law_1194 : decode cL_law 1194 = .ok (.iinc 17 1, 3) := by decide +kernel
theorem dL_law_1197 : decode cL_law 1197 = .ok (.goto (-303), 3) := by decide +kernel
theorem dL_law_1200 : decode cL_law 1200 = .ok (.iload 16, 2) := by decide +kernel
theorem dL_law_1202 : decode cL_law 1202 = .ok (.iload 12, 2) := by decide +kernel
theorem dL_law_1204 : decode cL_law 1204 = .ok (.if_icmp .eq 5, 3) := by decide +kernel
theorem dL_law_1207 : decode cL_law 1207 = .ok (.iconst 0, 1) := by decide +kernel
theorem dL_law_1208 : decode cL_law 1208 = .ok (.ireturn, 1) := by decide +kernel
theorem dL_law_1209 : decode cL_law 1209 = .ok (.iconst 0, 1) := by decide +kernel
theorem dL_law_1210 : decode cL_law 1210 = .ok (.istore 17, 2) := by decide +kernel
theorem dL_law_1212 : decode cL_law 1212 = .ok (.iconst 0, 1) := by decide +kernel
theorem dL_law_1213 : decode cL_law 1213 = .ok (.istore 18, 2) := by decide +kernel
theorem dL_law_1215 : decode cL_law 1215 = .ok (.iload 18, 2) := by decide +kernel
theorem dL_law_1217 : decode cL_law 1217 = .ok (.sipush 160, 3) := by decide +kernel
theorem dL_law_1220 : decode cL_law 1220 = .ok (.if_icmp .ge 420, 3) := by decide +kernel
theorem dL_law_1223 : decode cL_law 1223 = .ok (.aload_n 1, 1) := by decide +kernel
theorem dL_law_1224 : decode cL_law 1224 = .ok (.iload 18, 2) := by decide +kernel
theorem dL_law_1226 : decode cL_law 1226 = .ok (.bipush 16, 2) := by decide +kernel
theorem dL_law_1228 : decode cL_law 1228 = .ok (.irem, 1) := by decide +kernel
theorem dL_law_1229 : decode cL_law 1229 = .ok (.iload 18, 2) := by decide +kernel
theorem dL_law_1231 : decode cL_law 1231 = .ok (.bipush 16, 2) := by decide +kernel
theorem dL_law_1233 : decode cL_law 1233 = .ok (.idiv, 1) := by decide +kernel
theorem dL_law_1234 : decode cL_law 1234 = .ok (.iconst 0, 1) := by decide +kernel
theorem dL_law_1235 : decode cL_law 1235 = .ok (.invokevirtual 124, 3) := by decide +kernel
theorem dL_law_1238 : decode cL_law 1238 = .ok (.istore 19, 2) := by decide +kernel
theorem dL_law_1240 : decode cL_law 1240 = .ok (.aload_n 1, 1) := by decide +kernel
theorem dL_law_1241 : decode cL_law 1241 = .ok (.iload 18, 2) := by decide +kernel
theorem dL_law_1243 : decode cL_law 1243 = .ok (.bipush 16, 2) := by decide +kernel
theorem dL_law_1245 : decode cL_law 1245 = .ok (.irem, 1) := by decide +kernel
theorem dL_law_1246 : decode cL_law 1246 = .ok (.iload 18, 2) := by decide +kernel
theorem dL_law_1248 : decode cL_law 1248 = .ok (.bipush 16, 2) := by decide +kernel
theorem dL_law_1250 : decode cL_law 1250 = .ok (.idiv, 1) := by decide +kernel
theorem dL_law_1251 : decode cL_law 1251 = .ok (.iconst 2, 1) := by decide +kernel
theorem dL_law_1252 : decode cL_law 1252 = .ok (.invokevirtual 124, 3) := by decide +kernel
theorem dL_law_1255 : decode cL_law 1255 = .ok (.istore 20, 2) := by decide +kernel
theorem dL_law_1257 : decode cL_law 1257 = .ok (.aload_n 1, 1) := by decide +kernel
theorem dL_law_1258 : decode cL_law 1258 = .ok (.iload 18, 2) := by decide +kernel
theorem dL_law_1260 : decode cL_law 1260 = .ok (.bipush 16, 2) := by decide +kernel
theorem dL_law_1262 : decode cL_law 1262 = .ok (.irem, 1) := by decide +kernel
theorem dL_law_1263 : decode cL_law 1263 = .ok (.iload 18, 2) := by decide +kernel
theorem dL_law_1265 : decode cL_law 1265 = .ok (.bipush 16, 2) := by decide +kernel
theorem dL_law_1267 : decode cL_law 1267 = .ok (.idiv, 1) := by decide +kernel
theorem dL_law_1268 : decode cL_law 1268 = .ok (.iconst 3, 1) := by decide +kernel
theorem dL_law_1269 : decode cL_law 1269 = .ok (.invokevirtual 124, 3) := by decide +kernel
theorem dL_law_1272 : decode cL_law 1272 = .ok (.istore 21, 2) := by decide +kernel
theorem dL_law_1274 : decode cL_law 1274 = .ok (.aload_n 1, 1) := by decide +kernel
theorem dL_law_1275 : decode cL_law 1275 = .ok (.iload 18, 2) := by decide +kernel
theorem dL_law_1277 : decode cL_law 1277 = .ok (.bipush 16, 2) := by decide +kernel
theorem dL_law_1279 : decode cL_law 1279 = .ok (.irem, 1) := by decide +kernel
theorem dL_law_1280 : decode cL_law 1280 = .ok (.iload 18, 2) := by decide +kernel
theorem dL_law_1282 : decode cL_law 1282 = .ok (.bipush 16, 2) := by decide +kernel
theorem dL_law_1284 : decode cL_law 1284 = .ok (.idiv, 1) := by decide +kernel
theorem dL_law_1285 : decode cL_law 1285 = .ok (.iconst 1, 1) := by decide +kernel
theorem dL_law_1286 : decode cL_law 1286 = .ok (.invokevirtual 124, 3) := by decide +kernel
theorem dL_law_1289 : decode cL_law 1289 = .ok (.aload 7, 2) := by decide +kernel
theorem dL_law_1291 : decode cL_law 1291 = .ok (.iload 18, 2) := by decide +kernel
theorem dL_law_1293 : decode cL_law 1293 = .ok (.aaload, 1) := by decide +kernel
theorem dL_law_1294 : decode cL_law 1294 = .ok (.iconst 1, 1) := by decide +kernel
theorem dL_law_1295 : decode cL_law 1295 = .ok (.iaload, 1) := by decide +kernel
theorem dL_law_1296 : decode cL_law 1296 = .ok (.if_icmp .ne 58, 3) := by decide +kernel
theorem dL_law_1299 : decode cL_law 1299 = .ok (.iload 19, 2) := by decide +kernel
theorem dL_law_1301 : decode cL_law 1301 = .ok (.sipush 200, 3) := by decide +kernel
theorem dL_law_1304 : decode cL_law 1304 = .ok (.if_icmp .gt 50, 3) := by decide +kernel
theorem dL_law_1307 : decode cL_law 1307 = .ok (.iload 19, 2) := by decide +kernel
theorem dL_law_1309 : decode cL_law 1309 = .ok (.iconst (-1), 1) := by decide +kernel
theorem dL_law_1310 : decode cL_law 1310 = .ok (.if_icmp .lt 44, 3) := by decide +kernel
theorem dL_law_1313 : decode cL_law 1313 = .ok (.iload 19, 2) := by decide +kernel
theorem dL_law_1315 : decode cL_law 1315 = .ok (.ifCond .ge 7, 3) := by decide +kernel
theorem dL_law_1318 : decode cL_law 1318 = .ok (.iconst 1, 1) := by decide +kernel
theorem dL_law_1319 : decode cL_law 1319 = .ok (.goto 4, 3) := by decide +kernel
theorem dL_law_1322 : decode cL_law 1322 = .ok (.iconst 0, 1) := by decide +kernel
theorem dL_law_1323 : decode cL_law 1323 = .ok (.aload 7, 2) := by decide +kernel
theorem dL_law_1325 : decode cL_law 1325 = .ok (.iload 18, 2) := by decide +kernel
theorem dL_law_1327 : decode cL_law 1327 = .ok (.aaload, 1) := by decide +kernel
theorem dL_law_1328 : decode cL_law 1328 = .ok (.iconst 0, 1) := by decide +kernel
theorem dL_law_1329 : decode cL_law 1329 = .ok (.iaload, 1) := by decide +kernel
theorem dL_law_1330 : decode cL_law 1330 = .ok (.ifCond .ge 7, 3) := by decide +kernel
theorem dL_law_1333 : decode cL_law 1333 = .ok (.iconst 1, 1) := by decide +kernel
theorem dL_law_1334 : decode cL_law 1334 = .ok (.goto 4, 3) := by decide +kernel
theorem dL_law_1337 : decode cL_law 1337 = .ok (.iconst 0, 1) := by decide +kernel
theorem dL_law_1338 : decode cL_law 1338 = .ok (.if_icmp .ne 16, 3) := by decide +kernel
theorem dL_law_1341 : decode cL_law 1341 = .ok (.iload 19, 2) := by decide +kernel
theorem dL_law_1343 : decode cL_law 1343 = .ok (.ifCond .ge 13, 3) := by decide +kernel
theorem dL_law_1346 : decode cL_law 1346 = .ok (.iload 20, 2) := by decide +kernel
theorem dL_law_1348 : decode cL_law 1348 = .ok (.iload 21, 2) := by decide +kernel
theorem dL_law_1350 : decode cL_law 1350 = .ok (.iadd, 1) := by decide +kernel
theorem dL_law_1351 : decode cL_law 1351 = .ok (.ifCond .le 5, 3) := by decide +kernel
theorem dL_law_1354 : decode cL_law 1354 = .ok (.iconst 0, 1) := by decide +kernel
theorem dL_law_1355 : decode cL_law 1355 = .ok (.ireturn, 1) := by decide +kernel
theorem dL_law_1356 : decode cL_law 1356 = .ok (.aload 7, 2) := by decide +kernel
theorem dL_law_1358 : decode cL_law 1358 = .ok (.iload 18, 2) := by decide +kernel
theorem dL_law_1360 : decode cL_law 1360 = .ok (.aaload, 1) := by decide +kernel
theorem dL_law_1361 : decode cL_law 1361 = .ok (.iconst 0, 1) := by decide +kernel
theorem dL_law_1362 : decode cL_law 1362 = .ok (.iaload, 1) := by decide +kernel
theorem dL_law_1363 : decode cL_law 1363 = .ok (.ifCond .lt 8, 3) := by decide +kernel
theorem dL_law_1366 : decode cL_law 1366 = .ok (.iload 14, 2) := by decide +kernel
theorem dL_law_1368 : decode cL_law 1368 = .ok (.ifCond .ne 13, 3) := by decide +kernel
theorem dL_law_1371 : decode cL_law 1371 = .ok (.aload 7, 2) := by decide +kernel
theorem dL_law_1373 : decode cL_law 1373 = .ok (.iload 18, 2) := by decide +kernel
theorem dL_law_1375 : decode cL_law 1375 = .ok (.aaload, 1) := by decide +kernel
theorem dL_law_1376 : decode cL_law 1376 = .ok (.iconst 0, 1) := by decide +kernel
theorem dL_law_1377 : decode cL_law 1377 = .ok (.iaload, 1) := by decide +kernel
theorem dL_law_1378 : decode cL_law 1378 = .ok (.goto 60, 3) := by decide +kernel
theorem dL_law_1381 : decode cL_law 1381 = .ok (.iload 13, 2) := by decide +kernel
theorem dL_law_1383 : decode cL_law 1383 = .ok (.ifCond .le 39, 3) := by decide +kernel
theorem dL_law_1386 : decode cL_law 1386 = .ok (.sipush 200, 3) := by decide +kernel
theorem dL_law_1389 : decode cL_law 1389 = .ok (.aload 7, 2) := by decide +kernel
theorem dL_law_1391 : decode cL_law 1391 = .ok (.iload 18, 2) := by decide +kernel
theorem dL_law_1393 : decode cL_law 1393 = .ok (.aaload, 1) := by decide +kernel
theorem dL_law_1394 : decode cL_law 1394 = .ok (.iconst 0, 1) := by decide +kernel
theorem dL_law_1395 : decode cL_law 1395 = .ok (.iaload, 1) := by decide +kernel
theorem dL_law_1396 : decode cL_law 1396 = .ok (.bipush 12, 2) := by decide +kernel
theorem dL_law_1398 : decode cL_law 1398 = .ok (.iload 13, 2) := by decide +kernel
theorem dL_law_1400 : decode cL_law 1400 = .ok (.imul, 1) := by decide +kernel
theorem dL_law_1401 : decode cL_law 1401 = .ok (.bipush 6, 2) := by decide +kernel
theorem dL_law_1403 : decode cL_law 1403 = .ok (.aload 7, 2) := by decide +kernel
theorem dL_law_1405 : decode cL_law 1405 = .ok (.iload 18, 2) := by decide +kernel
theorem dL_law_1407 : decode cL_law 1407 = .ok (.aaload, 1) := by decide +kernel
theorem dL_law_1408 : decode cL_law 1408 = .ok (.iconst 0, 1) := by decide +kernel
theorem dL_law_1409 : decode cL_law 1409 = .ok (.iaload, 1) := by decide +kernel
theorem dL_law_1410 : decode cL_law 1410 = .ok (.bipush 10, 2) := by decide +kernel
theorem dL_law_1412 : decode cL_law 1412 = .ok (.idiv, 1) := by decide +kernel
theorem dL_law_1413 : decode cL_law 1413 = .ok (.iadd, 1) := by decide +kernel
theorem dL_law_1414 : decode cL_law 1414 = .ok (.idiv, 1) := by decide +kernel
theorem dL_law_1415 : decode cL_law 1415 = .ok (.iadd, 1) := by decide +kernel
theorem dL_law_1416 : decode cL_law 1416 = .ok (.invokestatic 46, 3) := by decide +kernel
theorem dL_law_1419 : decode cL_law 1419 = .ok (.goto 19, 3) := by decide +kernel
theorem dL_law_1422 : decode cL_law 1422 = .ok (.iconst 0, 1) := by decide +kernel
theorem dL_law_1423 : decode cL_law 1423 = .ok (.aload 7, 2) := by decide +kernel
theorem dL_law_1425 : decode cL_law 1425 = .ok (.iload 18, 2) := by decide +kernel
theorem dL_law_1427 : decode cL_law 1427 = .ok (.aaload, 1) := by decide +kernel
theorem dL_law_1428 : decode cL_law 1428 = .ok (.iconst 0, 1) := by decide +kernel
theorem dL_law_1429 : decode cL_law 1429 = .ok (.iaload, 1) := by decide +kernel
theorem dL_law_1430 : decode cL_law 1430 = .ok (.iconst 3, 1) := by decide +kernel
theorem dL_law_1431 : decode cL_law 1431 = .ok (.iload 13, 2) := by decide +kernel
theorem dL_law_1433 : decode cL_law 1433 = .ok (.imul, 1) := by decide +kernel
theorem dL_law_1434 : decode cL_law 1434 = .ok (.iadd, 1) := by decide +kernel
theorem dL_law_1435 : decode cL_law 1435 = .ok (.invokestatic 143, 3) := by decide +kernel
theorem dL_law_1438 : decode cL_law 1438 = .ok (.istore 22, 2) := by decide +kernel
theorem dL_law_1440 : decode cL_law 1440 = .ok (.iload 14, 2) := by decide +kernel
theorem dL_law_1442 : decode cL_law 1442 = .ok (.ifCond .eq 24, 3) := by decide +kernel
theorem dL_law_1445 : decode cL_law 1445 = .ok (.iload 13, 2) := by decide +kernel
theorem dL_law_1447 : decode cL_law 1447 = .ok (.ifCond .le 19, 3) := by decide +kernel
theorem dL_law_1450 : decode cL_law 1450 = .ok (.iconst 0, 1) := by decide +kernel
theorem dL_law_1451 : decode cL_law 1451 = .ok (.aload 7, 2) := by decide +kernel
theorem dL_law_1453 : decode cL_law 1453 = .ok (.iload 18, 2) := by decide +kernel
theorem dL_law_1455 : decode cL_law 1455 = .ok (.aaload, 1) := by decide +kernel
theorem dL_law_1456 : decode cL_law 1456 = .ok (.iconst 2, 1) := by decide +kernel
theorem dL_law_1457 : decode cL_law 1457 = .ok (.iaload, 1) := by decide +kernel
theorem dL_law_1458 : decode cL_law 1458 = .ok (.iconst 2, 1) := by decide +kernel
theorem dL_law_1459 : decode cL_law 1459 = .ok (.isub, 1) := by decide +kernel
theorem dL_law_1460 : decode cL_law 1460 = .ok (.invokestatic 143, 3) := by decide +kernel
theorem dL_law_1463 : decode cL_law 1463 = .ok (.goto 10, 3) := by decide +kernel
theorem dL_law_1466 : decode cL_law 1466 = .ok (.aload 7, 2) := by decide +kernel
theorem dL_law_1468 : decode cL_law 1468 = .ok (.iload 18, 2) := by decide +kernel
theorem dL_law_1470 : decode cL_law 1470 = .ok (.aaload, 1) := by decide +kernel
theorem dL_law_1471 : decode cL_law 1471 = .ok (.iconst 2, 1) := by decide +kernel
theorem dL_law_1472 : decode cL_law 1472 = .ok (.iaload, 1) := by decide +kernel
theorem dL_law_1473 : decode cL_law 1473 = .ok (.istore 23, 2) := by decide +kernel
theorem dL_law_1475 : decode cL_law 1475 = .ok (.iload 19, 2) := by decide +kernel
theorem dL_law_1477 : decode cL_law 1477 = .ok (.iload 22, 2) := by decide +kernel
theorem dL_law_1479 : decode cL_law 1479 = .ok (.if_icmp .ne 40, 3) := by decide +kernel
theorem dL_law_1482 : decode cL_law 1482 = .ok (.iload 20, 2) := by decide +kernel
theorem dL_law_1484 : decode cL_law 1484 = .ok (.iload 23, 2) := by decide +kernel
theorem dL_law_1486 : decode cL_law 1486 = .ok (.if_icmp .lt 33, 3) := by decide +kernel
theorem dL_law_1489 : decode cL_law 1489 = .ok (.iload 20, 2) := by decide +kernel
theorem dL_law_1491 : decode cL_law 1491 = .ok (.bipush 9, 2) := by decide +kernel
theorem dL_law_1493 : decode cL_law 1493 = .ok (.iload 23, 2) := by decide +kernel
theorem dL_law_1495 : decode cL_law 1495 = .ok (.aload 15, 2) := by decide +kernel
theorem dL_law_1497 : decode cL_law 1497 = .ok (.iload 18, 2) := by decide +kernel
theorem dL_law_1499 : decode cL_law 1499 = .ok (.iaload, 1) := by decide +kernel
theorem dL_law_1500 : decode cL_law 1500 = .ok (.iadd, 1) := by decide +kernel
theorem dL_law_1501 : decode cL_law 1501 = .ok (.invokestatic 46, 3) := by decide +kernel
theorem dL_law_1504 : decode cL_law 1504 = .ok (.if_icmp .gt 15, 3) := by decide +kernel
theorem dL_law_1507 : decode cL_law 1507 = .ok (.iload 21, 2) := by decide +kernel
theorem dL_law_1509 : decode cL_law 1509 = .ok (.aload 7, 2) := by decide +kernel
theorem dL_law_1511 : decode cL_law 1511 = .ok (.iload 18, 2) := by decide +kernel
theorem dL_law_1513 : decode cL_law 1513 = .ok (.aaload, 1) := by decide +kernel
theorem dL_law_1514 : decode cL_law 1514 = .ok (.iconst 3, 1) := by decide +kernel
theorem dL_law_1515 : decode cL_law 1515 = .ok (.iaload, 1) := by decide +kernel
theorem dL_law_1516 : decode cL_law 1516 = .ok (.if_icmp .ge 5, 3) := by decide +kernel
theorem dL_law_1519 : decode cL_law 1519 = .ok (.iconst 0, 1) := by decide +kernel
theorem dL_law_1520 : decode cL_law 1520 = .ok (.ireturn, 1) := by decide +kernel
theorem dL_law_1521 : decode cL_law 1521 = .ok (.iconst 0, 1) := by decide +kernel
theorem dL_law_1522 : decode cL_law 1522 = .ok (.istore 24, 2) := by decide +kernel
theorem dL_law_1524 : decode cL_law 1524 = .ok (.iconst 0, 1) := by decide +kernel
theorem dL_law_1525 : decode cL_law 1525 = .ok (.istore 25, 2) := by decide +kernel
theorem dL_law_1527 : decode cL_law 1527 = .ok (.iload 25, 2) := by decide +kernel
theorem dL_law_1529 : decode cL_law 1529 = .ok (.sipush 160, 3) := by decide +kernel
theorem dL_law_1532 : decode cL_law 1532 = .ok (.if_icmp .ge 42, 3) := by decide +kernel
theorem dL_law_1535 : decode cL_law 1535 = .ok (.iload 24, 2) := by decide +kernel
theorem dL_law_1537 : decode cL_law 1537 = .ok (.ifCond .ne 24, 3) := by decide +kernel
theorem dL_law_1540 : decode cL_law 1540 = .ok (.aload 7, 2) := by decide +kernel
theorem dL_law_1542 : decode cL_law 1542 = .ok (.iload 25, 2) := by decide +kernel
theorem dL_law_1544 : decode cL_law 1544 = .ok (.aaload, 1) := by decide +kernel
theorem dL_law_1545 : decode cL_law 1545 = .ok (.iconst 3, 1) := by decide +kernel
theorem dL_law_1546 : decode cL_law 1546 = .ok (.iaload, 1) := by decide +kernel
theorem dL_law_1547 : decode cL_law 1547 = .ok (.iconst 1, 1) := by decide +kernel
theorem dL_law_1548 : decode cL_law 1548 = .ok (.if_icmp .ne 17, 3) := by decide +kernel
theorem dL_law_1551 : decode cL_law 1551 = .ok (.iload 18, 2) := by decide +kernel
theorem dL_law_1553 : decode cL_law 1553 = .ok (.iload 25, 2) := by decide +kernel
theorem dL_law_1555 : decode cL_law 1555 = .ok (.invokestatic 146, 3) := by decide +kernel
theorem dL_law_1558 : decode cL_law 1558 = .ok (.ifCond .eq 7, 3) := by decide +kernel
theorem dL_law_1561 : decode cL_law 1561 = .ok (.iconst 1, 1) := by decide +kernel
theorem dL_law_1562 : decode cL_law 1562 = .ok (.goto 4, 3) := by decide +kernel
theorem dL_law_1565 : decode cL_law 1565 = .ok (.iconst 0, 1) := by decide +kernel
theorem dL_law_1566 : decode cL_law 1566 = .ok (.istore 24, 2) := by decide +kernel
theorem dL_law_1568 : decode cL_law 1568 = .ok (.iinc 25 1, 3) := by decide +kernel
theorem dL_law_1571 : decode cL_law 1571 = .ok (.goto (-44), 3) := by decide +kernel
theorem dL_law_1574 : decode cL_law 1574 = .ok (.iload 21, 2) := by decide +kernel
theorem dL_law_1576 : decode cL_law 1576 = .ok (.aload 7, 2) := by decide +kernel
theorem dL_law_1578 : decode cL_law 1578 = .ok (.iload 18, 2) := by decide +kernel
theorem dL_law_1580 : decode cL_law 1580 = .ok (.aaload, 1) := by decide +kernel
theorem dL_law_1581 : decode cL_law 1581 = .ok (.iconst 3, 1) := by decide +kernel
theorem dL_law_1582 : decode cL_law 1582 = .ok (.iaload, 1) := by decide +kernel
theorem dL_law_1583 : decode cL_law 1583 = .ok (.if_icmp .le 44, 3) := by decide +kernel
theorem dL_law_1586 : decode cL_law 1586 = .ok (.iload 20, 2) := by decide +kernel
theorem dL_law_1588 : decode cL_law 1588 = .ok (.iconst 3, 1) := by decide +kernel
theorem dL_law_1589 : decode cL_law 1589 = .ok (.if_icmp .lt 11, 3) := by decide +kernel
theorem dL_law_1592 : decode cL_law 1592 = .ok (.aload 15, 2) := by decide +kernel
theorem dL_law_1594 : decode cL_law 1594 = .ok (.iload 18, 2) := by decide +kernel
theorem dL_law_1596 : decode cL_law 1596 = .ok (.iaload, 1) := by decide +kernel
theorem dL_law_1597 : decode cL_law 1597 = .ok (.ifCond .gt 30, 3) := by decide +kernel
theorem dL_law_1600 : decode cL_law 1600 = .ok (.iload 14, 2) := by decide +kernel
theorem dL_law_1602 : decode cL_law 1602 = .ok (.ifCond .eq 23, 3) := by decide +kernel
theorem dL_law_1605 : decode cL_law 1605 = .ok (.iload 13, 2) := by decide +kernel
theorem dL_law_1607 : decode cL_law 1607 = .ok (.ifCond .ge 18, 3) := by decide +kernel
theorem dL_law_1610 : decode cL_law 1610 = .ok (.iload 24, 2) := by decide +kernel
theorem dL_law_1612 : decode cL_law 1612 = .ok (.ifCond .eq 13, 3) := by decide +kernel
theorem dL_law_1615 : decode cL_law 1615 = .ok (.aload 7, 2) := by decide +kernel
theorem dL_law_1617 : decode cL_law 1617 = .ok (.iload 18, 2) := by decide +kernel
theorem dL_law_1619 : decode cL_law 1619 = .ok (.aaload, 1) := by decide +kernel
theorem dL_law_1620 : decode cL_law 1620 = .ok (.iconst 2, 1) := by decide +kernel
theorem dL_law_1621 : decode cL_law 1621 = .ok (.iaload, 1) := by decide +kernel
theorem dL_law_1622 : decode cL_law 1622 = .ok (.ifCond .gt 5, 3) := by decide +kernel
theorem dL_law_1625 : decode cL_law 1625 = .ok (.iconst 0, 1) := by decide +kernel
theorem dL_law_1626 : decode cL_law 1626 = .ok (.ireturn, 1) := by decide +kernel
theorem dL_law_1627 : decode cL_law 1627 = .ok (.iload 17, 2) := by decide +kernel
theorem dL_law_1629 : decode cL_law 1629 = .ok (.iload 21, 2) := by decide +kernel
theorem dL_law_1631 : decode cL_law 1631 = .ok (.iadd, 1) := by decide +kernel
theorem dL_law_1632 : decode cL_law 1632 = .ok (.istore 17, 2) := by decide +kernel
theorem dL_law_1634 : decode cL_law 1634 = .ok (.iinc 18 1, 3) := by decide +kernel
theorem dL_law_1637 : decode cL_law 1637 = .ok (.goto (-422), 3) := by decide +kernel
theorem dL_law_1640 : decode cL_law 1640 = .ok (.aload_n 1, 1) := by decide +kernel
theorem dL_law_1641 : decode cL_law 1641 = .ok (.bipush 7, 2) := by decide +kernel
theorem dL_law_1643 : decode cL_law 1643 = .ok (.invokevirtual 150, 3) := by decide +kernel
theorem dL_law_1646 : decode cL_law 1646 = .ok (.iload 17, 2) := by decide +kernel
theorem dL_law_1648 : decode cL_law 1648 = .ok (.if_icmp .ne 15, 3) := by decide +kernel
theorem dL_law_1651 : decode cL_law 1651 = .ok (.aload_n 1, 1) := by decide +kernel
theorem dL_law_1652 : decode cL_law 1652 = .ok (.iconst 0, 1) := by decide +kernel
theorem dL_law_1653 : decode cL_law 1653 = .ok (.invokevirtual 150, 3) := by decide +kernel
theorem dL_law_1656 : decode cL_law 1656 = .ok (.iload 5, 2) := by decide +kernel
theorem dL_law_1658 : decode cL_law 1658 = .ok (.iconst 1, 1) := by decide +kernel
theorem dL_law_1659 : decode cL_law 1659 = .ok (.iadd, 1) := by decide +kernel
theorem dL_law_1660 : decode cL_law 1660 = .ok (.if_icmp .eq 5, 3) := by decide +kernel
theorem dL_law_1663 : decode cL_law 1663 = .ok (.iconst 0, 1) := by decide +kernel
theorem dL_law_1664 : decode cL_law 1664 = .ok (.ireturn, 1) := by decide +kernel
theorem dL_law_1665 : decode cL_law 1665 = .ok (.iinc 5 1, 3) := by decide +kernel
theorem dL_law_1668 : decode cL_law 1668 = .ok (.goto (-1632), 3) := by decide +kernel
theorem dL_law_1671 : decode cL_law 1671 = .ok (.iconst 1, 1) := by decide +kernel
theorem dL_law_1672 : decode cL_law 1672 = .ok (.ireturn, 1) := by decide +kernel
