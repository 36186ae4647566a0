theorem dX0_init_0 : decode cX0_init 0 = .ok (.aload_n 0, 1) := by decide +kernel
theorem dX0_init_1 : decode cX0_init 1 = .ok (.invokespecial 3, 3) := by decide +kernel
theorem dX0_init_4 : decode cX0_init 4 = .ok (.return_, 1) := by decide +kernel
theorem dX0_begin_0 : decode cX0_begin 0 = .ok (.aload_n 0, 1) := by decide +kernel
theorem dX0_begin_1 : decode cX0_begin 1 = .ok (.iload_n 3, 1) := by decide +kernel
theorem dX0_begin_2 : decode cX0_begin 2 = .ok (.putfield 9, 3) := by decide +kernel
theorem dX0_begin_5 : decode cX0_begin 5 = .ok (.aload_n 0, 1) := by decide +kernel
theorem dX0_begin_6 : decode cX0_begin 6 = .ok (.iload_n 2, 1) := by decide +kernel
theorem dX0_begin_7 : decode cX0_begin 7 = .ok (.putfield 15, 3) := by decide +kernel
theorem dX0_begin_10 : decode cX0_begin 10 = .ok (.aload_n 0, 1) := by decide +kernel
theorem dX0_begin_11 : decode cX0_begin 11 = .ok (.iconst 0, 1) := by decide +kernel
theorem dX0_begin_12 : decode cX0_begin 12 = .ok (.putfield 18, 3) := by decide +kernel
theorem dX0_begin_15 : decode cX0_begin 15 = .ok (.aload_n 0, 1) := by decide +kernel
theorem dX0_begin_16 : decode cX0_begin 16 = .ok (.iload_n 1, 1) := by decide +kernel
theorem dX0_begin_17 : decode cX0_begin 17 = .ok (.putfield 21, 3) := by decide +kernel
theorem dX0_begin_20 : decode cX0_begin 20 = .ok (.aload_n 0, 1) := by decide +kernel
theorem dX0_begin_21 : decode cX0_begin 21 = .ok (.iconst (-1), 1) := by decide +kernel
theorem dX0_begin_22 : decode cX0_begin 22 = .ok (.putfield 24, 3) := by decide +kernel
theorem dX0_begin_25 : decode cX0_begin 25 = .ok (.return_, 1) := by decide +kernel
theorem dX0_isOn_0 : decode cX0_isOn 0 = .ok (.aload_n 0, 1) := by decide +kernel
theorem dX0_isOn_1 : decode cX0_isOn 1 = .ok (.getfield 18, 3) := by decide +kernel
theorem dX0_isOn_4 : decode cX0_isOn 4 = .ok (.iconst 1, 1) := by decide +kernel
theorem dX0_isOn_5 : decode cX0_isOn 5 = .ok (.if_icmp .ne 15, 3) := by decide +kernel
theorem dX0_isOn_8 : decode cX0_isOn 8 = .ok (.aload_n 0, 1) := by decide +kernel
theorem dX0_isOn_9 : decode cX0_isOn 9 = .ok (.getfield 21, 3) := by decide +kernel
theorem dX0_isOn_12 : decode cX0_isOn 12 = .ok (.iload_n 1, 1) := by decide +kernel
theorem dX0_isOn_13 : decode cX0_isOn 13 = .ok (.if_icmp .ne 7, 3) := by decide +kernel
theorem dX0_isOn_16 : decode cX0_isOn 16 = .ok (.iconst 1, 1) := by decide +kernel
theorem dX0_isOn_17 : decode cX0_isOn 17 = .ok (.goto 4, 3) := by decide +kernel
theorem dX0_isOn_20 : decode cX0_isOn 20 = .ok (.iconst 0, 1) := by decide +kernel
theorem dX0_isOn_21 : decode cX0_isOn 21 = .ok (.ireturn, 1) := by decide +kernel
theorem dX0_lose_0 : decode cX0_lose 0 = .ok (.aload_n 0, 1) := by decide +kernel
theorem dX0_lose_1 : decode cX0_lose 1 = .ok (.iconst 3, 1) := by decide +kernel
theorem dX0_lose_2 : decode cX0_lose 2 = .ok (.putfield 18, 3) := by decide +kernel
theorem dX0_lose_5 : decode cX0_lose 5 = .ok (.aload_n 0, 1) := by decide +kernel
theorem dX0_lose_6 : decode cX0_lose 6 = .ok (.iconst (-1), 1) := by decide +kernel
theorem dX0_lose_7 : decode cX0_lose 7 = .ok (.putfield 21, 3) := by decide +kernel
theorem dX0_lose_10 : decode cX0_lose 10 = .ok (.return_, 1) := by decide +kernel
theorem dX0_putDown_0 : decode cX0_putDown 0 = .ok (.aload_n 0, 1) := by decide +kernel
theorem dX0_putDown_1 : decode cX0_putDown 1 = .ok (.iload_n 1, 1) := by decide +kernel
theorem dX0_putDown_2 : decode cX0_putDown 2 = .ok (.putfield 21, 3) := by decide +kernel
theorem dX0_putDown_5 : decode cX0_putDown 5 = .ok (.iload_n 1, 1) := by decide +kernel
theorem dX0_putDown_6 : decode cX0_putDown 6 = .ok (.aload_n 0, 1) := by decide +kernel
theorem dX0_putDown_7 : decode cX0_putDown 7 = .ok (.getfield 15, 3) := by decide +kernel
theorem dX0_putDown_10 : decode cX0_putDown 10 = .ok (.if_icmp .eq 10, 3) := by decide +kernel
theorem dX0_putDown_13 : decode cX0_putDown 13 = .ok (.aload_n 0, 1) := by decide +kernel
theorem dX0_putDown_14 : decode cX0_putDown 14 = .ok (.iconst 0, 1) := by decide +kernel
theorem dX0_putDown_15 : decode cX0_putDown 15 = .ok (.putfield 18, 3) := by decide +kernel
theorem dX0_putDown_18 : decode cX0_putDown 18 = .ok (.iconst 0, 1) := by decide +kernel
theorem dX0_putDown_19 : decode cX0_putDown 19 = .ok (.ireturn, 1) := by decide +kernel
theorem dX0_putDown_20 : decode cX0_putDown 20 = .ok (.aload_n 0, 1) := by decide +kernel
theorem dX0_putDown_21 : decode cX0_putDown 21 = .ok (.iconst 2, 1) := by decide +kernel
theorem dX0_putDown_22 : decode cX0_putDown 22 = .ok (.putfield 18, 3) := by decide +kernel
theorem dX0_putDown_25 : decode cX0_putDown 25 = .ok (.aload_n 0, 1) := by decide +kernel
theorem dX0_putDown_26 : decode cX0_putDown 26 = .ok (.iload_n 2, 1) := by decide +kernel
theorem dX0_putDown_27 : decode cX0_putDown 27 = .ok (.putfield 24, 3) := by decide +kernel
theorem dX0_putDown_30 : decode cX0_putDown 30 = .ok (.iconst 1, 1) := by decide +kernel
theorem dX0_putDown_31 : decode cX0_putDown 31 = .ok (.ireturn, 1) := by decide +kernel
theorem dX0_tell_0 : decode cX0_tell 0 = .ok (.iload_n 1, 1) := by decide +kernel
theorem dX0_tell_1 : decode cX0_tell 1 = .ok (.tableswitch 51 0 3 #[31, 36, 41, 46], 31) := by decide +kernel
theorem dX0_tell_32 : decode cX0_tell 32 = .ok (.aload_n 0, 1) := by decide +kernel
theorem dX0_tell_33 : decode cX0_tell 33 = .ok (.getfield 9, 3) := by decide +kernel
theorem dX0_tell_36 : decode cX0_tell 36 = .ok (.ireturn, 1) := by decide +kernel
theorem dX0_tell_37 : decode cX0_tell 37 = .ok (.aload_n 0, 1) := by decide +kernel
theorem dX0_tell_38 : decode cX0_tell 38 = .ok (.getfield 15, 3) := by decide +kernel
theorem dX0_tell_41 : decode cX0_tell 41 = .ok (.ireturn, 1) := by decide +kernel
theorem dX0_tell_42 : decode cX0_tell 42 = .ok (.aload_n 0, 1) := by decide +kernel
theorem dX0_tell_43 : decode cX0_tell 43 = .ok (.getfield 18, 3) := by decide +kernel
theorem dX0_tell_46 : decode cX0_tell 46 = .ok (.ireturn, 1) := by decide +kernel
theorem dX0_tell_47 : decode cX0_tell 47 = .ok (.aload_n 0, 1) := by decide +kernel
theorem dX0_tell_48 : decode cX0_tell 48 = .ok (.getfield 21, 3) := by decide +kernel
theorem dX0_tell_51 : decode cX0_tell 51 = .ok (.ireturn, 1) := by decide +kernel
theorem dX0_tell_52 : decode cX0_tell 52 = .ok (.aload_n 0, 1) := by decide +kernel
theorem dX0_tell_53 : decode cX0_tell 53 = .ok (.getfield 24, 3) := by decide +kernel
theorem dX0_tell_56 : decode cX0_tell 56 = .ok (.ireturn, 1) := by decide +kernel
theorem dX1_init_0 : decode cX1_init 0 = .ok (.aload_n 0, 1) := by decide +kernel
theorem dX1_init_1 : decode cX1_init 1 = .ok (.invokespecial 3, 3) := by decide +kernel
theorem dX1_init_4 : decode cX1_init 4 = .ok (.aload_n 0, 1) := by decide +kernel
theorem dX1_init_5 : decode cX1_init 5 = .ok (.sipush 160, 3) := by decide +kernel
theorem dX1_init_8 : decode cX1_init 8 = .ok (.newarray .int, 2) := by decide +kernel
theorem dX1_init_10 : decode cX1_init 10 = .ok (.putfield 9, 3) := by decide +kernel
theorem dX1_init_13 : decode cX1_init 13 = .ok (.aload_n 0, 1) := by decide +kernel
theorem dX1_init_14 : decode cX1_init 14 = .ok (.sipush 160, 3) := by decide +kernel
theorem dX1_init_17 : decode cX1_init 17 = .ok (.newarray .int, 2) := by decide +kernel
theorem dX1_init_19 : decode cX1_init 19 = .ok (.putfield 15, 3) := by decide +kernel
theorem dX1_init_22 : decode cX1_init 22 = .ok (.aload_n 0, 1) := by decide +kernel
theorem dX1_init_23 : decode cX1_init 23 = .ok (.sipush 160, 3) := by decide +kernel
theorem dX1_init_26 : decode cX1_init 26 = .ok (.newarray .int, 2) := by decide +kernel
theorem dX1_init_28 : decode cX1_init 28 = .ok (.putfield 18, 3) := by decide +kernel
theorem dX1_init_31 : decode cX1_init 31 = .ok (.aload_n 0, 1) := by decide +kernel
theorem dX1_init_32 : decode cX1_init 32 = .ok (.sipush 160, 3) := by decide +kernel
theorem dX1_init_35 : decode cX1_init 35 = .ok (.newarray .boolean, 2) := by decide +kernel
theorem dX1_init_37 : decode cX1_init 37 = .ok (.putfield 21, 3) := by decide +kernel
theorem dX1_init_40 : decode cX1_init 40 = .ok (.aload_n 0, 1) := by decide +kernel
theorem dX1_init_41 : decode cX1_init 41 = .ok (.sipush 160, 3) := by decide +kernel
theorem dX1_init_44 : decode cX1_init 44 = .ok (.newarray .boolean, 2) := by decide +kernel
theorem dX1_init_46 : decode cX1_init 46 = .ok (.putfield 25, 3) := by decide +kernel
theorem dX1_init_49 : decode cX1_init 49 = .ok (.aload_n 0, 1) := by decide +kernel
theorem dX1_init_50 : decode cX1_init 50 = .ok (.bipush 8, 2) := by decide +kernel
theorem dX1_init_52 : decode cX1_init 52 = .ok (.newarray .int, 2) := by decide +kernel
theorem dX1_init_54 : decode cX1_init 54 = .ok (.putfield 28, 3) := by decide +kernel
theorem dX1_init_57 : decode cX1_init 57 = .ok (.aload_n 0, 1) := by decide +kernel
theorem dX1_init_58 : decode cX1_init 58 = .ok (.getfield 9, 3) := by decide +kernel
theorem dX1_init_61 : decode cX1_init 61 = .ok (.bipush 30, 2) := by decide +kernel
theorem dX1_init_63 : decode cX1_init 63 = .ok (.invokestatic 31, 3) := by decide +kernel
theorem dX1_init_66 : decode cX1_init 66 = .ok (.aload_n 0, 1) := by decide +kernel
theorem dX1_init_67 : decode cX1_init 67 = .ok (.getfield 15, 3) := by decide +kernel
theorem dX1_init_70 : decode cX1_init 70 = .ok (.iconst 1, 1) := by decide +kernel
theorem dX1_init_71 : decode cX1_init 71 = .ok (.invokestatic 31, 3) := by decide +kernel
theorem dX1_init_74 : decode cX1_init 74 = .ok (.aload_n 0, 1) := by decide +kernel
theorem dX1_init_75 : decode cX1_init 75 = .ok (.getfield 28, 3) := by decide +kernel
theorem dX1_init_78 : decode cX1_init 78 = .ok (.iconst 5, 1) := by decide +kernel
theorem dX1_init_79 : decode cX1_init 79 = .ok (.invokestatic 31, 3) := by decide +kernel
theorem dX1_init_82 : decode cX1_init 82 = .ok (.return_, 1) := by decide +kernel
theorem dX1_copyLake_0 : decode cX1_copyLake 0 = .ok (.aload_n 1, 1) := by decide +kernel
theorem dX1_copyLake_1 : decode cX1_copyLake 1 = .ok (.getfield 9, 3) := by decide +kernel
theorem dX1_copyLake_4 : decode cX1_copyLake 4 = .ok (.iconst 0, 1) := by decide +kernel
theorem dX1_copyLake_5 : decode cX1_copyLake 5 = .ok (.aload_n 0, 1) := by decide +kernel
theorem dX1_copyLake_6 : decode cX1_copyLake 6 = .ok (.getfield 9, 3) := by decide +kernel
theorem dX1_copyLake_9 : decode cX1_copyLake 9 = .ok (.iconst 0, 1) := by decide +kernel
theorem dX1_copyLake_10 : decode cX1_copyLake 10 = .ok (.sipush 160, 3) := by decide +kernel
theorem dX1_copyLake_13 : decode cX1_copyLake 13 = .ok (.invokestatic 37, 3) := by decide +kernel
theorem dX1_copyLake_16 : decode cX1_copyLake 16 = .ok (.aload_n 1, 1) := by decide +kernel
theorem dX1_copyLake_17 : decode cX1_copyLake 17 = .ok (.getfield 15, 3) := by decide +kernel
theorem dX1_copyLake_20 : decode cX1_copyLake 20 = .ok (.iconst 0, 1) := by decide +kernel
theorem dX1_copyLake_21 : decode cX1_copyLake 21 = .ok (.aload_n 0, 1) := by decide +kernel
theorem dX1_copyLake_22 : decode cX1_copyLake 22 = .ok (.getfield 15, 3) := by decide +kernel
theorem dX1_copyLake_25 : decode cX1_copyLake 25 = .ok (.iconst 0, 1) := by decide +kernel
theorem dX1_copyLake_26 : decode cX1_copyLake 26 = .ok (.sipush 160, 3) := by decide +kernel
theorem dX1_copyLake_29 : decode cX1_copyLake 29 = .ok (.invokestatic 37, 3) := by decide +kernel
theorem dX1_copyLake_32 : decode cX1_copyLake 32 = .ok (.aload_n 1, 1) := by decide +kernel
theorem dX1_copyLake_33 : decode cX1_copyLake 33 = .ok (.getfield 18, 3) := by decide +kernel
theorem dX1_copyLake_36 : decode cX1_copyLake 36 = .ok (.iconst 0, 1) := by decide +kernel
theorem dX1_copyLake_37 : decode cX1_copyLake 37 = .ok (.aload_n 0, 1) := by decide +kernel
theorem dX1_copyLake_38 : decode cX1_copyLake 38 = .ok (.getfield 18, 3) := by decide +kernel
theorem dX1_copyLake_41 : decode cX1_copyLake 41 = .ok (.iconst 0, 1) := by decide +kernel
theorem dX1_copyLake_42 : decode cX1_copyLake 42 = .ok (.sipush 160, 3) := by decide +kernel
theorem dX1_copyLake_45 : decode cX1_copyLake 45 = .ok (.invokestatic 37, 3) := by decide +kernel
theorem dX1_copyLake_48 : decode cX1_copyLake 48 = .ok (.aload_n 1, 1) := by decide +kernel
theorem dX1_copyLake_49 : decode cX1_copyLake 49 = .ok (.getfield 28, 3) := by decide +kernel
theorem dX1_copyLake_52 : decode cX1_copyLake 52 = .ok (.iconst 0, 1) := by decide +kernel
theorem dX1_copyLake_53 : decode cX1_copyLake 53 = .ok (.aload_n 0, 1) := by decide +kernel
theorem dX1_copyLake_54 : decode cX1_copyLake 54 = .ok (.getfield 28, 3) := by decide +kernel
theorem dX1_copyLake_57 : decode cX1_copyLake 57 = .ok (.iconst 0, 1) := by decide +kernel
theorem dX1_copyLake_58 : decode cX1_copyLake 58 = .ok (.bipush 8, 2) := by decide +kernel
theorem dX1_copyLake_60 : decode cX1_copyLake 60 = .ok (.invokestatic 37, 3) := by decide +kernel
theorem dX1_copyLake_63 : decode cX1_copyLake 63 = .ok (.iconst 0, 1) := by decide +kernel
theorem dX1_copyLake_64 : decode cX1_copyLake 64 = .ok (.istore_n 2, 1) := by decide +kernel
theorem dX1_copyLake_65 : decode cX1_copyLake 65 = .ok (.iload_n 2, 1) := by decide +kernel
theorem dX1_copyLake_66 : decode cX1_copyLake 66 = .ok (.sipush 160, 3) := by decide +kernel
theorem dX1_copyLake_69 : decode cX1_copyLake 69 = .ok (.if_icmp .ge 21, 3) := by decide +kernel
theorem dX1_copyLake_72 : decode cX1_copyLake 72 = .ok (.aload_n 0, 1) := by decide +kernel
theorem dX1_copyLake_73 : decode cX1_copyLake 73 = .ok (.getfield 21, 3) := by decide +kernel
theorem dX1_copyLake_76 : decode cX1_copyLake 76 = .ok (.iload_n 2, 1) := by decide +kernel
theorem dX1_copyLake_77 : decode cX1_copyLake 77 = .ok (.aload_n 1, 1) := by decide +kernel
theorem dX1_copyLake_78 : decode cX1_copyLake 78 = .ok (.getfield 21, 3) := by decide +kernel
theorem dX1_copyLake_81 : decode cX1_copyLake 81 = .ok (.iload_n 2, 1) := by decide +kernel
theorem dX1_copyLake_82 : decode cX1_copyLake 82 = .ok (.baload, 1) := by decide +kernel
theorem dX1_copyLake_83 : decode cX1_copyLake 83 = .ok (.bastore, 1) := by decide +kernel
theorem dX1_copyLake_84 : decode cX1_copyLake 84 = .ok (.iinc 2 1, 3) := by decide +kernel
theorem dX1_copyLake_87 : decode cX1_copyLake 87 = .ok (.goto (-22), 3) := by decide +kernel
theorem dX1_copyLake_90 : decode cX1_copyLake 90 = .ok (.return_, 1) := by decide +kernel
theorem dX1_lay_0 : decode cX1_lay 0 = .ok (.iload_n 1, 1) := by decide +kernel
theorem dX1_lay_1 : decode cX1_lay 1 = .ok (.invokestatic 43, 3) := by decide +kernel
theorem dX1_lay_4 : decode cX1_lay 4 = .ok (.ifCond .eq 34, 3) := by decide +kernel
theorem dX1_lay_7 : decode cX1_lay 7 = .ok (.aload_n 0, 1) := by decide +kernel
theorem dX1_lay_8 : decode cX1_lay 8 = .ok (.getfield 9, 3) := by decide +kernel
theorem dX1_lay_11 : decode cX1_lay 11 = .ok (.iload_n 1, 1) := by decide +kernel
theorem dX1_lay_12 : decode cX1_lay 12 = .ok (.iload_n 2, 1) := by decide +kernel
theorem dX1_lay_13 : decode cX1_lay 13 = .ok (.iastore, 1) := by decide +kernel
theorem dX1_lay_14 : decode cX1_lay 14 = .ok (.aload_n 0, 1) := by decide +kernel
theorem dX1_lay_15 : decode cX1_lay 15 = .ok (.getfield 18, 3) := by decide +kernel
theorem dX1_lay_18 : decode cX1_lay 18 = .ok (.iload_n 1, 1) := by decide +kernel
theorem dX1_lay_19 : decode cX1_lay 19 = .ok (.iconst 0, 1) := by decide +kernel
theorem dX1_lay_20 : decode cX1_lay 20 = .ok (.iastore, 1) := by decide +kernel
theorem dX1_lay_21 : decode cX1_lay 21 = .ok (.aload_n 0, 1) := by decide +kernel
theorem dX1_lay_22 : decode cX1_lay 22 = .ok (.getfield 21, 3) := by decide +kernel
theorem dX1_lay_25 : decode cX1_lay 25 = .ok (.iload_n 1, 1) := by decide +kernel
theorem dX1_lay_26 : decode cX1_lay 26 = .ok (.iconst 0, 1) := by decide +kernel
theorem dX1_lay_27 : decode cX1_lay 27 = .ok (.bastore, 1) := by decide +kernel
theorem dX1_lay_28 : decode cX1_lay 28 = .ok (.aload_n 0, 1) := by decide +kernel
theorem dX1_lay_29 : decode cX1_lay 29 = .ok (.dup, 1) := by decide +kernel
theorem dX1_lay_30 : decode cX1_lay 30 = .ok (.getfield 47, 3) := by decide +kernel
theorem dX1_lay_33 : decode cX1_lay 33 = .ok (.iconst 1, 1) := by decide +kernel
theorem dX1_lay_34 : decode cX1_lay 34 = .ok (.iadd, 1) := by decide +kernel
theorem dX1_lay_35 : decode cX1_lay 35 = .ok (.putfield 47, 3) := by decide +kernel
theorem dX1_lay_38 : decode cX1_lay 38 = .ok (.return_, 1) := by decide +kernel
theorem dX1_snowOver_0 : decode cX1_snowOver 0 = .ok (.iload_n 1, 1) := by decide +kernel
theorem dX1_snowOver_1 : decode cX1_snowOver 1 = .ok (.invokestatic 43, 3) := by decide +kernel
theorem dX1_snowOver_4 : decode cX1_snowOver 4 = .ok (.ifCond .eq 10, 3) := by decide +kernel
theorem dX1_snowOver_7 : decode cX1_snowOver 7 = .ok (.aload_n 0, 1) := by decide +kernel
theorem dX1_snowOver_8 : decode cX1_snowOver 8 = .ok (.getfield 15, 3) := by decide +kernel
theorem dX1_snowOver_11 : decode cX1_snowOver 11 = .ok (.iload_n 1, 1) := by decide +kernel
theorem dX1_snowOver_12 : decode cX1_snowOver 12 = .ok (.iload_n 2, 1) := by decide +kernel
theorem dX1_snowOver_13 : decode cX1_snowOver 13 = .ok (.iastore, 1) := by decide +kernel
theorem dX1_snowOver_14 : decode cX1_snowOver 14 = .ok (.return_, 1) := by decide +kernel
theorem dX1_thicknessOf_0 : decode cX1_thicknessOf 0 = .ok (.iload_n 1, 1) := by decide +kernel
theorem dX1_thicknessOf_1 : decode cX1_thicknessOf 1 = .ok (.invokestatic 43, 3) := by decide +kernel
theorem dX1_thicknessOf_4 : decode cX1_thicknessOf 4 = .ok (.ifCond .eq 12, 3) := by decide +kernel
theorem dX1_thicknessOf_7 : decode cX1_thicknessOf 7 = .ok (.aload_n 0, 1) := by decide +kernel
theorem dX1_thicknessOf_8 : decode cX1_thicknessOf 8 = .ok (.getfield 9, 3) := by decide +kernel
theorem dX1_thicknessOf_11 : decode cX1_thicknessOf 11 = .ok (.iload_n 1, 1) := by decide +kernel
theorem dX1_thicknessOf_12 : decode cX1_thicknessOf 12 = .ok (.iaload, 1) := by decide +kernel
theorem dX1_thicknessOf_13 : decode cX1_thicknessOf 13 = .ok (.goto 4, 3) := by decide +kernel
theorem dX1_thicknessOf_16 : decode cX1_thicknessOf 16 = .ok (.iconst (-1), 1) := by decide +kernel
theorem dX1_thicknessOf_17 : decode cX1_thicknessOf 17 = .ok (.ireturn, 1) := by decide +kernel
theorem dX1_snowOf_0 : decode cX1_snowOf 0 = .ok (.iload_n 1, 1) := by decide +kernel
theorem dX1_snowOf_1 : decode cX1_snowOf 1 = .ok (.ifCond .lt 10, 3) := by decide +kernel
theorem dX1_snowOf_4 : decode cX1_snowOf 4 = .ok (.iload_n 1, 1) := by decide +kernel
theorem dX1_snowOf_5 : decode cX1_snowOf 5 = .ok (.sipush 160, 3) := by decide +kernel
theorem dX1_snowOf_8 : decode cX1_snowOf 8 = .ok (.if_icmp .lt 7, 3) := by decide +kernel
theorem dX1_snowOf_11 : decode cX1_snowOf 11 = .ok (.iconst 1, 1) := by decide +kernel
theorem dX1_snowOf_12 : decode cX1_snowOf 12 = .ok (.goto 9, 3) := by decide +kernel
theorem dX1_snowOf_15 : decode cX1_snowOf 15 = .ok (.aload_n 0, 1) := by decide +kernel
theorem dX1_snowOf_16 : decode cX1_snowOf 16 = .ok (.getfield 15, 3) := by decide +kernel
theorem dX1_snowOf_19 : decode cX1_snowOf 19 = .ok (.iload_n 1, 1) := by decide +kernel
theorem dX1_snowOf_20 : decode cX1_snowOf 20 = .ok (.iaload, 1) := by decide +kernel
theorem dX1_snowOf_21 : decode cX1_snowOf 21 = .ok (.ireturn, 1) := by decide +kernel
theorem dX1_strainOf_0 : decode cX1_strainOf 0 = .ok (.iload_n 1, 1) := by decide +kernel
theorem dX1_strainOf_1 : decode cX1_strainOf 1 = .ok (.invokestatic 43, 3) := by decide +kernel
theorem dX1_strainOf_4 : decode cX1_strainOf 4 = .ok (.ifCond .eq 12, 3) := by decide +kernel
theorem dX1_strainOf_7 : decode cX1_strainOf 7 = .ok (.aload_n 0, 1) := by decide +kernel
theorem dX1_strainOf_8 : decode cX1_strainOf 8 = .ok (.getfield 18, 3) := by decide +kernel
theorem dX1_strainOf_11 : decode cX1_strainOf 11 = .ok (.iload_n 1, 1) := by decide +kernel
theorem dX1_strainOf_12 : decode cX1_strainOf 12 = .ok (.iaload, 1) := by decide +kernel
theorem dX1_strainOf_13 : decode cX1_strainOf 13 = .ok (.goto 4, 3) := by decide +kernel
theorem dX1_strainOf_16 : decode cX1_strainOf 16 = .ok (.iconst 0, 1) := by decide +kernel
theorem dX1_strainOf_17 : decode cX1_strainOf 17 = .ok (.ireturn, 1) := by decide +kernel
theorem dX1_isCracked_0 : decode cX1_isCracked 0 = .ok (.iload_n 1, 1) := by decide +kernel
theorem dX1_isCracked_1 : decode cX1_isCracked 1 = .ok (.invokestatic 43, 3) := by decide +kernel
theorem dX1_isCracked_4 : decode cX1_isCracked 4 = .ok (.ifCond .eq 16, 3) := by decide +kernel
theorem dX1_isCracked_7 : decode cX1_isCracked 7 = .ok (.aload_n 0, 1) := by decide +kernel
theorem dX1_isCracked_8 : decode cX1_isCracked 8 = .ok (.getfield 21, 3) := by decide +kernel
theorem dX1_isCracked_11 : decode cX1_isCracked 11 = .ok (.iload_n 1, 1) := by decide +kernel
theorem dX1_isCracked_12 : decode cX1_isCracked 12 = .ok (.baload, 1) := by decide +kernel
theorem dX1_isCracked_13 : decode cX1_isCracked 13 = .ok (.ifCond .eq 7, 3) := by decide +kernel
theorem dX1_isCracked_16 : decode cX1_isCracked 16 = .ok (.iconst 1, 1) := by decide +kernel
theorem dX1_isCracked_17 : decode cX1_isCracked 17 = .ok (.goto 4, 3) := by decide +kernel
theorem dX1_isCracked_20 : decode cX1_isCracked 20 = .ok (.iconst 0, 1) := by decide +kernel
theorem dX1_isCracked_21 : decode cX1_isCracked 21 = .ok (.ireturn, 1) := by decide +kernel
theorem dX1_holds_0 : decode cX1_holds 0 = .ok (.iload_n 1, 1) := by decide +kernel
theorem dX1_holds_1 : decode cX1_holds 1 = .ok (.ifCond .lt 19, 3) := by decide +kernel
theorem dX1_holds_4 : decode cX1_holds 4 = .ok (.iload_n 1, 1) := by decide +kernel
theorem dX1_holds_5 : decode cX1_holds 5 = .ok (.sipush 160, 3) := by decide +kernel
theorem dX1_holds_8 : decode cX1_holds 8 = .ok (.if_icmp .ge 12, 3) := by decide +kernel
theorem dX1_holds_11 : decode cX1_holds 11 = .ok (.aload_n 0, 1) := by decide +kernel
theorem dX1_holds_12 : decode cX1_holds 12 = .ok (.getfield 9, 3) := by decide +kernel
theorem dX1_holds_15 : decode cX1_holds 15 = .ok (.iload_n 1, 1) := by decide +kernel
theorem dX1_holds_16 : decode cX1_holds 16 = .ok (.iaload, 1) := by decide +kernel
theorem dX1_holds_17 : decode cX1_holds 17 = .ok (.ifCond .ge 5, 3) := by decide +kernel
theorem dX1_holds_20 : decode cX1_holds 20 = .ok (.iconst 1, 1) := by decide +kernel
theorem dX1_holds_21 : decode cX1_holds 21 = .ok (.ireturn, 1) := by decide +kernel
theorem dX1_holds_22 : decode cX1_holds 22 = .ok (.aload_n 0, 1) := by decide +kernel
theorem dX1_holds_23 : decode cX1_holds 23 = .ok (.getfield 9, 3) := by decide +kernel
theorem dX1_holds_26 : decode cX1_holds 26 = .ok (.iload_n 1, 1) := by decide +kernel
theorem dX1_holds_27 : decode cX1_holds 27 = .ok (.iaload, 1) := by decide +kernel
theorem dX1_holds_28 : decode cX1_holds 28 = .ok (.aload_n 0, 1) := by decide +kernel
theorem dX1_holds_29 : decode cX1_holds 29 = .ok (.getfield 21, 3) := by decide +kernel
theorem dX1_holds_32 : decode cX1_holds 32 = .ok (.iload_n 1, 1) := by decide +kernel
theorem dX1_holds_33 : decode cX1_holds 33 = .ok (.baload, 1) := by decide +kernel
theorem dX1_holds_34 : decode cX1_holds 34 = .ok (.ifCond .eq 9, 3) := by decide +kernel
theorem dX1_holds_37 : decode cX1_holds 37 = .ok (.iconst 2, 1) := by decide +kernel
theorem dX1_holds_38 : decode cX1_holds 38 = .ok (.iload_n 2, 1) := by decide +kernel
theorem dX1_holds_39 : decode cX1_holds 39 = .ok (.imul, 1) := by decide +kernel
theorem dX1_holds_40 : decode cX1_holds 40 = .ok (.goto 4, 3) := by decide +kernel
theorem dX1_holds_43 : decode cX1_holds 43 = .ok (.iload_n 2, 1) := by decide +kernel
theorem dX1_holds_44 : decode cX1_holds 44 = .ok (.if_icmp .lt 7, 3) := by decide +kernel
theorem dX1_holds_47 : decode cX1_holds 47 = .ok (.iconst 1, 1) := by decide +kernel
theorem dX1_holds_48 : decode cX1_holds 48 = .ok (.goto 4, 3) := by decide +kernel
theorem dX1_holds_51 : decode cX1_holds 51 = .ok (.iconst 0, 1) := by decide +kernel
theorem dX1_holds_52 : decode cX1_holds 52 = .ok (.ireturn, 1) := by decide +kernel
theorem dX1_strainUnder_0 : decode cX1_strainUnder 0 = .ok (.iload_n 1, 1) := by decide +kernel
theorem dX1_strainUnder_1 : decode cX1_strainUnder 1 = .ok (.invokestatic 43, 3) := by decide +kernel
theorem dX1_strainUnder_4 : decode cX1_strainUnder 4 = .ok (.ifCond .eq 12, 3) := by decide +kernel
theorem dX1_strainUnder_7 : decode cX1_strainUnder 7 = .ok (.aload_n 0, 1) := by decide +kernel
theorem dX1_strainUnder_8 : decode cX1_strainUnder 8 = .ok (.getfield 9, 3) := by decide +kernel
theorem dX1_strainUnder_11 : decode cX1_strainUnder 11 = .ok (.iload_n 1, 1) := by decide +kernel
theorem dX1_strainUnder_12 : decode cX1_strainUnder 12 = .ok (.iaload, 1) := by decide +kernel
theorem dX1_strainUnder_13 : decode cX1_strainUnder 13 = .ok (.ifCond .ge 4, 3) := by decide +kernel
theorem dX1_strainUnder_16 : decode cX1_strainUnder 16 = .ok (.return_, 1) := by decide +kernel
theorem dX1_strainUnder_17 : decode cX1_strainUnder 17 = .ok (.aload_n 0, 1) := by decide +kernel
theorem dX1_strainUnder_18 : decode cX1_strainUnder 18 = .ok (.getfield 21, 3) := by decide +kernel
theorem dX1_strainUnder_21 : decode cX1_strainUnder 21 = .ok (.iload_n 1, 1) := by decide +kernel
theorem dX1_strainUnder_22 : decode cX1_strainUnder 22 = .ok (.baload, 1) := by decide +kernel
theorem dX1_strainUnder_23 : decode cX1_strainUnder 23 = .ok (.ifCond .eq 9, 3) := by decide +kernel
theorem dX1_strainUnder_26 : decode cX1_strainUnder 26 = .ok (.iconst 2, 1) := by decide +kernel
theorem dX1_strainUnder_27 : decode cX1_strainUnder 27 = .ok (.iload_n 2, 1) := by decide +kernel
theorem dX1_strainUnder_28 : decode cX1_strainUnder 28 = .ok (.imul, 1) := by decide +kernel
theorem dX1_strainUnder_29 : decode cX1_strainUnder 29 = .ok (.goto 4, 3) := by decide +kernel
theorem dX1_strainUnder_32 : decode cX1_strainUnder 32 = .ok (.iload_n 2, 1) := by decide +kernel
theorem dX1_strainUnder_33 : decode cX1_strainUnder 33 = .ok (.istore_n 3, 1) := by decide +kernel
theorem dX1_strainUnder_34 : decode cX1_strainUnder 34 = .ok (.aload_n 0, 1) := by decide +kernel
theorem dX1_strainUnder_35 : decode cX1_strainUnder 35 = .ok (.getfield 9, 3) := by decide +kernel
theorem dX1_strainUnder_38 : decode cX1_strainUnder 38 = .ok (.iload_n 1, 1) := by decide +kernel
theorem dX1_strainUnder_39 : decode cX1_strainUnder 39 = .ok (.iaload, 1) := by decide +kernel
theorem dX1_strainUnder_40 : decode cX1_strainUnder 40 = .ok (.iload_n 3, 1) := by decide +kernel
theorem dX1_strainUnder_41 : decode cX1_strainUnder 41 = .ok (.bipush 10, 2) := by decide +kernel
theorem dX1_strainUnder_43 : decode cX1_strainUnder 43 = .ok (.iadd, 1) := by decide +kernel
theorem dX1_strainUnder_44 : decode cX1_strainUnder 44 = .ok (.if_icmp .ge 52, 3) := by decide +kernel
theorem dX1_strainUnder_47 : decode cX1_strainUnder 47 = .ok (.aload_n 0, 1) := by decide +kernel
theorem dX1_strainUnder_48 : decode cX1_strainUnder 48 = .ok (.getfield 18, 3) := by decide +kernel
theorem dX1_strainUnder_51 : decode cX1_strainUnder 51 = .ok (.iload_n 1, 1) := by decide +kernel
theorem dX1_strainUnder_52 : decode cX1_strainUnder 52 = .ok (.bipush 9, 2) := by decide +kernel
theorem dX1_strainUnder_54 : decode cX1_strainUnder 54 = .ok (.aload_n 0, 1) := by decide +kernel
theorem dX1_strainUnder_55 : decode cX1_strainUnder 55 = .ok (.getfield 18, 3) := by decide +kernel
theorem dX1_strainUnder_58 : decode cX1_strainUnder 58 = .ok (.iload_n 1, 1) := by decide +kernel
theorem dX1_strainUnder_59 : decode cX1_strainUnder 59 = .ok (.iaload, 1) := by decide +kernel
theorem dX1_strainUnder_60 : decode cX1_strainUnder 60 = .ok (.iconst 1, 1) := by decide +kernel
theorem dX1_strainUnder_61 : decode cX1_strainUnder 61 = .ok (.iadd, 1) := by decide +kernel
theorem dX1_strainUnder_62 : decode cX1_strainUnder 62 = .ok (.invokestatic 51, 3) := by decide +kernel
theorem dX1_strainUnder_65 : decode cX1_strainUnder 65 = .ok (.iastore, 1) := by decide +kernel
theorem dX1_strainUnder_66 : decode cX1_strainUnder 66 = .ok (.aload_n 0, 1) := by decide +kernel
theorem dX1_strainUnder_67 : decode cX1_strainUnder 67 = .ok (.getfield 21, 3) := by decide +kernel
theorem dX1_strainUnder_70 : decode cX1_strainUnder 70 = .ok (.iload_n 1, 1) := by decide +kernel
theorem dX1_strainUnder_71 : decode cX1_strainUnder 71 = .ok (.aload_n 0, 1) := by decide +kernel
theorem dX1_strainUnder_72 : decode cX1_strainUnder 72 = .ok (.getfield 21, 3) := by decide +kernel
theorem dX1_strainUnder_75 : decode cX1_strainUnder 75 = .ok (.iload_n 1, 1) := by decide +kernel
theorem dX1_strainUnder_76 : decode cX1_strainUnder 76 = .ok (.baload, 1) := by decide +kernel
theorem dX1_strainUnder_77 : decode cX1_strainUnder 77 = .ok (.ifCond .ne 13, 3) := by decide +kernel
theorem dX1_strainUnder_80 : decode cX1_strainUnder 80 = .ok (.aload_n 0, 1) := by decide +kernel
theorem dX1_strainUnder_81 : decode cX1_strainUnder 81 = .ok (.getfield 18, 3) := by decide +kernel
theorem dX1_strainUnder_84 : decode cX1_strainUnder 84 = .ok (.iload_n 1, 1) := by decide +kernel
theorem dX1_strainUnder_85 : decode cX1_strainUnder 85 = .ok (.iaload, 1) := by decide +kernel
theorem dX1_strainUnder_86 : decode cX1_strainUnder 86 = .ok (.iconst 3, 1) := by decide +kernel
theorem dX1_strainUnder_87 : decode cX1_strainUnder 87 = .ok (.if_icmp .lt 7, 3) := by decide +kernel
theorem dX1_strainUnder_90 : decode cX1_strainUnder 90 = .ok (.iconst 1, 1) := by decide +kernel
theorem dX1_strainUnder_91 : decode cX1_strainUnder 91 = .ok (.goto 4, 3) := by decide +kernel
theorem dX1_strainUnder_94 : decode cX1_strainUnder 94 = .ok (.iconst 0, 1) := by decide +kernel
theorem dX1_strainUnder_95 : decode cX1_strainUnder 95 = .ok (.bastore, 1) := by decide +kernel
theorem dX1_strainUnder_96 : decode cX1_strainUnder 96 = .ok (.return_, 1) := by decide +kernel
theorem dX1_beginDay_0 : decode cX1_beginDay 0 = .ok (.aload_n 0, 1) := by decide +kernel
theorem dX1_beginDay_1 : decode cX1_beginDay 1 = .ok (.getfield 28, 3) := by decide +kernel
theorem dX1_beginDay_4 : decode cX1_beginDay 4 = .ok (.iload_n 1, 1) := by decide +kernel
theorem dX1_beginDay_5 : decode cX1_beginDay 5 = .ok (.bipush 8, 2) := by decide +kernel
theorem dX1_beginDay_7 : decode cX1_beginDay 7 = .ok (.invokestatic 57, 3) := by decide +kernel
theorem dX1_beginDay_10 : decode cX1_beginDay 10 = .ok (.iaload, 1) := by decide +kernel
theorem dX1_beginDay_11 : decode cX1_beginDay 11 = .ok (.istore_n 2, 1) := by decide +kernel
theorem dX1_beginDay_12 : decode cX1_beginDay 12 = .ok (.iload_n 2, 1) := by decide +kernel
theorem dX1_beginDay_13 : decode cX1_beginDay 13 = .ok (.ifCond .le 11, 3) := by decide +kernel
theorem dX1_beginDay_16 : decode cX1_beginDay 16 = .ok (.aload_n 0, 1) := by decide +kernel
theorem dX1_beginDay_17 : decode cX1_beginDay 17 = .ok (.iload_n 2, 1) := by decide +kernel
theorem dX1_beginDay_18 : decode cX1_beginDay 18 = .ok (.invokevirtual 60, 3) := by decide +kernel
theorem dX1_beginDay_21 : decode cX1_beginDay 21 = .ok (.goto 17, 3) := by decide +kernel
theorem dX1_beginDay_24 : decode cX1_beginDay 24 = .ok (.iload_n 2, 1) := by decide +kernel
theorem dX1_beginDay_25 : decode cX1_beginDay 25 = .ok (.ifCond .ge 13, 3) := by decide +kernel
theorem dX1_beginDay_28 : decode cX1_beginDay 28 = .ok (.aload_n 0, 1) := by decide +kernel
theorem dX1_beginDay_29 : decode cX1_beginDay 29 = .ok (.iload_n 2, 1) := by decide +kernel
theorem dX1_beginDay_30 : decode cX1_beginDay 30 = .ok (.ineg, 1) := by decide +kernel
theorem dX1_beginDay_31 : decode cX1_beginDay 31 = .ok (.invokevirtual 64, 3) := by decide +kernel
theorem dX1_beginDay_34 : decode cX1_beginDay 34 = .ok (.aload_n 0, 1) := by decide +kernel
theorem dX1_beginDay_35 : decode cX1_beginDay 35 = .ok (.invokevirtual 67, 3) := by decide +kernel
theorem dX1_beginDay_38 : decode cX1_beginDay 38 = .ok (.return_, 1) := by decide +kernel
theorem dX1_freeze_0 : decode cX1_freeze 0 = .ok (.aload_n 0, 1) := by decide +kernel
theorem dX1_freeze_1 : decode cX1_freeze 1 = .ok (.dup, 1) := by decide +kernel
theorem dX1_freeze_2 : decode cX1_freeze 2 = .ok (.getfield 47, 3) := by decide +kernel
theorem dX1_freeze_5 : decode cX1_freeze 5 = .ok (.iconst 1, 1) := by decide +kernel
theorem dX1_freeze_6 : decode cX1_freeze 6 = .ok (.iadd, 1) := by decide +kernel
theorem dX1_freeze_7 : decode cX1_freeze 7 = .ok (.putfield 47, 3) := by decide +kernel
theorem dX1_freeze_10 : decode cX1_freeze 10 = .ok (.iconst 0, 1) := by decide +kernel
theorem dX1_freeze_11 : decode cX1_freeze 11 = .ok (.istore_n 2, 1) := by decide +kernel
theorem dX1_freeze_12 : decode cX1_freeze 12 = .ok (.iload_n 2, 1) := by decide +kernel
theorem dX1_freeze_13 : decode cX1_freeze 13 = .ok (.sipush 160, 3) := by decide +kernel
theorem dX1_freeze_16 : decode cX1_freeze 16 = .ok (.if_icmp .ge 74, 3) := by decide +kernel
theorem dX1_freeze_19 : decode cX1_freeze 19 = .ok (.aload_n 0, 1) := by decide +kernel
theorem dX1_freeze_20 : decode cX1_freeze 20 = .ok (.getfield 9, 3) := by decide +kernel
theorem dX1_freeze_23 : decode cX1_freeze 23 = .ok (.iload_n 2, 1) := by decide +kernel
theorem dX1_freeze_24 : decode cX1_freeze 24 = .ok (.iaload, 1) := by decide +kernel
theorem dX1_freeze_25 : decode cX1_freeze 25 = .ok (.ifCond .lt 59, 3) := by decide +kernel
theorem dX1_freeze_28 : decode cX1_freeze 28 = .ok (.iload_n 1, 1) := by decide +kernel
theorem dX1_freeze_29 : decode cX1_freeze 29 = .ok (.bipush 12, 2) := by decide +kernel
theorem dX1_freeze_31 : decode cX1_freeze 31 = .ok (.imul, 1) := by decide +kernel
theorem dX1_freeze_32 : decode cX1_freeze 32 = .ok (.bipush 6, 2) := by decide +kernel
theorem dX1_freeze_34 : decode cX1_freeze 34 = .ok (.aload_n 0, 1) := by decide +kernel
theorem dX1_freeze_35 : decode cX1_freeze 35 = .ok (.getfield 9, 3) := by decide +kernel
theorem dX1_freeze_38 : decode cX1_freeze 38 = .ok (.iload_n 2, 1) := by decide +kernel
theorem dX1_freeze_39 : decode cX1_freeze 39 = .ok (.iaload, 1) := by decide +kernel
theorem dX1_freeze_40 : decode cX1_freeze 40 = .ok (.bipush 10, 2) := by decide +kernel
theorem dX1_freeze_42 : decode cX1_freeze 42 = .ok (.idiv, 1) := by decide +kernel
theorem dX1_freeze_43 : decode cX1_freeze 43 = .ok (.iadd, 1) := by decide +kernel
theorem dX1_freeze_44 : decode cX1_freeze 44 = .ok (.idiv, 1) := by decide +kernel
theorem dX1_freeze_45 : decode cX1_freeze 45 = .ok (.istore_n 3, 1) := by decide +kernel
theorem dX1_freeze_46 : decode cX1_freeze 46 = .ok (.aload_n 0, 1) := by decide +kernel
theorem dX1_freeze_47 : decode cX1_freeze 47 = .ok (.getfield 9, 3) := by decide +kernel
theorem dX1_freeze_50 : decode cX1_freeze 50 = .ok (.iload_n 2, 1) := by decide +kernel
theorem dX1_freeze_51 : decode cX1_freeze 51 = .ok (.sipush 200, 3) := by decide +kernel
theorem dX1_freeze_54 : decode cX1_freeze 54 = .ok (.aload_n 0, 1) := by decide +kernel
theorem dX1_freeze_55 : decode cX1_freeze 55 = .ok (.getfield 9, 3) := by decide +kernel
theorem dX1_freeze_58 : decode cX1_freeze 58 = .ok (.iload_n 2, 1) := by decide +kernel
theorem dX1_freeze_59 : decode cX1_freeze 59 = .ok (.iaload, 1) := by decide +kernel
theorem dX1_freeze_60 : decode cX1_freeze 60 = .ok (.iload_n 3, 1) := by decide +kernel
theorem dX1_freeze_61 : decode cX1_freeze 61 = .ok (.iadd, 1) := by decide +kernel
theorem dX1_freeze_62 : decode cX1_freeze 62 = .ok (.invokestatic 51, 3) := by decide +kernel
theorem dX1_freeze_65 : decode cX1_freeze 65 = .ok (.iastore, 1) := by decide +kernel
theorem dX1_freeze_66 : decode cX1_freeze 66 = .ok (.aload_n 0, 1) := by decide +kernel
theorem dX1_freeze_67 : decode cX1_freeze 67 = .ok (.getfield 18, 3) := by decide +kernel
theorem dX1_freeze_70 : decode cX1_freeze 70 = .ok (.iload_n 2, 1) := by decide +kernel
theorem dX1_freeze_71 : decode cX1_freeze 71 = .ok (.iconst 0, 1) := by decide +kernel
theorem dX1_freeze_72 : decode cX1_freeze 72 = .ok (.aload_n 0, 1) := by decide +kernel
theorem dX1_freeze_73 : decode cX1_freeze 73 = .ok (.getfield 18, 3) := by decide +kernel
theorem dX1_freeze_76 : decode cX1_freeze 76 = .ok (.iload_n 2, 1) := by decide +kernel
theorem dX1_freeze_77 : decode cX1_freeze 77 = .ok (.iaload, 1) := by decide +kernel
theorem dX1_freeze_78 : decode cX1_freeze 78 = .ok (.iconst 2, 1) := by decide +kernel
theorem dX1_freeze_79 : decode cX1_freeze 79 = .ok (.isub, 1) := by decide +kernel
theorem dX1_freeze_80 : decode cX1_freeze 80 = .ok (.invokestatic 70, 3) := by decide +kernel
theorem dX1_freeze_83 : decode cX1_freeze 83 = .ok (.iastore, 1) := by decide +kernel
theorem dX1_freeze_84 : decode cX1_freeze 84 = .ok (.iinc 2 1, 3) := by decide +kernel
theorem dX1_freeze_87 : decode cX1_freeze 87 = .ok (.goto (-75), 3) := by decide +kernel
theorem dX1_freeze_90 : decode cX1_freeze 90 = .ok (.return_, 1) := by decide +kernel
theorem dX1_thin_0 : decode cX1_thin 0 = .ok (.iconst 0, 1) := by decide +kernel
theorem dX1_thin_1 : decode cX1_thin 1 = .ok (.istore_n 2, 1) := by decide +kernel
theorem dX1_thin_2 : decode cX1_thin 2 = .ok (.iload_n 2, 1) := by decide +kernel
theorem dX1_thin_3 : decode cX1_thin 3 = .ok (.sipush 160, 3) := by decide +kernel
theorem dX1_thin_6 : decode cX1_thin 6 = .ok (.if_icmp .ge 38, 3) := by decide +kernel
theorem dX1_thin_9 : decode cX1_thin 9 = .ok (.aload_n 0, 1) := by decide +kernel
theorem dX1_thin_10 : decode cX1_thin 10 = .ok (.getfield 9, 3) := by decide +kernel
theorem dX1_thin_13 : decode cX1_thin 13 = .ok (.iload_n 2, 1) := by decide +kernel
theorem dX1_thin_14 : decode cX1_thin 14 = .ok (.iaload, 1) := by decide +kernel
theorem dX1_thin_15 : decode cX1_thin 15 = .ok (.ifCond .lt 23, 3) := by decide +kernel
theorem dX1_thin_18 : decode cX1_thin 18 = .ok (.aload_n 0, 1) := by decide +kernel
theorem dX1_thin_19 : decode cX1_thin 19 = .ok (.getfield 9, 3) := by decide +kernel
theorem dX1_thin_22 : decode cX1_thin 22 = .ok (.iload_n 2, 1) := by decide +kernel
theorem dX1_thin_23 : decode cX1_thin 23 = .ok (.iconst 0, 1) := by decide +kernel
theorem dX1_thin_24 : decode cX1_thin 24 = .ok (.aload_n 0, 1) := by decide +kernel
theorem dX1_thin_25 : decode cX1_thin 25 = .ok (.getfield 9, 3) := by decide +kernel
theorem dX1_thin_28 : decode cX1_thin 28 = .ok (.iload_n 2, 1) := by decide +kernel
theorem dX1_thin_29 : decode cX1_thin 29 = .ok (.iaload, 1) := by decide +kernel
theorem dX1_thin_30 : decode cX1_thin 30 = .ok (.iconst 3, 1) := by decide +kernel
theorem dX1_thin_31 : decode cX1_thin 31 = .ok (.iload_n 1, 1) := by decide +kernel
theorem dX1_thin_32 : decode cX1_thin 32 = .ok (.imul, 1) := by decide +kernel
theorem dX1_thin_33 : decode cX1_thin 33 = .ok (.isub, 1) := by decide +kernel
theorem dX1_thin_34 : decode cX1_thin 34 = .ok (.invokestatic 70, 3) := by decide +kernel
theorem dX1_thin_37 : decode cX1_thin 37 = .ok (.iastore, 1) := by decide +kernel
theorem dX1_thin_38 : decode cX1_thin 38 = .ok (.iinc 2 1, 3) := by decide +kernel
theorem dX1_thin_41 : decode cX1_thin 41 = .ok (.goto (-39), 3) := by decide +kernel
theorem dX1_thin_44 : decode cX1_thin 44 = .ok (.return_, 1) := by decide +kernel
theorem dX1_spreadCracks_0 : decode cX1_spreadCracks 0 = .ok (.iconst 0, 1) := by decide +kernel
theorem dX1_spreadCracks_1 : decode cX1_spreadCracks 1 = .ok (.istore_n 1, 1) := by decide +kernel
theorem dX1_spreadCracks_2 : decode cX1_spreadCracks 2 = .ok (.iload_n 1, 1) := by decide +kernel
theorem dX1_spreadCracks_3 : decode cX1_spreadCracks 3 = .ok (.sipush 160, 3) := by decide +kernel
theorem dX1_spreadCracks_6 : decode cX1_spreadCracks 6 = .ok (.if_icmp .ge 21, 3) := by decide +kernel
theorem dX1_spreadCracks_9 : decode cX1_spreadCracks 9 = .ok (.aload_n 0, 1) := by decide +kernel
theorem dX1_spreadCracks_10 : decode cX1_spreadCracks 10 = .ok (.getfield 25, 3) := by decide +kernel
theorem dX1_spreadCracks_13 : decode cX1_spreadCracks 13 = .ok (.iload_n 1, 1) := by decide +kernel
theorem dX1_spreadCracks_14 : decode cX1_spreadCracks 14 = .ok (.aload_n 0, 1) := by decide +kernel
theorem dX1_spreadCracks_15 : decode cX1_spreadCracks 15 = .ok (.getfield 21, 3) := by decide +kernel
theorem dX1_spreadCracks_18 : decode cX1_spreadCracks 18 = .ok (.iload_n 1, 1) := by decide +kernel
theorem dX1_spreadCracks_19 : decode cX1_spreadCracks 19 = .ok (.baload, 1) := by decide +kernel
theorem dX1_spreadCracks_20 : decode cX1_spreadCracks 20 = .ok (.bastore, 1) := by decide +kernel
theorem dX1_spreadCracks_21 : decode cX1_spreadCracks 21 = .ok (.iinc 1 1, 3) := by decide +kernel
theorem dX1_spreadCracks_24 : decode cX1_spreadCracks 24 = .ok (.goto (-22), 3) := by decide +kernel
theorem dX1_spreadCracks_27 : decode cX1_spreadCracks 27 = .ok (.iconst 0, 1) := by decide +kernel
theorem dX1_spreadCracks_28 : decode cX1_spreadCracks 28 = .ok (.istore_n 1, 1) := by decide +kernel
theorem dX1_spreadCracks_29 : decode cX1_spreadCracks 29 = .ok (.iload_n 1, 1) := by decide +kernel
theorem dX1_spreadCracks_30 : decode cX1_spreadCracks 30 = .ok (.sipush 160, 3) := by decide +kernel
theorem dX1_spreadCracks_33 : decode cX1_spreadCracks 33 = .ok (.if_icmp .ge 43, 3) := by decide +kernel
theorem dX1_spreadCracks_36 : decode cX1_spreadCracks 36 = .ok (.aload_n 0, 1) := by decide +kernel
theorem dX1_spreadCracks_37 : decode cX1_spreadCracks 37 = .ok (.getfield 9, 3) := by decide +kernel
theorem dX1_spreadCracks_40 : decode cX1_spreadCracks 40 = .ok (.iload_n 1, 1) := by decide +kernel
theorem dX1_spreadCracks_41 : decode cX1_spreadCracks 41 = .ok (.iaload, 1) := by decide +kernel
theorem dX1_spreadCracks_42 : decode cX1_spreadCracks 42 = .ok (.ifCond .lt 28, 3) := by decide +kernel
theorem dX1_spreadCracks_45 : decode cX1_spreadCracks 45 = .ok (.aload_n 0, 1) := by decide +kernel
theorem dX1_spreadCracks_46 : decode cX1_spreadCracks 46 = .ok (.getfield 18, 3) := by decide +kernel
theorem dX1_spreadCracks_49 : decode cX1_spreadCracks 49 = .ok (.iload_n 1, 1) := by decide +kernel
theorem dX1_spreadCracks_50 : decode cX1_spreadCracks 50 = .ok (.iaload, 1) := by decide +kernel
theorem dX1_spreadCracks_51 : decode cX1_spreadCracks 51 = .ok (.iconst 1, 1) := by decide +kernel
theorem dX1_spreadCracks_52 : decode cX1_spreadCracks 52 = .ok (.if_icmp .lt 18, 3) := by decide +kernel
theorem dX1_spreadCracks_55 : decode cX1_spreadCracks 55 = .ok (.aload_n 0, 1) := by decide +kernel
theorem dX1_spreadCracks_56 : decode cX1_spreadCracks 56 = .ok (.iload_n 1, 1) := by decide +kernel
theorem dX1_spreadCracks_57 : decode cX1_spreadCracks 57 = .ok (.invokevirtual 73, 3) := by decide +kernel
theorem dX1_spreadCracks_60 : decode cX1_spreadCracks 60 = .ok (.ifCond .eq 10, 3) := by decide +kernel
theorem dX1_spreadCracks_63 : decode cX1_spreadCracks 63 = .ok (.aload_n 0, 1) := by decide +kernel
theorem dX1_spreadCracks_64 : decode cX1_spreadCracks 64 = .ok (.getfield 21, 3) := by decide +kernel
theorem dX1_spreadCracks_67 : decode cX1_spreadCracks 67 = .ok (.iload_n 1, 1) := by decide +kernel
theorem dX1_spreadCracks_68 : decode cX1_spreadCracks 68 = .ok (.iconst 1, 1) := by decide +kernel
theorem dX1_spreadCracks_69 : decode cX1_spreadCracks 69 = .ok (.bastore, 1) := by decide +kernel
theorem dX1_spreadCracks_70 : decode cX1_spreadCracks 70 = .ok (.iinc 1 1, 3) := by decide +kernel
theorem dX1_spreadCracks_73 : decode cX1_spreadCracks 73 = .ok (.goto (-44), 3) := by decide +kernel
theorem dX1_spreadCracks_76 : decode cX1_spreadCracks 76 = .ok (.return_, 1) := by decide +kernel
theorem dX1_wasCrackedBeside_0 : decode cX1_wasCrackedBeside 0 = .ok (.iconst 0, 1) := by decide +kernel
theorem dX1_wasCrackedBeside_1 : decode cX1_wasCrackedBeside 1 = .ok (.istore_n 2, 1) := by decide +kernel
theorem dX1_wasCrackedBeside_2 : decode cX1_wasCrackedBeside 2 = .ok (.iload_n 2, 1) := by decide +kernel
theorem dX1_wasCrackedBeside_3 : decode cX1_wasCrackedBeside 3 = .ok (.iconst 4, 1) := by decide +kernel
theorem dX1_wasCrackedBeside_4 : decode cX1_wasCrackedBeside 4 = .ok (.if_icmp .ge 33, 3) := by decide +kernel
theorem dX1_wasCrackedBeside_7 : decode cX1_wasCrackedBeside 7 = .ok (.iload_n 1, 1) := by decide +kernel
theorem dX1_wasCrackedBeside_8 : decode cX1_wasCrackedBeside 8 = .ok (.iload_n 2, 1) := by decide +kernel
theorem dX1_wasCrackedBeside_9 : decode cX1_wasCrackedBeside 9 = .ok (.invokestatic 76, 3) := by decide +kernel
theorem dX1_wasCrackedBeside_12 : decode cX1_wasCrackedBeside 12 = .ok (.istore_n 3, 1) := by decide +kernel
theorem dX1_wasCrackedBeside_13 : decode cX1_wasCrackedBeside 13 = .ok (.iload_n 3, 1) := by decide +kernel
theorem dX1_wasCrackedBeside_14 : decode cX1_wasCrackedBeside 14 = .ok (.invokestatic 43, 3) := by decide +kernel
theorem dX1_wasCrackedBeside_17 : decode cX1_wasCrackedBeside 17 = .ok (.ifCond .eq 14, 3) := by decide +kernel
theorem dX1_wasCrackedBeside_20 : decode cX1_wasCrackedBeside 20 = .ok (.aload_n 0, 1) := by decide +kernel
theorem dX1_wasCrackedBeside_21 : decode cX1_wasCrackedBeside 21 = .ok (.getfield 25, 3) := by decide +kernel
theorem dX1_wasCrackedBeside_24 : decode cX1_wasCrackedBeside 24 = .ok (.iload_n 3, 1) := by decide +kernel
theorem dX1_wasCrackedBeside_25 : decode cX1_wasCrackedBeside 25 = .ok (.baload, 1) := by decide +kernel
theorem dX1_wasCrackedBeside_26 : decode cX1_wasCrackedBeside 26 = .ok (.ifCond .eq 5, 3) := by decide +kernel
theorem dX1_wasCrackedBeside_29 : decode cX1_wasCrackedBeside 29 = .ok (.iconst 1, 1) := by decide +kernel
theorem dX1_wasCrackedBeside_30 : decode cX1_wasCrackedBeside 30 = .ok (.ireturn, 1) := by decide +kernel
theorem dX1_wasCrackedBeside_31 : decode cX1_wasCrackedBeside 31 = .ok (.iinc 2 1, 3) := by decide +kernel
theorem dX1_wasCrackedBeside_34 : decode cX1_wasCrackedBeside 34 = .ok (.goto (-32), 3) := by decide +kernel
theorem dX1_wasCrackedBeside_37 : decode cX1_wasCrackedBeside 37 = .ok (.iconst 0, 1) := by decide +kernel
theorem dX1_wasCrackedBeside_38 : decode cX1_wasCrackedBeside 38 = .ok (.ireturn, 1) := by decide +kernel
theorem dX1_iceCells_0 : decode cX1_iceCells 0 = .ok (.iconst 0, 1) := by decide +kernel
theorem dX1_iceCells_1 : decode cX1_iceCells 1 = .ok (.istore_n 1, 1) := by decide +kernel
theorem dX1_iceCells_2 : decode cX1_iceCells 2 = .ok (.iconst 0, 1) := by decide +kernel
theorem dX1_iceCells_3 : decode cX1_iceCells 3 = .ok (.istore_n 2, 1) := by decide +kernel
theorem dX1_iceCells_4 : decode cX1_iceCells 4 = .ok (.iload_n 2, 1) := by decide +kernel
theorem dX1_iceCells_5 : decode cX1_iceCells 5 = .ok (.sipush 160, 3) := by decide +kernel
theorem dX1_iceCells_8 : decode cX1_iceCells 8 = .ok (.if_icmp .ge 26, 3) := by decide +kernel
theorem dX1_iceCells_11 : decode cX1_iceCells 11 = .ok (.iload_n 1, 1) := by decide +kernel
theorem dX1_iceCells_12 : decode cX1_iceCells 12 = .ok (.aload_n 0, 1) := by decide +kernel
theorem dX1_iceCells_13 : decode cX1_iceCells 13 = .ok (.getfield 9, 3) := by decide +kernel
theorem dX1_iceCells_16 : decode cX1_iceCells 16 = .ok (.iload_n 2, 1) := by decide +kernel
theorem dX1_iceCells_17 : decode cX1_iceCells 17 = .ok (.iaload, 1) := by decide +kernel
theorem dX1_iceCells_18 : decode cX1_iceCells 18 = .ok (.ifCond .lt 7, 3) := by decide +kernel
theorem dX1_iceCells_21 : decode cX1_iceCells 21 = .ok (.iconst 1, 1) := by decide +kernel
theorem dX1_iceCells_22 : decode cX1_iceCells 22 = .ok (.goto 4, 3) := by decide +kernel
theorem dX1_iceCells_25 : decode cX1_iceCells 25 = .ok (.iconst 0, 1) := by decide +kernel
theorem dX1_iceCells_26 : decode cX1_iceCells 26 = .ok (.iadd, 1) := by decide +kernel
theorem dX1_iceCells_27 : decode cX1_iceCells 27 = .ok (.istore_n 1, 1) := by decide +kernel
theorem dX1_iceCells_28 : decode cX1_iceCells 28 = .ok (.iinc 2 1, 3) := by decide +kernel
theorem dX1_iceCells_31 : decode cX1_iceCells 31 = .ok (.goto (-27), 3) := by decide +kernel
theorem dX1_iceCells_34 : decode cX1_iceCells 34 = .ok (.iload_n 1, 1) := by decide +kernel
theorem dX1_iceCells_35 : decode cX1_iceCells 35 = .ok (.ireturn, 1) := by decide +kernel
theorem dX1_crackedCells_0 : decode cX1_crackedCells 0 = .ok (.iconst 0, 1) := by decide +kernel
theorem dX1_crackedCells_1 : decode cX1_crackedCells 1 = .ok (.istore_n 1, 1) := by decide +kernel
theorem dX1_crackedCells_2 : decode cX1_crackedCells 2 = .ok (.iconst 0, 1) := by decide +kernel
theorem dX1_crackedCells_3 : decode cX1_crackedCells 3 = .ok (.istore_n 2, 1) := by decide +kernel
theorem dX1_crackedCells_4 : decode cX1_crackedCells 4 = .ok (.iload_n 2, 1) := by decide +kernel
theorem dX1_crackedCells_5 : decode cX1_crackedCells 5 = .ok (.sipush 160, 3) := by decide +kernel
theorem dX1_crackedCells_8 : decode cX1_crackedCells 8 = .ok (.if_icmp .ge 26, 3) := by decide +kernel
theorem dX1_crackedCells_11 : decode cX1_crackedCells 11 = .ok (.iload_n 1, 1) := by decide +kernel
theorem dX1_crackedCells_12 : decode cX1_crackedCells 12 = .ok (.aload_n 0, 1) := by decide +kernel
theorem dX1_crackedCells_13 : decode cX1_crackedCells 13 = .ok (.getfield 21, 3) := by decide +kernel
theorem dX1_crackedCells_16 : decode cX1_crackedCells 16 = .ok (.iload_n 2, 1) := by decide +kernel
theorem dX1_crackedCells_17 : decode cX1_crackedCells 17 = .ok (.baload, 1) := by decide +kernel
theorem dX1_crackedCells_18 : decode cX1_crackedCells 18 = .ok (.ifCond .eq 7, 3) := by decide +kernel
theorem dX1_crackedCells_21 : decode cX1_crackedCells 21 = .ok (.iconst 1, 1) := by decide +kernel
theorem dX1_crackedCells_22 : decode cX1_crackedCells 22 = .ok (.goto 4, 3) := by decide +kernel
theorem dX1_crackedCells_25 : decode cX1_crackedCells 25 = .ok (.iconst 0, 1) := by decide +kernel
theorem dX1_crackedCells_26 : decode cX1_crackedCells 26 = .ok (.iadd, 1) := by decide +kernel
theorem dX1_crackedCells_27 : decode cX1_crackedCells 27 = .ok (.istore_n 1, 1) := by decide +kernel
theorem dX1_crackedCells_28 : decode cX1_crackedCells 28 = .ok (.iinc 2 1, 3) := by decide +kernel
theorem dX1_crackedCells_31 : decode cX1_crackedCells 31 = .ok (.goto (-27), 3) := by decide +kernel
theorem dX1_crackedCells_34 : decode cX1_crackedCells 34 = .ok (.iload_n 1, 1) := by decide +kernel
theorem dX1_crackedCells_35 : decode cX1_crackedCells 35 = .ok (.ireturn, 1) := by decide +kernel
theorem dX1_allThickness_0 : decode cX1_allThickness 0 = .ok (.iconst 0, 1) := by decide +kernel
theorem dX1_allThickness_1 : decode cX1_allThickness 1 = .ok (.istore_n 1, 1) := by decide +kernel
theorem dX1_allThickness_2 : decode cX1_allThickness 2 = .ok (.iconst 0, 1) := by decide +kernel
theorem dX1_allThickness_3 : decode cX1_allThickness 3 = .ok (.istore_n 2, 1) := by decide +kernel
theorem dX1_allThickness_4 : decode cX1_allThickness 4 = .ok (.iload_n 2, 1) := by decide +kernel
theorem dX1_allThickness_5 : decode cX1_allThickness 5 = .ok (.sipush 160, 3) := by decide +kernel
theorem dX1_allThickness_8 : decode cX1_allThickness 8 = .ok (.if_icmp .ge 22, 3) := by decide +kernel
theorem dX1_allThickness_11 : decode cX1_allThickness 11 = .ok (.iload_n 1, 1) := by decide +kernel
theorem dX1_allThickness_12 : decode cX1_allThickness 12 = .ok (.iconst 0, 1) := by decide +kernel
theorem dX1_allThickness_13 : decode cX1_allThickness 13 = .ok (.aload_n 0, 1) := by decide +kernel
theorem dX1_allThickness_14 : decode cX1_allThickness 14 = .ok (.getfield 9, 3) := by decide +kernel
theorem dX1_allThickness_17 : decode cX1_allThickness 17 = .ok (.iload_n 2, 1) := by decide +kernel
theorem dX1_allThickness_18 : decode cX1_allThickness 18 = .ok (.iaload, 1) := by decide +kernel
theorem dX1_allThickness_19 : decode cX1_allThickness 19 = .ok (.invokestatic 70, 3) := by decide +kernel
theorem dX1_allThickness_22 : decode cX1_allThickness 22 = .ok (.iadd, 1) := by decide +kernel
theorem dX1_allThickness_23 : decode cX1_allThickness 23 = .ok (.istore_n 1, 1) := by decide +kernel
theorem dX1_allThickness_24 : decode cX1_allThickness 24 = .ok (.iinc 2 1, 3) := by decide +kernel
theorem dX1_allThickness_27 : decode cX1_allThickness 27 = .ok (.goto (-23), 3) := by decide +kernel
theorem dX1_allThickness_30 : decode cX1_allThickness 30 = .ok (.iload_n 1, 1) := by decide +kernel
theorem dX1_allThickness_31 : decode cX1_allThickness 31 = .ok (.ireturn, 1) := by decide +kernel
theorem dX1_digestInto_0 : decode cX1_digestInto 0 = .ok (.lload_n 1, 1) := by decide +kernel
theorem dX1_digestInto_1 : decode cX1_digestInto 1 = .ok (.lstore_n 3, 1) := by decide +kernel
theorem dX1_digestInto_2 : decode cX1_digestInto 2 = .ok (.iconst 0, 1) := by decide +kernel
theorem dX1_digestInto_3 : decode cX1_digestInto 3 = .ok (.istore 5, 2) := by decide +kernel
theorem dX1_digestInto_5 : decode cX1_digestInto 5 = .ok (.iload 5, 2) := by decide +kernel
theorem dX1_digestInto_7 : decode cX1_digestInto 7 = .ok (.bipush 8, 2) := by decide +kernel
theorem dX1_digestInto_9 : decode cX1_digestInto 9 = .ok (.if_icmp .ge 24, 3) := by decide +kernel
theorem dX1_digestInto_12 : decode cX1_digestInto 12 = .ok (.lload_n 3, 1) := by decide +kernel
theorem dX1_digestInto_13 : decode cX1_digestInto 13 = .ok (.ldc2_w 79, 3) := by decide +kernel
theorem dX1_digestInto_16 : decode cX1_digestInto 16 = .ok (.lmul, 1) := by decide +kernel
theorem dX1_digestInto_17 : decode cX1_digestInto 17 = .ok (.aload_n 0, 1) := by decide +kernel
theorem dX1_digestInto_18 : decode cX1_digestInto 18 = .ok (.getfield 28, 3) := by decide +kernel
theorem dX1_digestInto_21 : decode cX1_digestInto 21 = .ok (.iload 5, 2) := by decide +kernel
theorem dX1_digestInto_23 : decode cX1_digestInto 23 = .ok (.iaload, 1) := by decide +kernel
theorem dX1_digestInto_24 : decode cX1_digestInto 24 = .ok (.i2l, 1) := by decide +kernel
theorem dX1_digestInto_25 : decode cX1_digestInto 25 = .ok (.ladd, 1) := by decide +kernel
theorem dX1_digestInto_26 : decode cX1_digestInto 26 = .ok (.lstore_n 3, 1) := by decide +kernel
theorem dX1_digestInto_27 : decode cX1_digestInto 27 = .ok (.iinc 5 1, 3) := by decide +kernel
theorem dX1_digestInto_30 : decode cX1_digestInto 30 = .ok (.goto (-25), 3) := by decide +kernel
theorem dX1_digestInto_33 : decode cX1_digestInto 33 = .ok (.iconst 0, 1) := by decide +kernel
theorem dX1_digestInto_34 : decode cX1_digestInto 34 = .ok (.istore 5, 2) := by decide +kernel
theorem dX1_digestInto_36 : decode cX1_digestInto 36 = .ok (.iload 5, 2) := by decide +kernel
theorem dX1_digestInto_38 : decode cX1_digestInto 38 = .ok (.sipush 160, 3) := by decide +kernel
theorem dX1_digestInto_41 : decode cX1_digestInto 41 = .ok (.if_icmp .ge 77, 3) := by decide +kernel
theorem dX1_digestInto_44 : decode cX1_digestInto 44 = .ok (.lload_n 3, 1) := by decide +kernel
theorem dX1_digestInto_45 : decode cX1_digestInto 45 = .ok (.ldc2_w 79, 3) := by decide +kernel
theorem dX1_digestInto_48 : decode cX1_digestInto 48 = .ok (.lmul, 1) := by decide +kernel
theorem dX1_digestInto_49 : decode cX1_digestInto 49 = .ok (.aload_n 0, 1) := by decide +kernel
theorem dX1_digestInto_50 : decode cX1_digestInto 50 = .ok (.getfield 9, 3) := by decide +kernel
theorem dX1_digestInto_53 : decode cX1_digestInto 53 = .ok (.iload 5, 2) := by decide +kernel
theorem dX1_digestInto_55 : decode cX1_digestInto 55 = .ok (.iaload, 1) := by decide +kernel
theorem dX1_digestInto_56 : decode cX1_digestInto 56 = .ok (.i2l, 1) := by decide +kernel
theorem dX1_digestInto_57 : decode cX1_digestInto 57 = .ok (.ladd, 1) := by decide +kernel
theorem dX1_digestInto_58 : decode cX1_digestInto 58 = .ok (.lstore_n 3, 1) := by decide +kernel
theorem dX1_digestInto_59 : decode cX1_digestInto 59 = .ok (.lload_n 3, 1) := by decide +kernel
theorem dX1_digestInto_60 : decode cX1_digestInto 60 = .ok (.ldc2_w 79, 3) := by decide +kernel
theorem dX1_digestInto_63 : decode cX1_digestInto 63 = .ok (.lmul, 1) := by decide +kernel
theorem dX1_digestInto_64 : decode cX1_digestInto 64 = .ok (.aload_n 0, 1) := by decide +kernel
theorem dX1_digestInto_65 : decode cX1_digestInto 65 = .ok (.getfield 15, 3) := by decide +kernel
theorem dX1_digestInto_68 : decode cX1_digestInto 68 = .ok (.iload 5, 2) := by decide +kernel
theorem dX1_digestInto_70 : decode cX1_digestInto 70 = .ok (.iaload, 1) := by decide +kernel
theorem dX1_digestInto_71 : decode cX1_digestInto 71 = .ok (.i2l, 1) := by decide +kernel
theorem dX1_digestInto_72 : decode cX1_digestInto 72 = .ok (.ladd, 1) := by decide +kernel
theorem dX1_digestInto_73 : decode cX1_digestInto 73 = .ok (.lstore_n 3, 1) := by decide +kernel
theorem dX1_digestInto_74 : decode cX1_digestInto 74 = .ok (.lload_n 3, 1) := by decide +kernel
theorem dX1_digestInto_75 : decode cX1_digestInto 75 = .ok (.ldc2_w 79, 3) := by decide +kernel
theorem dX1_digestInto_78 : decode cX1_digestInto 78 = .ok (.lmul, 1) := by decide +kernel
theorem dX1_digestInto_79 : decode cX1_digestInto 79 = .ok (.aload_n 0, 1) := by decide +kernel
theorem dX1_digestInto_80 : decode cX1_digestInto 80 = .ok (.getfield 18, 3) := by decide +kernel
theorem dX1_digestInto_83 : decode cX1_digestInto 83 = .ok (.iload 5, 2) := by decide +kernel
theorem dX1_digestInto_85 : decode cX1_digestInto 85 = .ok (.iaload, 1) := by decide +kernel
theorem dX1_digestInto_86 : decode cX1_digestInto 86 = .ok (.i2l, 1) := by decide +kernel
theorem dX1_digestInto_87 : decode cX1_digestInto 87 = .ok (.ladd, 1) := by decide +kernel
theorem dX1_digestInto_88 : decode cX1_digestInto 88 = .ok (.lstore_n 3, 1) := by decide +kernel
theorem dX1_digestInto_89 : decode cX1_digestInto 89 = .ok (.lload_n 3, 1) := by decide +kernel
theorem dX1_digestInto_90 : decode cX1_digestInto 90 = .ok (.ldc2_w 79, 3) := by decide +kernel
theorem dX1_digestInto_93 : decode cX1_digestInto 93 = .ok (.lmul, 1) := by decide +kernel
theorem dX1_digestInto_94 : decode cX1_digestInto 94 = .ok (.aload_n 0, 1) := by decide +kernel
theorem dX1_digestInto_95 : decode cX1_digestInto 95 = .ok (.getfield 21, 3) := by decide +kernel
theorem dX1_digestInto_98 : decode cX1_digestInto 98 = .ok (.iload 5, 2) := by decide +kernel
theorem dX1_digestInto_100 : decode cX1_digestInto 100 = .ok (.baload, 1) := by decide +kernel
theorem dX1_digestInto_101 : decode cX1_digestInto 101 = .ok (.ifCond .eq 7, 3) := by decide +kernel
theorem dX1_digestInto_104 : decode cX1_digestInto 104 = .ok (.iconst 1, 1) := by decide +kernel
theorem dX1_digestInto_105 : decode cX1_digestInto 105 = .ok (.goto 4, 3) := by decide +kernel
theorem dX1_digestInto_108 : decode cX1_digestInto 108 = .ok (.iconst 0, 1) := by decide +kernel
theorem dX1_digestInto_109 : decode cX1_digestInto 109 = .ok (.i2l, 1) := by decide +kernel
theorem dX1_digestInto_110 : decode cX1_digestInto 110 = .ok (.ladd, 1) := by decide +kernel
theorem dX1_digestInto_111 : decode cX1_digestInto 111 = .ok (.lstore_n 3, 1) := by decide +kernel
theorem dX1_digestInto_112 : decode cX1_digestInto 112 = .ok (.iinc 5 1, 3) := by decide +kernel
theorem dX1_digestInto_115 : decode cX1_digestInto 115 = .ok (.goto (-79), 3) := by decide +kernel
theorem dX1_digestInto_118 : decode cX1_digestInto 118 = .ok (.lload_n 3, 1) := by decide +kernel
theorem dX1_digestInto_119 : decode cX1_digestInto 119 = .ok (.lreturn, 1) := by decide +kernel
theorem dX2_init_0 : decode cX2_init 0 = .ok (.aload_n 0, 1) := by decide +kernel
theorem dX2_init_1 : decode cX2_init 1 = .ok (.invokespecial 3, 3) := by decide +kernel
theorem dX2_init_4 : decode cX2_init 4 = .ok (.return_, 1) := by decide +kernel
theorem dX2_begin_0 : decode cX2_begin 0 = .ok (.aload_n 0, 1) := by decide +kernel
theorem dX2_begin_1 : decode cX2_begin 1 = .ok (.iload_n 3, 1) := by decide +kernel
theorem dX2_begin_2 : decode cX2_begin 2 = .ok (.putfield 9, 3) := by decide +kernel
theorem dX2_begin_5 : decode cX2_begin 5 = .ok (.aload_n 0, 1) := by decide +kernel
theorem dX2_begin_6 : decode cX2_begin 6 = .ok (.iconst 0, 1) := by decide +kernel
theorem dX2_begin_7 : decode cX2_begin 7 = .ok (.putfield 15, 3) := by decide +kernel
theorem dX2_begin_10 : decode cX2_begin 10 = .ok (.aload_n 0, 1) := by decide +kernel
theorem dX2_begin_11 : decode cX2_begin 11 = .ok (.iload_n 2, 1) := by decide +kernel
theorem dX2_begin_12 : decode cX2_begin 12 = .ok (.putfield 18, 3) := by decide +kernel
theorem dX2_begin_15 : decode cX2_begin 15 = .ok (.aload_n 0, 1) := by decide +kernel
theorem dX2_begin_16 : decode cX2_begin 16 = .ok (.iload_n 1, 1) := by decide +kernel
theorem dX2_begin_17 : decode cX2_begin 17 = .ok (.putfield 21, 3) := by decide +kernel
theorem dX2_begin_20 : decode cX2_begin 20 = .ok (.aload_n 0, 1) := by decide +kernel
theorem dX2_begin_21 : decode cX2_begin 21 = .ok (.iconst (-1), 1) := by decide +kernel
theorem dX2_begin_22 : decode cX2_begin 22 = .ok (.putfield 24, 3) := by decide +kernel
theorem dX2_begin_25 : decode cX2_begin 25 = .ok (.return_, 1) := by decide +kernel
theorem dX2_copySleigh_0 : decode cX2_copySleigh 0 = .ok (.aload_n 0, 1) := by decide +kernel
theorem dX2_copySleigh_1 : decode cX2_copySleigh 1 = .ok (.aload_n 1, 1) := by decide +kernel
theorem dX2_copySleigh_2 : decode cX2_copySleigh 2 = .ok (.getfield 9, 3) := by decide +kernel
theorem dX2_copySleigh_5 : decode cX2_copySleigh 5 = .ok (.putfield 9, 3) := by decide +kernel
theorem dX2_copySleigh_8 : decode cX2_copySleigh 8 = .ok (.aload_n 0, 1) := by decide +kernel
theorem dX2_copySleigh_9 : decode cX2_copySleigh 9 = .ok (.aload_n 1, 1) := by decide +kernel
theorem dX2_copySleigh_10 : decode cX2_copySleigh 10 = .ok (.getfield 27, 3) := by decide +kernel
theorem dX2_copySleigh_13 : decode cX2_copySleigh 13 = .ok (.putfield 27, 3) := by decide +kernel
theorem dX2_copySleigh_16 : decode cX2_copySleigh 16 = .ok (.aload_n 0, 1) := by decide +kernel
theorem dX2_copySleigh_17 : decode cX2_copySleigh 17 = .ok (.aload_n 1, 1) := by decide +kernel
theorem dX2_copySleigh_18 : decode cX2_copySleigh 18 = .ok (.getfield 30, 3) := by decide +kernel
theorem dX2_copySleigh_21 : decode cX2_copySleigh 21 = .ok (.putfield 30, 3) := by decide +kernel
theorem dX2_copySleigh_24 : decode cX2_copySleigh 24 = .ok (.aload_n 0, 1) := by decide +kernel
theorem dX2_copySleigh_25 : decode cX2_copySleigh 25 = .ok (.aload_n 1, 1) := by decide +kernel
theorem dX2_copySleigh_26 : decode cX2_copySleigh 26 = .ok (.getfield 15, 3) := by decide +kernel
theorem dX2_copySleigh_29 : decode cX2_copySleigh 29 = .ok (.putfield 15, 3) := by decide +kernel
theorem dX2_copySleigh_32 : decode cX2_copySleigh 32 = .ok (.aload_n 0, 1) := by decide +kernel
theorem dX2_copySleigh_33 : decode cX2_copySleigh 33 = .ok (.aload_n 1, 1) := by decide +kernel
theorem dX2_copySleigh_34 : decode cX2_copySleigh 34 = .ok (.getfield 18, 3) := by decide +kernel
theorem dX2_copySleigh_37 : decode cX2_copySleigh 37 = .ok (.putfield 18, 3) := by decide +kernel
theorem dX2_copySleigh_40 : decode cX2_copySleigh 40 = .ok (.aload_n 0, 1) := by decide +kernel
theorem dX2_copySleigh_41 : decode cX2_copySleigh 41 = .ok (.aload_n 1, 1) := by decide +kernel
theorem dX2_copySleigh_42 : decode cX2_copySleigh 42 = .ok (.getfield 21, 3) := by decide +kernel
theorem dX2_copySleigh_45 : decode cX2_copySleigh 45 = .ok (.putfield 21, 3) := by decide +kernel
theorem dX2_copySleigh_48 : decode cX2_copySleigh 48 = .ok (.aload_n 0, 1) := by decide +kernel
theorem dX2_copySleigh_49 : decode cX2_copySleigh 49 = .ok (.aload_n 1, 1) := by decide +kernel
theorem dX2_copySleigh_50 : decode cX2_copySleigh 50 = .ok (.getfield 24, 3) := by decide +kernel
theorem dX2_copySleigh_53 : decode cX2_copySleigh 53 = .ok (.putfield 24, 3) := by decide +kernel
theorem dX2_copySleigh_56 : decode cX2_copySleigh 56 = .ok (.aload_n 0, 1) := by decide +kernel
theorem dX2_copySleigh_57 : decode cX2_copySleigh 57 = .ok (.aload_n 1, 1) := by decide +kernel
theorem dX2_copySleigh_58 : decode cX2_copySleigh 58 = .ok (.getfield 33, 3) := by decide +kernel
theorem dX2_copySleigh_61 : decode cX2_copySleigh 61 = .ok (.putfield 33, 3) := by decide +kernel
theorem dX2_copySleigh_64 : decode cX2_copySleigh 64 = .ok (.aload_n 0, 1) := by decide +kernel
theorem dX2_copySleigh_65 : decode cX2_copySleigh 65 = .ok (.iconst (-1), 1) := by decide +kernel
theorem dX2_copySleigh_66 : decode cX2_copySleigh 66 = .ok (.putfield 36, 3) := by decide +kernel
theorem dX2_copySleigh_69 : decode cX2_copySleigh 69 = .ok (.return_, 1) := by decide +kernel
theorem dX2_weight_0 : decode cX2_weight 0 = .ok (.bipush 40, 2) := by decide +kernel
theorem dX2_weight_2 : decode cX2_weight 2 = .ok (.bipush 30, 2) := by decide +kernel
theorem dX2_weight_4 : decode cX2_weight 4 = .ok (.aload_n 0, 1) := by decide +kernel
theorem dX2_weight_5 : decode cX2_weight 5 = .ok (.getfield 9, 3) := by decide +kernel
theorem dX2_weight_8 : decode cX2_weight 8 = .ok (.imul, 1) := by decide +kernel
theorem dX2_weight_9 : decode cX2_weight 9 = .ok (.iadd, 1) := by decide +kernel
theorem dX2_weight_10 : decode cX2_weight 10 = .ok (.aload_n 0, 1) := by decide +kernel
theorem dX2_weight_11 : decode cX2_weight 11 = .ok (.getfield 27, 3) := by decide +kernel
theorem dX2_weight_14 : decode cX2_weight 14 = .ok (.iadd, 1) := by decide +kernel
theorem dX2_weight_15 : decode cX2_weight 15 = .ok (.ireturn, 1) := by decide +kernel
theorem dX2_need_0 : decode cX2_need 0 = .ok (.aload_n 0, 1) := by decide +kernel
theorem dX2_need_1 : decode cX2_need 1 = .ok (.invokevirtual 39, 3) := by decide +kernel
theorem dX2_need_4 : decode cX2_need 4 = .ok (.invokestatic 43, 3) := by decide +kernel
theorem dX2_need_7 : decode cX2_need 7 = .ok (.ireturn, 1) := by decide +kernel
theorem dX2_ownDrag_0 : decode cX2_ownDrag 0 = .ok (.aload_n 0, 1) := by decide +kernel
theorem dX2_ownDrag_1 : decode cX2_ownDrag 1 = .ok (.invokevirtual 39, 3) := by decide +kernel
theorem dX2_ownDrag_4 : decode cX2_ownDrag 4 = .ok (.aload_n 0, 1) := by decide +kernel
theorem dX2_ownDrag_5 : decode cX2_ownDrag 5 = .ok (.getfield 9, 3) := by decide +kernel
theorem dX2_ownDrag_8 : decode cX2_ownDrag 8 = .ok (.aload_n 0, 1) := by decide +kernel
theorem dX2_ownDrag_9 : decode cX2_ownDrag 9 = .ok (.getfield 30, 3) := by decide +kernel
theorem dX2_ownDrag_12 : decode cX2_ownDrag 12 = .ok (.invokestatic 47, 3) := by decide +kernel
theorem dX2_ownDrag_15 : decode cX2_ownDrag 15 = .ok (.ireturn, 1) := by decide +kernel
theorem dX2_depart_0 : decode cX2_depart 0 = .ok (.aload_n 0, 1) := by decide +kernel
theorem dX2_depart_1 : decode cX2_depart 1 = .ok (.iconst 1, 1) := by decide +kernel
theorem dX2_depart_2 : decode cX2_depart 2 = .ok (.putfield 15, 3) := by decide +kernel
theorem dX2_depart_5 : decode cX2_depart 5 = .ok (.aload_n 0, 1) := by decide +kernel
theorem dX2_depart_6 : decode cX2_depart 6 = .ok (.iload_n 1, 1) := by decide +kernel
theorem dX2_depart_7 : decode cX2_depart 7 = .ok (.putfield 21, 3) := by decide +kernel
theorem dX2_depart_10 : decode cX2_depart 10 = .ok (.aload_n 0, 1) := by decide +kernel
theorem dX2_depart_11 : decode cX2_depart 11 = .ok (.iconst (-1), 1) := by decide +kernel
theorem dX2_depart_12 : decode cX2_depart 12 = .ok (.putfield 36, 3) := by decide +kernel
theorem dX2_depart_15 : decode cX2_depart 15 = .ok (.return_, 1) := by decide +kernel
theorem dX2_isBetween_0 : decode cX2_isBetween 0 = .ok (.aload_n 0, 1) := by decide +kernel
theorem dX2_isBetween_1 : decode cX2_isBetween 1 = .ok (.getfield 15, 3) := by decide +kernel
theorem dX2_isBetween_4 : decode cX2_isBetween 4 = .ok (.iconst 1, 1) := by decide +kernel
theorem dX2_isBetween_5 : decode cX2_isBetween 5 = .ok (.if_icmp .ne 14, 3) := by decide +kernel
theorem dX2_isBetween_8 : decode cX2_isBetween 8 = .ok (.aload_n 0, 1) := by decide +kernel
theorem dX2_isBetween_9 : decode cX2_isBetween 9 = .ok (.getfield 33, 3) := by decide +kernel
theorem dX2_isBetween_12 : decode cX2_isBetween 12 = .ok (.ifCond .le 7, 3) := by decide +kernel
theorem dX2_isBetween_15 : decode cX2_isBetween 15 = .ok (.iconst 1, 1) := by decide +kernel
theorem dX2_isBetween_16 : decode cX2_isBetween 16 = .ok (.goto 4, 3) := by decide +kernel
theorem dX2_isBetween_19 : decode cX2_isBetween 19 = .ok (.iconst 0, 1) := by decide +kernel
theorem dX2_isBetween_20 : decode cX2_isBetween 20 = .ok (.ireturn, 1) := by decide +kernel
theorem dX2_sink_0 : decode cX2_sink 0 = .ok (.aload_n 0, 1) := by decide +kernel
theorem dX2_sink_1 : decode cX2_sink 1 = .ok (.iconst 2, 1) := by decide +kernel
theorem dX2_sink_2 : decode cX2_sink 2 = .ok (.putfield 15, 3) := by decide +kernel
theorem dX2_sink_5 : decode cX2_sink 5 = .ok (.aload_n 0, 1) := by decide +kernel
theorem dX2_sink_6 : decode cX2_sink 6 = .ok (.iconst 0, 1) := by decide +kernel
theorem dX2_sink_7 : decode cX2_sink 7 = .ok (.putfield 27, 3) := by decide +kernel
theorem dX2_sink_10 : decode cX2_sink 10 = .ok (.aload_n 0, 1) := by decide +kernel
theorem dX2_sink_11 : decode cX2_sink 11 = .ok (.iconst (-1), 1) := by decide +kernel
theorem dX2_sink_12 : decode cX2_sink 12 = .ok (.putfield 21, 3) := by decide +kernel
theorem dX2_sink_15 : decode cX2_sink 15 = .ok (.aload_n 0, 1) := by decide +kernel
theorem dX2_sink_16 : decode cX2_sink 16 = .ok (.iconst (-1), 1) := by decide +kernel
theorem dX2_sink_17 : decode cX2_sink 17 = .ok (.putfield 24, 3) := by decide +kernel
theorem dX2_sink_20 : decode cX2_sink 20 = .ok (.aload_n 0, 1) := by decide +kernel
theorem dX2_sink_21 : decode cX2_sink 21 = .ok (.iconst 0, 1) := by decide +kernel
theorem dX2_sink_22 : decode cX2_sink 22 = .ok (.putfield 33, 3) := by decide +kernel
theorem dX2_sink_25 : decode cX2_sink 25 = .ok (.return_, 1) := by decide +kernel
theorem dX2_beginToGo_0 : decode cX2_beginToGo 0 = .ok (.aload_n 0, 1) := by decide +kernel
theorem dX2_beginToGo_1 : decode cX2_beginToGo 1 = .ok (.iload_n 1, 1) := by decide +kernel
theorem dX2_beginToGo_2 : decode cX2_beginToGo 2 = .ok (.putfield 24, 3) := by decide +kernel
theorem dX2_beginToGo_5 : decode cX2_beginToGo 5 = .ok (.aload_n 0, 1) := by decide +kernel
theorem dX2_beginToGo_6 : decode cX2_beginToGo 6 = .ok (.iload_n 2, 1) := by decide +kernel
theorem dX2_beginToGo_7 : decode cX2_beginToGo 7 = .ok (.putfield 33, 3) := by decide +kernel
theorem dX2_beginToGo_10 : decode cX2_beginToGo 10 = .ok (.return_, 1) := by decide +kernel
theorem dX2_comesOn_0 : decode cX2_comesOn 0 = .ok (.aload_n 0, 1) := by decide +kernel
theorem dX2_comesOn_1 : decode cX2_comesOn 1 = .ok (.dup, 1) := by decide +kernel
theorem dX2_comesOn_2 : decode cX2_comesOn 2 = .ok (.getfield 33, 3) := by decide +kernel
theorem dX2_comesOn_5 : decode cX2_comesOn 5 = .ok (.iconst 1, 1) := by decide +kernel
theorem dX2_comesOn_6 : decode cX2_comesOn 6 = .ok (.isub, 1) := by decide +kernel
theorem dX2_comesOn_7 : decode cX2_comesOn 7 = .ok (.putfield 33, 3) := by decide +kernel
theorem dX2_comesOn_10 : decode cX2_comesOn 10 = .ok (.aload_n 0, 1) := by decide +kernel
theorem dX2_comesOn_11 : decode cX2_comesOn 11 = .ok (.getfield 33, 3) := by decide +kernel
theorem dX2_comesOn_14 : decode cX2_comesOn 14 = .ok (.ifCond .le 5, 3) := by decide +kernel
theorem dX2_comesOn_17 : decode cX2_comesOn 17 = .ok (.iconst 0, 1) := by decide +kernel
theorem dX2_comesOn_18 : decode cX2_comesOn 18 = .ok (.ireturn, 1) := by decide +kernel
theorem dX2_comesOn_19 : decode cX2_comesOn 19 = .ok (.aload_n 0, 1) := by decide +kernel
theorem dX2_comesOn_20 : decode cX2_comesOn 20 = .ok (.aload_n 0, 1) := by decide +kernel
theorem dX2_comesOn_21 : decode cX2_comesOn 21 = .ok (.getfield 24, 3) := by decide +kernel
theorem dX2_comesOn_24 : decode cX2_comesOn 24 = .ok (.putfield 18, 3) := by decide +kernel
theorem dX2_comesOn_27 : decode cX2_comesOn 27 = .ok (.aload_n 0, 1) := by decide +kernel
theorem dX2_comesOn_28 : decode cX2_comesOn 28 = .ok (.iconst (-1), 1) := by decide +kernel
theorem dX2_comesOn_29 : decode cX2_comesOn 29 = .ok (.putfield 24, 3) := by decide +kernel
theorem dX2_comesOn_32 : decode cX2_comesOn 32 = .ok (.aload_n 0, 1) := by decide +kernel
theorem dX2_comesOn_33 : decode cX2_comesOn 33 = .ok (.bipush 100, 2) := by decide +kernel
theorem dX2_comesOn_35 : decode cX2_comesOn 35 = .ok (.aload_n 0, 1) := by decide +kernel
theorem dX2_comesOn_36 : decode cX2_comesOn 36 = .ok (.getfield 30, 3) := by decide +kernel
theorem dX2_comesOn_39 : decode cX2_comesOn 39 = .ok (.iconst 1, 1) := by decide +kernel
theorem dX2_comesOn_40 : decode cX2_comesOn 40 = .ok (.iadd, 1) := by decide +kernel
theorem dX2_comesOn_41 : decode cX2_comesOn 41 = .ok (.invokestatic 51, 3) := by decide +kernel
theorem dX2_comesOn_44 : decode cX2_comesOn 44 = .ok (.putfield 30, 3) := by decide +kernel
theorem dX2_comesOn_47 : decode cX2_comesOn 47 = .ok (.iconst 1, 1) := by decide +kernel
theorem dX2_comesOn_48 : decode cX2_comesOn 48 = .ok (.ireturn, 1) := by decide +kernel
theorem dX2_restAtGoal_0 : decode cX2_restAtGoal 0 = .ok (.aload_n 0, 1) := by decide +kernel
theorem dX2_restAtGoal_1 : decode cX2_restAtGoal 1 = .ok (.iconst 0, 1) := by decide +kernel
theorem dX2_restAtGoal_2 : decode cX2_restAtGoal 2 = .ok (.putfield 15, 3) := by decide +kernel
theorem dX2_restAtGoal_5 : decode cX2_restAtGoal 5 = .ok (.aload_n 0, 1) := by decide +kernel
theorem dX2_restAtGoal_6 : decode cX2_restAtGoal 6 = .ok (.iconst 0, 1) := by decide +kernel
theorem dX2_restAtGoal_7 : decode cX2_restAtGoal 7 = .ok (.putfield 27, 3) := by decide +kernel
theorem dX2_restAtGoal_10 : decode cX2_restAtGoal 10 = .ok (.return_, 1) := by decide +kernel
theorem dX2_recover_0 : decode cX2_recover 0 = .ok (.aload_n 0, 1) := by decide +kernel
theorem dX2_recover_1 : decode cX2_recover 1 = .ok (.iconst 0, 1) := by decide +kernel
theorem dX2_recover_2 : decode cX2_recover 2 = .ok (.aload_n 0, 1) := by decide +kernel
theorem dX2_recover_3 : decode cX2_recover 3 = .ok (.getfield 30, 3) := by decide +kernel
theorem dX2_recover_6 : decode cX2_recover 6 = .ok (.iconst 2, 1) := by decide +kernel
theorem dX2_recover_7 : decode cX2_recover 7 = .ok (.isub, 1) := by decide +kernel
theorem dX2_recover_8 : decode cX2_recover 8 = .ok (.invokestatic 57, 3) := by decide +kernel
theorem dX2_recover_11 : decode cX2_recover 11 = .ok (.putfield 30, 3) := by decide +kernel
theorem dX2_recover_14 : decode cX2_recover 14 = .ok (.return_, 1) := by decide +kernel
theorem dX3_init_0 : decode cX3_init 0 = .ok (.aload_n 0, 1) := by decide +kernel
theorem dX3_init_1 : decode cX3_init 1 = .ok (.invokespecial 3, 3) := by decide +kernel
theorem dX3_init_4 : decode cX3_init 4 = .ok (.aload_n 0, 1) := by decide +kernel
theorem dX3_init_5 : decode cX3_init 5 = .ok (.sipush 160, 3) := by decide +kernel
theorem dX3_init_8 : decode cX3_init 8 = .ok (.newarray .int, 2) := by decide +kernel
theorem dX3_init_10 : decode cX3_init 10 = .ok (.putfield 9, 3) := by decide +kernel
theorem dX3_init_13 : decode cX3_init 13 = .ok (.aload_n 0, 1) := by decide +kernel
theorem dX3_init_14 : decode cX3_init 14 = .ok (.bipush 64, 2) := by decide +kernel
theorem dX3_init_16 : decode cX3_init 16 = .ok (.newarray .int, 2) := by decide +kernel
theorem dX3_init_18 : decode cX3_init 18 = .ok (.putfield 15, 3) := by decide +kernel
theorem dX3_init_21 : decode cX3_init 21 = .ok (.aload_n 0, 1) := by decide +kernel
theorem dX3_init_22 : decode cX3_init 22 = .ok (.sipush 160, 3) := by decide +kernel
theorem dX3_init_25 : decode cX3_init 25 = .ok (.newarray .int, 2) := by decide +kernel
theorem dX3_init_27 : decode cX3_init 27 = .ok (.putfield 18, 3) := by decide +kernel
theorem dX3_init_30 : decode cX3_init 30 = .ok (.return_, 1) := by decide +kernel
theorem dX3_look_0 : decode cX3_look 0 = .ok (.aload_n 0, 1) := by decide +kernel
theorem dX3_look_1 : decode cX3_look 1 = .ok (.aload_n 1, 1) := by decide +kernel
theorem dX3_look_2 : decode cX3_look 2 = .ok (.putfield 21, 3) := by decide +kernel
theorem dX3_look_5 : decode cX3_look 5 = .ok (.aload_n 0, 1) := by decide +kernel
theorem dX3_look_6 : decode cX3_look 6 = .ok (.iload 4, 2) := by decide +kernel
theorem dX3_look_8 : decode cX3_look 8 = .ok (.putfield 25, 3) := by decide +kernel
theorem dX3_look_11 : decode cX3_look 11 = .ok (.aload_n 0, 1) := by decide +kernel
theorem dX3_look_12 : decode cX3_look 12 = .ok (.iload 5, 2) := by decide +kernel
theorem dX3_look_14 : decode cX3_look 14 = .ok (.putfield 29, 3) := by decide +kernel
theorem dX3_look_17 : decode cX3_look 17 = .ok (.aload_n 0, 1) := by decide +kernel
theorem dX3_look_18 : decode cX3_look 18 = .ok (.iconst 0, 1) := by decide +kernel
theorem dX3_look_19 : decode cX3_look 19 = .ok (.putfield 32, 3) := by decide +kernel
theorem dX3_look_22 : decode cX3_look 22 = .ok (.aload_n 0, 1) := by decide +kernel
theorem dX3_look_23 : decode cX3_look 23 = .ok (.getfield 9, 3) := by decide +kernel
theorem dX3_look_26 : decode cX3_look 26 = .ok (.iconst (-1), 1) := by decide +kernel
theorem dX3_look_27 : decode cX3_look 27 = .ok (.invokestatic 35, 3) := by decide +kernel
theorem dX3_look_30 : decode cX3_look 30 = .ok (.aload_n 0, 1) := by decide +kernel
theorem dX3_look_31 : decode cX3_look 31 = .ok (.getfield 15, 3) := by decide +kernel
theorem dX3_look_34 : decode cX3_look 34 = .ok (.iconst (-1), 1) := by decide +kernel
theorem dX3_look_35 : decode cX3_look 35 = .ok (.invokestatic 35, 3) := by decide +kernel
theorem dX3_look_38 : decode cX3_look 38 = .ok (.aload_n 0, 1) := by decide +kernel
theorem dX3_look_39 : decode cX3_look 39 = .ok (.iload_n 3, 1) := by decide +kernel
theorem dX3_look_40 : decode cX3_look 40 = .ok (.iconst 0, 1) := by decide +kernel
theorem dX3_look_41 : decode cX3_look 41 = .ok (.invokevirtual 41, 3) := by decide +kernel
theorem dX3_look_44 : decode cX3_look 44 = .ok (.iload_n 2, 1) := by decide +kernel
theorem dX3_look_45 : decode cX3_look 45 = .ok (.invokestatic 45, 3) := by decide +kernel
theorem dX3_look_48 : decode cX3_look 48 = .ok (.ifCond .ne 5, 3) := by decide +kernel
theorem dX3_look_51 : decode cX3_look 51 = .ok (.iconst (-1), 1) := by decide +kernel
theorem dX3_look_52 : decode cX3_look 52 = .ok (.ireturn, 1) := by decide +kernel
theorem dX3_look_53 : decode cX3_look 53 = .ok (.iconst 0, 1) := by decide +kernel
theorem dX3_look_54 : decode cX3_look 54 = .ok (.istore 6, 2) := by decide +kernel
theorem dX3_look_56 : decode cX3_look 56 = .ok (.iload 6, 2) := by decide +kernel
theorem dX3_look_58 : decode cX3_look 58 = .ok (.sipush 10240, 3) := by decide +kernel
theorem dX3_look_61 : decode cX3_look 61 = .ok (.if_icmp .ge 32, 3) := by decide +kernel
theorem dX3_look_64 : decode cX3_look 64 = .ok (.aload_n 0, 1) := by decide +kernel
theorem dX3_look_65 : decode cX3_look 65 = .ok (.getfield 32, 3) := by decide +kernel
theorem dX3_look_68 : decode cX3_look 68 = .ok (.ifCond .le 25, 3) := by decide +kernel
theorem dX3_look_71 : decode cX3_look 71 = .ok (.aload_n 0, 1) := by decide +kernel
theorem dX3_look_72 : decode cX3_look 72 = .ok (.getfield 9, 3) := by decide +kernel
theorem dX3_look_75 : decode cX3_look 75 = .ok (.iload_n 2, 1) := by decide +kernel
theorem dX3_look_76 : decode cX3_look 76 = .ok (.iaload, 1) := by decide +kernel
theorem dX3_look_77 : decode cX3_look 77 = .ok (.iconst (-1), 1) := by decide +kernel
theorem dX3_look_78 : decode cX3_look 78 = .ok (.if_icmp .ne 15, 3) := by decide +kernel
theorem dX3_look_81 : decode cX3_look 81 = .ok (.aload_n 0, 1) := by decide +kernel
theorem dX3_look_82 : decode cX3_look 82 = .ok (.iload 6, 2) := by decide +kernel
theorem dX3_look_84 : decode cX3_look 84 = .ok (.invokevirtual 49, 3) := by decide +kernel
theorem dX3_look_87 : decode cX3_look 87 = .ok (.iinc 6 1, 3) := by decide +kernel
theorem dX3_look_90 : decode cX3_look 90 = .ok (.goto (-34), 3) := by decide +kernel
theorem dX3_look_93 : decode cX3_look 93 = .ok (.aload_n 0, 1) := by decide +kernel
theorem dX3_look_94 : decode cX3_look 94 = .ok (.getfield 9, 3) := by decide +kernel
theorem dX3_look_97 : decode cX3_look 97 = .ok (.iload_n 2, 1) := by decide +kernel
theorem dX3_look_98 : decode cX3_look 98 = .ok (.iaload, 1) := by decide +kernel
theorem dX3_look_99 : decode cX3_look 99 = .ok (.ireturn, 1) := by decide +kernel
theorem dX3_firstFrom_0 : decode cX3_firstFrom 0 = .ok (.iload_n 1, 1) := by decide +kernel
theorem dX3_firstFrom_1 : decode cX3_firstFrom 1 = .ok (.invokestatic 45, 3) := by decide +kernel
theorem dX3_firstFrom_4 : decode cX3_firstFrom 4 = .ok (.ifCond .eq 20, 3) := by decide +kernel
theorem dX3_firstFrom_7 : decode cX3_firstFrom 7 = .ok (.aload_n 0, 1) := by decide +kernel
theorem dX3_firstFrom_8 : decode cX3_firstFrom 8 = .ok (.getfield 21, 3) := by decide +kernel
theorem dX3_firstFrom_11 : decode cX3_firstFrom 11 = .ok (.ifnull 13, 3) := by decide +kernel
theorem dX3_firstFrom_14 : decode cX3_firstFrom 14 = .ok (.aload_n 0, 1) := by decide +kernel
theorem dX3_firstFrom_15 : decode cX3_firstFrom 15 = .ok (.getfield 9, 3) := by decide +kernel
theorem dX3_firstFrom_18 : decode cX3_firstFrom 18 = .ok (.iload_n 1, 1) := by decide +kernel
theorem dX3_firstFrom_19 : decode cX3_firstFrom 19 = .ok (.iaload, 1) := by decide +kernel
theorem dX3_firstFrom_20 : decode cX3_firstFrom 20 = .ok (.iconst (-1), 1) := by decide +kernel
theorem dX3_firstFrom_21 : decode cX3_firstFrom 21 = .ok (.if_icmp .ne 5, 3) := by decide +kernel
theorem dX3_firstFrom_24 : decode cX3_firstFrom 24 = .ok (.iconst (-1), 1) := by decide +kernel
theorem dX3_firstFrom_25 : decode cX3_firstFrom 25 = .ok (.ireturn, 1) := by decide +kernel
theorem dX3_firstFrom_26 : decode cX3_firstFrom 26 = .ok (.iconst 0, 1) := by decide +kernel
theorem dX3_firstFrom_27 : decode cX3_firstFrom 27 = .ok (.istore_n 2, 1) := by decide +kernel
theorem dX3_firstFrom_28 : decode cX3_firstFrom 28 = .ok (.iload_n 2, 1) := by decide +kernel
theorem dX3_firstFrom_29 : decode cX3_firstFrom 29 = .ok (.iconst 4, 1) := by decide +kernel
theorem dX3_firstFrom_30 : decode cX3_firstFrom 30 = .ok (.if_icmp .ge 78, 3) := by decide +kernel
theorem dX3_firstFrom_33 : decode cX3_firstFrom 33 = .ok (.iload_n 1, 1) := by decide +kernel
theorem dX3_firstFrom_34 : decode cX3_firstFrom 34 = .ok (.iload_n 2, 1) := by decide +kernel
theorem dX3_firstFrom_35 : decode cX3_firstFrom 35 = .ok (.invokestatic 53, 3) := by decide +kernel
theorem dX3_firstFrom_38 : decode cX3_firstFrom 38 = .ok (.istore_n 3, 1) := by decide +kernel
theorem dX3_firstFrom_39 : decode cX3_firstFrom 39 = .ok (.iload_n 3, 1) := by decide +kernel
theorem dX3_firstFrom_40 : decode cX3_firstFrom 40 = .ok (.invokestatic 45, 3) := by decide +kernel
theorem dX3_firstFrom_43 : decode cX3_firstFrom 43 = .ok (.ifCond .eq 59, 3) := by decide +kernel
theorem dX3_firstFrom_46 : decode cX3_firstFrom 46 = .ok (.aload_n 0, 1) := by decide +kernel
theorem dX3_firstFrom_47 : decode cX3_firstFrom 47 = .ok (.getfield 9, 3) := by decide +kernel
theorem dX3_firstFrom_50 : decode cX3_firstFrom 50 = .ok (.iload_n 3, 1) := by decide +kernel
theorem dX3_firstFrom_51 : decode cX3_firstFrom 51 = .ok (.iaload, 1) := by decide +kernel
theorem dX3_firstFrom_52 : decode cX3_firstFrom 52 = .ok (.iconst (-1), 1) := by decide +kernel
theorem dX3_firstFrom_53 : decode cX3_firstFrom 53 = .ok (.if_icmp .eq 49, 3) := by decide +kernel
theorem dX3_firstFrom_56 : decode cX3_firstFrom 56 = .ok (.aload_n 0, 1) := by decide +kernel
theorem dX3_firstFrom_57 : decode cX3_firstFrom 57 = .ok (.getfield 21, 3) := by decide +kernel
theorem dX3_firstFrom_60 : decode cX3_firstFrom 60 = .ok (.iload_n 3, 1) := by decide +kernel
theorem dX3_firstFrom_61 : decode cX3_firstFrom 61 = .ok (.aload_n 0, 1) := by decide +kernel
theorem dX3_firstFrom_62 : decode cX3_firstFrom 62 = .ok (.getfield 25, 3) := by decide +kernel
theorem dX3_firstFrom_65 : decode cX3_firstFrom 65 = .ok (.invokevirtual 57, 3) := by decide +kernel
theorem dX3_firstFrom_68 : decode cX3_firstFrom 68 = .ok (.ifCond .eq 34, 3) := by decide +kernel
theorem dX3_firstFrom_71 : decode cX3_firstFrom 71 = .ok (.aload_n 0, 1) := by decide +kernel
theorem dX3_firstFrom_72 : decode cX3_firstFrom 72 = .ok (.getfield 9, 3) := by decide +kernel
theorem dX3_firstFrom_75 : decode cX3_firstFrom 75 = .ok (.iload_n 3, 1) := by decide +kernel
theorem dX3_firstFrom_76 : decode cX3_firstFrom 76 = .ok (.iaload, 1) := by decide +kernel
theorem dX3_firstFrom_77 : decode cX3_firstFrom 77 = .ok (.aload_n 0, 1) := by decide +kernel
theorem dX3_firstFrom_78 : decode cX3_firstFrom 78 = .ok (.getfield 21, 3) := by decide +kernel
theorem dX3_firstFrom_81 : decode cX3_firstFrom 81 = .ok (.iload_n 3, 1) := by decide +kernel
theorem dX3_firstFrom_82 : decode cX3_firstFrom 82 = .ok (.invokevirtual 63, 3) := by decide +kernel
theorem dX3_firstFrom_85 : decode cX3_firstFrom 85 = .ok (.iadd, 1) := by decide +kernel
theorem dX3_firstFrom_86 : decode cX3_firstFrom 86 = .ok (.aload_n 0, 1) := by decide +kernel
theorem dX3_firstFrom_87 : decode cX3_firstFrom 87 = .ok (.getfield 29, 3) := by decide +kernel
theorem dX3_firstFrom_90 : decode cX3_firstFrom 90 = .ok (.iadd, 1) := by decide +kernel
theorem dX3_firstFrom_91 : decode cX3_firstFrom 91 = .ok (.aload_n 0, 1) := by decide +kernel
theorem dX3_firstFrom_92 : decode cX3_firstFrom 92 = .ok (.getfield 9, 3) := by decide +kernel
theorem dX3_firstFrom_95 : decode cX3_firstFrom 95 = .ok (.iload_n 1, 1) := by decide +kernel
theorem dX3_firstFrom_96 : decode cX3_firstFrom 96 = .ok (.iaload, 1) := by decide +kernel
theorem dX3_firstFrom_97 : decode cX3_firstFrom 97 = .ok (.if_icmp .ne 5, 3) := by decide +kernel
theorem dX3_firstFrom_100 : decode cX3_firstFrom 100 = .ok (.iload_n 3, 1) := by decide +kernel
theorem dX3_firstFrom_101 : decode cX3_firstFrom 101 = .ok (.ireturn, 1) := by decide +kernel
theorem dX3_firstFrom_102 : decode cX3_firstFrom 102 = .ok (.iinc 2 1, 3) := by decide +kernel
theorem dX3_firstFrom_105 : decode cX3_firstFrom 105 = .ok (.goto (-77), 3) := by decide +kernel
theorem dX3_firstFrom_108 : decode cX3_firstFrom 108 = .ok (.iconst (-1), 1) := by decide +kernel
theorem dX3_firstFrom_109 : decode cX3_firstFrom 109 = .ok (.ireturn, 1) := by decide +kernel
theorem dX3_reach_0 : decode cX3_reach 0 = .ok (.iload_n 1, 1) := by decide +kernel
theorem dX3_reach_1 : decode cX3_reach 1 = .ok (.invokestatic 45, 3) := by decide +kernel
theorem dX3_reach_4 : decode cX3_reach 4 = .ok (.ifCond .eq 20, 3) := by decide +kernel
theorem dX3_reach_7 : decode cX3_reach 7 = .ok (.aload_n 0, 1) := by decide +kernel
theorem dX3_reach_8 : decode cX3_reach 8 = .ok (.getfield 9, 3) := by decide +kernel
theorem dX3_reach_11 : decode cX3_reach 11 = .ok (.iload_n 1, 1) := by decide +kernel
theorem dX3_reach_12 : decode cX3_reach 12 = .ok (.iaload, 1) := by decide +kernel
theorem dX3_reach_13 : decode cX3_reach 13 = .ok (.iconst (-1), 1) := by decide +kernel
theorem dX3_reach_14 : decode cX3_reach 14 = .ok (.if_icmp .ne 10, 3) := by decide +kernel
theorem dX3_reach_17 : decode cX3_reach 17 = .ok (.aload_n 0, 1) := by decide +kernel
theorem dX3_reach_18 : decode cX3_reach 18 = .ok (.getfield 21, 3) := by decide +kernel
theorem dX3_reach_21 : decode cX3_reach 21 = .ok (.ifnonnull 4, 3) := by decide +kernel
theorem dX3_reach_24 : decode cX3_reach 24 = .ok (.return_, 1) := by decide +kernel
theorem dX3_reach_25 : decode cX3_reach 25 = .ok (.aload_n 0, 1) := by decide +kernel
theorem dX3_reach_26 : decode cX3_reach 26 = .ok (.getfield 9, 3) := by decide +kernel
theorem dX3_reach_29 : decode cX3_reach 29 = .ok (.iload_n 1, 1) := by decide +kernel
theorem dX3_reach_30 : decode cX3_reach 30 = .ok (.iload_n 2, 1) := by decide +kernel
theorem dX3_reach_31 : decode cX3_reach 31 = .ok (.iastore, 1) := by decide +kernel
theorem dX3_reach_32 : decode cX3_reach 32 = .ok (.aload_n 0, 1) := by decide +kernel
theorem dX3_reach_33 : decode cX3_reach 33 = .ok (.getfield 21, 3) := by decide +kernel
theorem dX3_reach_36 : decode cX3_reach 36 = .ok (.iload_n 1, 1) := by decide +kernel
theorem dX3_reach_37 : decode cX3_reach 37 = .ok (.aload_n 0, 1) := by decide +kernel
theorem dX3_reach_38 : decode cX3_reach 38 = .ok (.getfield 25, 3) := by decide +kernel
theorem dX3_reach_41 : decode cX3_reach 41 = .ok (.invokevirtual 57, 3) := by decide +kernel
theorem dX3_reach_44 : decode cX3_reach 44 = .ok (.ifCond .eq 51, 3) := by decide +kernel
theorem dX3_reach_47 : decode cX3_reach 47 = .ok (.iload_n 2, 1) := by decide +kernel
theorem dX3_reach_48 : decode cX3_reach 48 = .ok (.aload_n 0, 1) := by decide +kernel
theorem dX3_reach_49 : decode cX3_reach 49 = .ok (.getfield 21, 3) := by decide +kernel
theorem dX3_reach_52 : decode cX3_reach 52 = .ok (.iload_n 1, 1) := by decide +kernel
theorem dX3_reach_53 : decode cX3_reach 53 = .ok (.invokevirtual 63, 3) := by decide +kernel
theorem dX3_reach_56 : decode cX3_reach 56 = .ok (.iadd, 1) := by decide +kernel
theorem dX3_reach_57 : decode cX3_reach 57 = .ok (.aload_n 0, 1) := by decide +kernel
theorem dX3_reach_58 : decode cX3_reach 58 = .ok (.getfield 29, 3) := by decide +kernel
theorem dX3_reach_61 : decode cX3_reach 61 = .ok (.iadd, 1) := by decide +kernel
theorem dX3_reach_62 : decode cX3_reach 62 = .ok (.bipush 63, 2) := by decide +kernel
theorem dX3_reach_64 : decode cX3_reach 64 = .ok (.iand, 1) := by decide +kernel
theorem dX3_reach_65 : decode cX3_reach 65 = .ok (.istore_n 3, 1) := by decide +kernel
theorem dX3_reach_66 : decode cX3_reach 66 = .ok (.aload_n 0, 1) := by decide +kernel
theorem dX3_reach_67 : decode cX3_reach 67 = .ok (.getfield 18, 3) := by decide +kernel
theorem dX3_reach_70 : decode cX3_reach 70 = .ok (.iload_n 1, 1) := by decide +kernel
theorem dX3_reach_71 : decode cX3_reach 71 = .ok (.aload_n 0, 1) := by decide +kernel
theorem dX3_reach_72 : decode cX3_reach 72 = .ok (.getfield 15, 3) := by decide +kernel
theorem dX3_reach_75 : decode cX3_reach 75 = .ok (.iload_n 3, 1) := by decide +kernel
theorem dX3_reach_76 : decode cX3_reach 76 = .ok (.iaload, 1) := by decide +kernel
theorem dX3_reach_77 : decode cX3_reach 77 = .ok (.iastore, 1) := by decide +kernel
theorem dX3_reach_78 : decode cX3_reach 78 = .ok (.aload_n 0, 1) := by decide +kernel
theorem dX3_reach_79 : decode cX3_reach 79 = .ok (.getfield 15, 3) := by decide +kernel
theorem dX3_reach_82 : decode cX3_reach 82 = .ok (.iload_n 3, 1) := by decide +kernel
theorem dX3_reach_83 : decode cX3_reach 83 = .ok (.iload_n 1, 1) := by decide +kernel
theorem dX3_reach_84 : decode cX3_reach 84 = .ok (.iastore, 1) := by decide +kernel
theorem dX3_reach_85 : decode cX3_reach 85 = .ok (.aload_n 0, 1) := by decide +kernel
theorem dX3_reach_86 : decode cX3_reach 86 = .ok (.dup, 1) := by decide +kernel
theorem dX3_reach_87 : decode cX3_reach 87 = .ok (.getfield 32, 3) := by decide +kernel
theorem dX3_reach_90 : decode cX3_reach 90 = .ok (.iconst 1, 1) := by decide +kernel
theorem dX3_reach_91 : decode cX3_reach 91 = .ok (.iadd, 1) := by decide +kernel
theorem dX3_reach_92 : decode cX3_reach 92 = .ok (.putfield 32, 3) := by decide +kernel
theorem dX3_reach_95 : decode cX3_reach 95 = .ok (.return_, 1) := by decide +kernel
theorem dX3_spread_0 : decode cX3_spread 0 = .ok (.iload_n 1, 1) := by decide +kernel
theorem dX3_spread_1 : decode cX3_spread 1 = .ok (.bipush 63, 2) := by decide +kernel
theorem dX3_spread_3 : decode cX3_spread 3 = .ok (.iand, 1) := by decide +kernel
theorem dX3_spread_4 : decode cX3_spread 4 = .ok (.istore_n 2, 1) := by decide +kernel
theorem dX3_spread_5 : decode cX3_spread 5 = .ok (.aload_n 0, 1) := by decide +kernel
theorem dX3_spread_6 : decode cX3_spread 6 = .ok (.getfield 15, 3) := by decide +kernel
theorem dX3_spread_9 : decode cX3_spread 9 = .ok (.iload_n 2, 1) := by decide +kernel
theorem dX3_spread_10 : decode cX3_spread 10 = .ok (.iaload, 1) := by decide +kernel
theorem dX3_spread_11 : decode cX3_spread 11 = .ok (.istore_n 3, 1) := by decide +kernel
theorem dX3_spread_12 : decode cX3_spread 12 = .ok (.aload_n 0, 1) := by decide +kernel
theorem dX3_spread_13 : decode cX3_spread 13 = .ok (.getfield 15, 3) := by decide +kernel
theorem dX3_spread_16 : decode cX3_spread 16 = .ok (.iload_n 2, 1) := by decide +kernel
theorem dX3_spread_17 : decode cX3_spread 17 = .ok (.iconst (-1), 1) := by decide +kernel
theorem dX3_spread_18 : decode cX3_spread 18 = .ok (.iastore, 1) := by decide +kernel
theorem dX3_spread_19 : decode cX3_spread 19 = .ok (.iconst 0, 1) := by decide +kernel
theorem dX3_spread_20 : decode cX3_spread 20 = .ok (.istore 4, 2) := by decide +kernel
theorem dX3_spread_22 : decode cX3_spread 22 = .ok (.iload 4, 2) := by decide +kernel
theorem dX3_spread_24 : decode cX3_spread 24 = .ok (.sipush 160, 3) := by decide +kernel
theorem dX3_spread_27 : decode cX3_spread 27 = .ok (.if_icmp .ge 59, 3) := by decide +kernel
theorem dX3_spread_30 : decode cX3_spread 30 = .ok (.iload_n 3, 1) := by decide +kernel
theorem dX3_spread_31 : decode cX3_spread 31 = .ok (.invokestatic 45, 3) := by decide +kernel
theorem dX3_spread_34 : decode cX3_spread 34 = .ok (.ifCond .eq 52, 3) := by decide +kernel
theorem dX3_spread_37 : decode cX3_spread 37 = .ok (.aload_n 0, 1) := by decide +kernel
theorem dX3_spread_38 : decode cX3_spread 38 = .ok (.dup, 1) := by decide +kernel
theorem dX3_spread_39 : decode cX3_spread 39 = .ok (.getfield 32, 3) := by decide +kernel
theorem dX3_spread_42 : decode cX3_spread 42 = .ok (.iconst 1, 1) := by decide +kernel
theorem dX3_spread_43 : decode cX3_spread 43 = .ok (.isub, 1) := by decide +kernel
theorem dX3_spread_44 : decode cX3_spread 44 = .ok (.putfield 32, 3) := by decide +kernel
theorem dX3_spread_47 : decode cX3_spread 47 = .ok (.iconst 0, 1) := by decide +kernel
theorem dX3_spread_48 : decode cX3_spread 48 = .ok (.istore 5, 2) := by decide +kernel
theorem dX3_spread_50 : decode cX3_spread 50 = .ok (.iload 5, 2) := by decide +kernel
theorem dX3_spread_52 : decode cX3_spread 52 = .ok (.iconst 4, 1) := by decide +kernel
theorem dX3_spread_53 : decode cX3_spread 53 = .ok (.if_icmp .ge 20, 3) := by decide +kernel
theorem dX3_spread_56 : decode cX3_spread 56 = .ok (.aload_n 0, 1) := by decide +kernel
theorem dX3_spread_57 : decode cX3_spread 57 = .ok (.iload_n 3, 1) := by decide +kernel
theorem dX3_spread_58 : decode cX3_spread 58 = .ok (.iload 5, 2) := by decide +kernel
theorem dX3_spread_60 : decode cX3_spread 60 = .ok (.invokestatic 53, 3) := by decide +kernel
theorem dX3_spread_63 : decode cX3_spread 63 = .ok (.iload_n 1, 1) := by decide +kernel
theorem dX3_spread_64 : decode cX3_spread 64 = .ok (.invokevirtual 41, 3) := by decide +kernel
theorem dX3_spread_67 : decode cX3_spread 67 = .ok (.iinc 5 1, 3) := by decide +kernel
theorem dX3_spread_70 : decode cX3_spread 70 = .ok (.goto (-20), 3) := by decide +kernel
theorem dX3_spread_73 : decode cX3_spread 73 = .ok (.aload_n 0, 1) := by decide +kernel
theorem dX3_spread_74 : decode cX3_spread 74 = .ok (.getfield 18, 3) := by decide +kernel
theorem dX3_spread_77 : decode cX3_spread 77 = .ok (.iload_n 3, 1) := by decide +kernel
theorem dX3_spread_78 : decode cX3_spread 78 = .ok (.iaload, 1) := by decide +kernel
theorem dX3_spread_79 : decode cX3_spread 79 = .ok (.istore_n 3, 1) := by decide +kernel
theorem dX3_spread_80 : decode cX3_spread 80 = .ok (.iinc 4 1, 3) := by decide +kernel
theorem dX3_spread_83 : decode cX3_spread 83 = .ok (.goto (-61), 3) := by decide +kernel
theorem dX3_spread_86 : decode cX3_spread 86 = .ok (.return_, 1) := by decide +kernel
theorem dX4_init_0 : decode cX4_init 0 = .ok (.aload_n 0, 1) := by decide +kernel
theorem dX4_init_1 : decode cX4_init 1 = .ok (.invokespecial 3, 3) := by decide +kernel
theorem dX4_init_4 : decode cX4_init 4 = .ok (.aload_n 0, 1) := by decide +kernel
theorem dX4_init_5 : decode cX4_init 5 = .ok (.new 9, 3) := by decide +kernel
theorem dX4_init_8 : decode cX4_init 8 = .ok (.dup, 1) := by decide +kernel
theorem dX4_init_9 : decode cX4_init 9 = .ok (.invokespecial 11, 3) := by decide +kernel
theorem dX4_init_12 : decode cX4_init 12 = .ok (.putfield 12, 3) := by decide +kernel
theorem dX4_init_15 : decode cX4_init 15 = .ok (.aload_n 0, 1) := by decide +kernel
theorem dX4_init_16 : decode cX4_init 16 = .ok (.new 18, 3) := by decide +kernel
theorem dX4_init_19 : decode cX4_init 19 = .ok (.dup, 1) := by decide +kernel
theorem dX4_init_20 : decode cX4_init 20 = .ok (.invokespecial 20, 3) := by decide +kernel
theorem dX4_init_23 : decode cX4_init 23 = .ok (.putfield 21, 3) := by decide +kernel
theorem dX4_init_26 : decode cX4_init 26 = .ok (.aload_n 0, 1) := by decide +kernel
theorem dX4_init_27 : decode cX4_init 27 = .ok (.bipush 8, 2) := by decide +kernel
theorem dX4_init_29 : decode cX4_init 29 = .ok (.newarray .int, 2) := by decide +kernel
theorem dX4_init_31 : decode cX4_init 31 = .ok (.putfield 25, 3) := by decide +kernel
theorem dX4_init_34 : decode cX4_init 34 = .ok (.aload_n 0, 1) := by decide +kernel
theorem dX4_init_35 : decode cX4_init 35 = .ok (.iconst 5, 1) := by decide +kernel
theorem dX4_init_36 : decode cX4_init 36 = .ok (.anewarray 29, 3) := by decide +kernel
theorem dX4_init_39 : decode cX4_init 39 = .ok (.putfield 31, 3) := by decide +kernel
theorem dX4_init_42 : decode cX4_init 42 = .ok (.aload_n 0, 1) := by decide +kernel
theorem dX4_init_43 : decode cX4_init 43 = .ok (.bipush 40, 2) := by decide +kernel
theorem dX4_init_45 : decode cX4_init 45 = .ok (.anewarray 35, 3) := by decide +kernel
theorem dX4_init_48 : decode cX4_init 48 = .ok (.putfield 37, 3) := by decide +kernel
theorem dX4_init_51 : decode cX4_init 51 = .ok (.iconst 0, 1) := by decide +kernel
theorem dX4_init_52 : decode cX4_init 52 = .ok (.istore_n 1, 1) := by decide +kernel
theorem dX4_init_53 : decode cX4_init 53 = .ok (.iload_n 1, 1) := by decide +kernel
theorem dX4_init_54 : decode cX4_init 54 = .ok (.iconst 5, 1) := by decide +kernel
theorem dX4_init_55 : decode cX4_init 55 = .ok (.if_icmp .ge 22, 3) := by decide +kernel
theorem dX4_init_58 : decode cX4_init 58 = .ok (.aload_n 0, 1) := by decide +kernel
theorem dX4_init_59 : decode cX4_init 59 = .ok (.getfield 31, 3) := by decide +kernel
theorem dX4_init_62 : decode cX4_init 62 = .ok (.iload_n 1, 1) := by decide +kernel
theorem dX4_init_63 : decode cX4_init 63 = .ok (.new 29, 3) := by decide +kernel
theorem dX4_init_66 : decode cX4_init 66 = .ok (.dup, 1) := by decide +kernel
theorem dX4_init_67 : decode cX4_init 67 = .ok (.invokespecial 41, 3) := by decide +kernel
theorem dX4_init_70 : decode cX4_init 70 = .ok (.aastore, 1) := by decide +kernel
theorem dX4_init_71 : decode cX4_init 71 = .ok (.iinc 1 1, 3) := by decide +kernel
theorem dX4_init_74 : decode cX4_init 74 = .ok (.goto (-21), 3) := by decide +kernel
theorem dX4_init_77 : decode cX4_init 77 = .ok (.iconst 0, 1) := by decide +kernel
theorem dX4_init_78 : decode cX4_init 78 = .ok (.istore_n 1, 1) := by decide +kernel
theorem dX4_init_79 : decode cX4_init 79 = .ok (.iload_n 1, 1) := by decide +kernel
theorem dX4_init_80 : decode cX4_init 80 = .ok (.bipush 40, 2) := by decide +kernel
theorem dX4_init_82 : decode cX4_init 82 = .ok (.if_icmp .ge 22, 3) := by decide +kernel
theorem dX4_init_85 : decode cX4_init 85 = .ok (.aload_n 0, 1) := by decide +kernel
theorem dX4_init_86 : decode cX4_init 86 = .ok (.getfield 37, 3) := by decide +kernel
theorem dX4_init_89 : decode cX4_init 89 = .ok (.iload_n 1, 1) := by decide +kernel
theorem dX4_init_90 : decode cX4_init 90 = .ok (.new 35, 3) := by decide +kernel
theorem dX4_init_93 : decode cX4_init 93 = .ok (.dup, 1) := by decide +kernel
theorem dX4_init_94 : decode cX4_init 94 = .ok (.invokespecial 42, 3) := by decide +kernel
theorem dX4_init_97 : decode cX4_init 97 = .ok (.aastore, 1) := by decide +kernel
theorem dX4_init_98 : decode cX4_init 98 = .ok (.iinc 1 1, 3) := by decide +kernel
theorem dX4_init_101 : decode cX4_init 101 = .ok (.goto (-22), 3) := by decide +kernel
theorem dX4_init_104 : decode cX4_init 104 = .ok (.return_, 1) := by decide +kernel
theorem dX4_copyWithoutBags_0 : decode cX4_copyWithoutBags 0 = .ok (.aload_n 0, 1) := by decide +kernel
theorem dX4_copyWithoutBags_1 : decode cX4_copyWithoutBags 1 = .ok (.getfield 21, 3) := by decide +kernel
theorem dX4_copyWithoutBags_4 : decode cX4_copyWithoutBags 4 = .ok (.aload_n 1, 1) := by decide +kernel
theorem dX4_copyWithoutBags_5 : decode cX4_copyWithoutBags 5 = .ok (.getfield 21, 3) := by decide +kernel
theorem dX4_copyWithoutBags_8 : decode cX4_copyWithoutBags 8 = .ok (.invokevirtual 43, 3) := by decide +kernel
theorem dX4_copyWithoutBags_11 : decode cX4_copyWithoutBags 11 = .ok (.aload_n 1, 1) := by decide +kernel
theorem dX4_copyWithoutBags_12 : decode cX4_copyWithoutBags 12 = .ok (.getfield 25, 3) := by decide +kernel
theorem dX4_copyWithoutBags_15 : decode cX4_copyWithoutBags 15 = .ok (.iconst 0, 1) := by decide +kernel
theorem dX4_copyWithoutBags_16 : decode cX4_copyWithoutBags 16 = .ok (.aload_n 0, 1) := by decide +kernel
theorem dX4_copyWithoutBags_17 : decode cX4_copyWithoutBags 17 = .ok (.getfield 25, 3) := by decide +kernel
theorem dX4_copyWithoutBags_20 : decode cX4_copyWithoutBags 20 = .ok (.iconst 0, 1) := by decide +kernel
theorem dX4_copyWithoutBags_21 : decode cX4_copyWithoutBags 21 = .ok (.bipush 8, 2) := by decide +kernel
theorem dX4_copyWithoutBags_23 : decode cX4_copyWithoutBags 23 = .ok (.invokestatic 47, 3) := by decide +kernel
theorem dX4_copyWithoutBags_26 : decode cX4_copyWithoutBags 26 = .ok (.aload_n 0, 1) := by decide +kernel
theorem dX4_copyWithoutBags_27 : decode cX4_copyWithoutBags 27 = .ok (.aload_n 1, 1) := by decide +kernel
theorem dX4_copyWithoutBags_28 : decode cX4_copyWithoutBags 28 = .ok (.getfield 53, 3) := by decide +kernel
theorem dX4_copyWithoutBags_31 : decode cX4_copyWithoutBags 31 = .ok (.putfield 53, 3) := by decide +kernel
theorem dX4_copyWithoutBags_34 : decode cX4_copyWithoutBags 34 = .ok (.aload_n 0, 1) := by decide +kernel
theorem dX4_copyWithoutBags_35 : decode cX4_copyWithoutBags 35 = .ok (.aload_n 1, 1) := by decide +kernel
theorem dX4_copyWithoutBags_36 : decode cX4_copyWithoutBags 36 = .ok (.getfield 57, 3) := by decide +kernel
theorem dX4_copyWithoutBags_39 : decode cX4_copyWithoutBags 39 = .ok (.putfield 57, 3) := by decide +kernel
theorem dX4_copyWithoutBags_42 : decode cX4_copyWithoutBags 42 = .ok (.aload_n 0, 1) := by decide +kernel
theorem dX4_copyWithoutBags_43 : decode cX4_copyWithoutBags 43 = .ok (.aload_n 1, 1) := by decide +kernel
theorem dX4_copyWithoutBags_44 : decode cX4_copyWithoutBags 44 = .ok (.getfield 60, 3) := by decide +kernel
theorem dX4_copyWithoutBags_47 : decode cX4_copyWithoutBags 47 = .ok (.putfield 60, 3) := by decide +kernel
theorem dX4_copyWithoutBags_50 : decode cX4_copyWithoutBags 50 = .ok (.iconst 0, 1) := by decide +kernel
theorem dX4_copyWithoutBags_51 : decode cX4_copyWithoutBags 51 = .ok (.istore_n 2, 1) := by decide +kernel
theorem dX4_copyWithoutBags_52 : decode cX4_copyWithoutBags 52 = .ok (.iload_n 2, 1) := by decide +kernel
theorem dX4_copyWithoutBags_53 : decode cX4_copyWithoutBags 53 = .ok (.iconst 5, 1) := by decide +kernel
theorem dX4_copyWithoutBags_54 : decode cX4_copyWithoutBags 54 = .ok (.if_icmp .ge 37, 3) := by decide +kernel
theorem dX4_copyWithoutBags_57 : decode cX4_copyWithoutBags 57 = .ok (.aload_n 0, 1) := by decide +kernel
theorem dX4_copyWithoutBags_58 : decode cX4_copyWithoutBags 58 = .ok (.iload_n 2, 1) := by decide +kernel
theorem dX4_copyWithoutBags_59 : decode cX4_copyWithoutBags 59 = .ok (.invokevirtual 63, 3) := by decide +kernel
theorem dX4_copyWithoutBags_62 : decode cX4_copyWithoutBags 62 = .ok (.astore_n 3, 1) := by decide +kernel
theorem dX4_copyWithoutBags_63 : decode cX4_copyWithoutBags 63 = .ok (.aload_n 1, 1) := by decide +kernel
theorem dX4_copyWithoutBags_64 : decode cX4_copyWithoutBags 64 = .ok (.iload_n 2, 1) := by decide +kernel
theorem dX4_copyWithoutBags_65 : decode cX4_copyWithoutBags 65 = .ok (.invokevirtual 63, 3) := by decide +kernel
theorem dX4_copyWithoutBags_68 : decode cX4_copyWithoutBags 68 = .ok (.astore 4, 2) := by decide +kernel
theorem dX4_copyWithoutBags_70 : decode cX4_copyWithoutBags 70 = .ok (.aload_n 3, 1) := by decide +kernel
theorem dX4_copyWithoutBags_71 : decode cX4_copyWithoutBags 71 = .ok (.ifnull 14, 3) := by decide +kernel
theorem dX4_copyWithoutBags_74 : decode cX4_copyWithoutBags 74 = .ok (.aload 4, 2) := by decide +kernel
theorem dX4_copyWithoutBags_76 : decode cX4_copyWithoutBags 76 = .ok (.ifnull 9, 3) := by decide +kernel
theorem dX4_copyWithoutBags_79 : decode cX4_copyWithoutBags 79 = .ok (.aload_n 3, 1) := by decide +kernel
theorem dX4_copyWithoutBags_80 : decode cX4_copyWithoutBags 80 = .ok (.aload 4, 2) := by decide +kernel
theorem dX4_copyWithoutBags_82 : decode cX4_copyWithoutBags 82 = .ok (.invokevirtual 67, 3) := by decide +kernel
theorem dX4_copyWithoutBags_85 : decode cX4_copyWithoutBags 85 = .ok (.iinc 2 1, 3) := by decide +kernel
theorem dX4_copyWithoutBags_88 : decode cX4_copyWithoutBags 88 = .ok (.goto (-36), 3) := by decide +kernel
theorem dX4_copyWithoutBags_91 : decode cX4_copyWithoutBags 91 = .ok (.return_, 1) := by decide +kernel
theorem dX4_isPost_0 : decode cX4_isPost 0 = .ok (.iload_n 1, 1) := by decide +kernel
theorem dX4_isPost_1 : decode cX4_isPost 1 = .ok (.ifCond .lt 21, 3) := by decide +kernel
theorem dX4_isPost_4 : decode cX4_isPost 4 = .ok (.iload_n 1, 1) := by decide +kernel
theorem dX4_isPost_5 : decode cX4_isPost 5 = .ok (.aload_n 0, 1) := by decide +kernel
theorem dX4_isPost_6 : decode cX4_isPost 6 = .ok (.getfield 53, 3) := by decide +kernel
theorem dX4_isPost_9 : decode cX4_isPost 9 = .ok (.if_icmp .ge 13, 3) := by decide +kernel
theorem dX4_isPost_12 : decode cX4_isPost 12 = .ok (.iload_n 1, 1) := by decide +kernel
theorem dX4_isPost_13 : decode cX4_isPost 13 = .ok (.bipush 8, 2) := by decide +kernel
theorem dX4_isPost_15 : decode cX4_isPost 15 = .ok (.if_icmp .ge 7, 3) := by decide +kernel
theorem dX4_isPost_18 : decode cX4_isPost 18 = .ok (.iconst 1, 1) := by decide +kernel
theorem dX4_isPost_19 : decode cX4_isPost 19 = .ok (.goto 4, 3) := by decide +kernel
theorem dX4_isPost_22 : decode cX4_isPost 22 = .ok (.iconst 0, 1) := by decide +kernel
theorem dX4_isPost_23 : decode cX4_isPost 23 = .ok (.ireturn, 1) := by decide +kernel
theorem dX4_cellOfPost_0 : decode cX4_cellOfPost 0 = .ok (.aload_n 0, 1) := by decide +kernel
theorem dX4_cellOfPost_1 : decode cX4_cellOfPost 1 = .ok (.iload_n 1, 1) := by decide +kernel
theorem dX4_cellOfPost_2 : decode cX4_cellOfPost 2 = .ok (.invokevirtual 71, 3) := by decide +kernel
theorem dX4_cellOfPost_5 : decode cX4_cellOfPost 5 = .ok (.ifCond .eq 12, 3) := by decide +kernel
theorem dX4_cellOfPost_8 : decode cX4_cellOfPost 8 = .ok (.aload_n 0, 1) := by decide +kernel
theorem dX4_cellOfPost_9 : decode cX4_cellOfPost 9 = .ok (.getfield 25, 3) := by decide +kernel
theorem dX4_cellOfPost_12 : decode cX4_cellOfPost 12 = .ok (.iload_n 1, 1) := by decide +kernel
theorem dX4_cellOfPost_13 : decode cX4_cellOfPost 13 = .ok (.iaload, 1) := by decide +kernel
theorem dX4_cellOfPost_14 : decode cX4_cellOfPost 14 = .ok (.goto 4, 3) := by decide +kernel
theorem dX4_cellOfPost_17 : decode cX4_cellOfPost 17 = .ok (.iconst (-1), 1) := by decide +kernel
theorem dX4_cellOfPost_18 : decode cX4_cellOfPost 18 = .ok (.ireturn, 1) := by decide +kernel
theorem dX4_postOn_0 : decode cX4_postOn 0 = .ok (.iconst 0, 1) := by decide +kernel
theorem dX4_postOn_1 : decode cX4_postOn 1 = .ok (.istore_n 2, 1) := by decide +kernel
theorem dX4_postOn_2 : decode cX4_postOn 2 = .ok (.iload_n 2, 1) := by decide +kernel
theorem dX4_postOn_3 : decode cX4_postOn 3 = .ok (.bipush 8, 2) := by decide +kernel
theorem dX4_postOn_5 : decode cX4_postOn 5 = .ok (.if_icmp .ge 29, 3) := by decide +kernel
theorem dX4_postOn_8 : decode cX4_postOn 8 = .ok (.iload_n 2, 1) := by decide +kernel
theorem dX4_postOn_9 : decode cX4_postOn 9 = .ok (.aload_n 0, 1) := by decide +kernel
theorem dX4_postOn_10 : decode cX4_postOn 10 = .ok (.getfield 53, 3) := by decide +kernel
theorem dX4_postOn_13 : decode cX4_postOn 13 = .ok (.if_icmp .ge 15, 3) := by decide +kernel
theorem dX4_postOn_16 : decode cX4_postOn 16 = .ok (.aload_n 0, 1) := by decide +kernel
theorem dX4_postOn_17 : decode cX4_postOn 17 = .ok (.getfield 25, 3) := by decide +kernel
theorem dX4_postOn_20 : decode cX4_postOn 20 = .ok (.iload_n 2, 1) := by decide +kernel
theorem dX4_postOn_21 : decode cX4_postOn 21 = .ok (.iaload, 1) := by decide +kernel
theorem dX4_postOn_22 : decode cX4_postOn 22 = .ok (.iload_n 1, 1) := by decide +kernel
theorem dX4_postOn_23 : decode cX4_postOn 23 = .ok (.if_icmp .ne 5, 3) := by decide +kernel
theorem dX4_postOn_26 : decode cX4_postOn 26 = .ok (.iload_n 2, 1) := by decide +kernel
theorem dX4_postOn_27 : decode cX4_postOn 27 = .ok (.ireturn, 1) := by decide +kernel
theorem dX4_postOn_28 : decode cX4_postOn 28 = .ok (.iinc 2 1, 3) := by decide +kernel
theorem dX4_postOn_31 : decode cX4_postOn 31 = .ok (.goto (-29), 3) := by decide +kernel
theorem dX4_postOn_34 : decode cX4_postOn 34 = .ok (.iconst (-1), 1) := by decide +kernel
theorem dX4_postOn_35 : decode cX4_postOn 35 = .ok (.ireturn, 1) := by decide +kernel
theorem dX4_sleighAt_0 : decode cX4_sleighAt 0 = .ok (.iload_n 1, 1) := by decide +kernel
theorem dX4_sleighAt_1 : decode cX4_sleighAt 1 = .ok (.ifCond .lt 25, 3) := by decide +kernel
theorem dX4_sleighAt_4 : decode cX4_sleighAt 4 = .ok (.iload_n 1, 1) := by decide +kernel
theorem dX4_sleighAt_5 : decode cX4_sleighAt 5 = .ok (.aload_n 0, 1) := by decide +kernel
theorem dX4_sleighAt_6 : decode cX4_sleighAt 6 = .ok (.getfield 57, 3) := by decide +kernel
theorem dX4_sleighAt_9 : decode cX4_sleighAt 9 = .ok (.if_icmp .ge 17, 3) := by decide +kernel
theorem dX4_sleighAt_12 : decode cX4_sleighAt 12 = .ok (.iload_n 1, 1) := by decide +kernel
theorem dX4_sleighAt_13 : decode cX4_sleighAt 13 = .ok (.iconst 5, 1) := by decide +kernel
theorem dX4_sleighAt_14 : decode cX4_sleighAt 14 = .ok (.if_icmp .ge 12, 3) := by decide +kernel
theorem dX4_sleighAt_17 : decode cX4_sleighAt 17 = .ok (.aload_n 0, 1) := by decide +kernel
theorem dX4_sleighAt_18 : decode cX4_sleighAt 18 = .ok (.getfield 31, 3) := by decide +kernel
theorem dX4_sleighAt_21 : decode cX4_sleighAt 21 = .ok (.iload_n 1, 1) := by decide +kernel
theorem dX4_sleighAt_22 : decode cX4_sleighAt 22 = .ok (.aaload, 1) := by decide +kernel
theorem dX4_sleighAt_23 : decode cX4_sleighAt 23 = .ok (.goto 4, 3) := by decide +kernel
theorem dX4_sleighAt_26 : decode cX4_sleighAt 26 = .ok (.aconst_null, 1) := by decide +kernel
theorem dX4_sleighAt_27 : decode cX4_sleighAt 27 = .ok (.areturn, 1) := by decide +kernel
theorem dX4_bagAt_0 : decode cX4_bagAt 0 = .ok (.iload_n 1, 1) := by decide +kernel
theorem dX4_bagAt_1 : decode cX4_bagAt 1 = .ok (.ifCond .lt 26, 3) := by decide +kernel
theorem dX4_bagAt_4 : decode cX4_bagAt 4 = .ok (.iload_n 1, 1) := by decide +kernel
theorem dX4_bagAt_5 : decode cX4_bagAt 5 = .ok (.aload_n 0, 1) := by decide +kernel
theorem dX4_bagAt_6 : decode cX4_bagAt 6 = .ok (.getfield 75, 3) := by decide +kernel
theorem dX4_bagAt_9 : decode cX4_bagAt 9 = .ok (.if_icmp .ge 18, 3) := by decide +kernel
theorem dX4_bagAt_12 : decode cX4_bagAt 12 = .ok (.iload_n 1, 1) := by decide +kernel
theorem dX4_bagAt_13 : decode cX4_bagAt 13 = .ok (.bipush 40, 2) := by decide +kernel
theorem dX4_bagAt_15 : decode cX4_bagAt 15 = .ok (.if_icmp .ge 12, 3) := by decide +kernel
theorem dX4_bagAt_18 : decode cX4_bagAt 18 = .ok (.aload_n 0, 1) := by decide +kernel
theorem dX4_bagAt_19 : decode cX4_bagAt 19 = .ok (.getfield 37, 3) := by decide +kernel
theorem dX4_bagAt_22 : decode cX4_bagAt 22 = .ok (.iload_n 1, 1) := by decide +kernel
theorem dX4_bagAt_23 : decode cX4_bagAt 23 = .ok (.aaload, 1) := by decide +kernel
theorem dX4_bagAt_24 : decode cX4_bagAt 24 = .ok (.goto 4, 3) := by decide +kernel
theorem dX4_bagAt_27 : decode cX4_bagAt 27 = .ok (.aconst_null, 1) := by decide +kernel
theorem dX4_bagAt_28 : decode cX4_bagAt 28 = .ok (.areturn, 1) := by decide +kernel
theorem dX4_buildPost_0 : decode cX4_buildPost 0 = .ok (.aload_n 0, 1) := by decide +kernel
theorem dX4_buildPost_1 : decode cX4_buildPost 1 = .ok (.getfield 53, 3) := by decide +kernel
theorem dX4_buildPost_4 : decode cX4_buildPost 4 = .ok (.ifCond .lt 12, 3) := by decide +kernel
theorem dX4_buildPost_7 : decode cX4_buildPost 7 = .ok (.aload_n 0, 1) := by decide +kernel
theorem dX4_buildPost_8 : decode cX4_buildPost 8 = .ok (.getfield 53, 3) := by decide +kernel
theorem dX4_buildPost_11 : decode cX4_buildPost 11 = .ok (.bipush 8, 2) := by decide +kernel
theorem dX4_buildPost_13 : decode cX4_buildPost 13 = .ok (.if_icmp .lt 5, 3) := by decide +kernel
theorem dX4_buildPost_16 : decode cX4_buildPost 16 = .ok (.iconst (-1), 1) := by decide +kernel
theorem dX4_buildPost_17 : decode cX4_buildPost 17 = .ok (.ireturn, 1) := by decide +kernel
theorem dX4_buildPost_18 : decode cX4_buildPost 18 = .ok (.aload_n 0, 1) := by decide +kernel
theorem dX4_buildPost_19 : decode cX4_buildPost 19 = .ok (.getfield 25, 3) := by decide +kernel
theorem dX4_buildPost_22 : decode cX4_buildPost 22 = .ok (.aload_n 0, 1) := by decide +kernel
theorem dX4_buildPost_23 : decode cX4_buildPost 23 = .ok (.getfield 53, 3) := by decide +kernel
theorem dX4_buildPost_26 : decode cX4_buildPost 26 = .ok (.iload_n 1, 1) := by decide +kernel
theorem dX4_buildPost_27 : decode cX4_buildPost 27 = .ok (.iastore, 1) := by decide +kernel
theorem dX4_buildPost_28 : decode cX4_buildPost 28 = .ok (.aload_n 0, 1) := by decide +kernel
theorem dX4_buildPost_29 : decode cX4_buildPost 29 = .ok (.getfield 21, 3) := by decide +kernel
theorem dX4_buildPost_32 : decode cX4_buildPost 32 = .ok (.iload_n 1, 1) := by decide +kernel
theorem dX4_buildPost_33 : decode cX4_buildPost 33 = .ok (.iconst (-1), 1) := by decide +kernel
theorem dX4_buildPost_34 : decode cX4_buildPost 34 = .ok (.invokevirtual 78, 3) := by decide +kernel
theorem dX4_buildPost_37 : decode cX4_buildPost 37 = .ok (.aload_n 0, 1) := by decide +kernel
theorem dX4_buildPost_38 : decode cX4_buildPost 38 = .ok (.dup, 1) := by decide +kernel
theorem dX4_buildPost_39 : decode cX4_buildPost 39 = .ok (.getfield 53, 3) := by decide +kernel
theorem dX4_buildPost_42 : decode cX4_buildPost 42 = .ok (.iconst 1, 1) := by decide +kernel
theorem dX4_buildPost_43 : decode cX4_buildPost 43 = .ok (.iadd, 1) := by decide +kernel
theorem dX4_buildPost_44 : decode cX4_buildPost 44 = .ok (.putfield 53, 3) := by decide +kernel
theorem dX4_buildPost_47 : decode cX4_buildPost 47 = .ok (.aload_n 0, 1) := by decide +kernel
theorem dX4_buildPost_48 : decode cX4_buildPost 48 = .ok (.getfield 53, 3) := by decide +kernel
theorem dX4_buildPost_51 : decode cX4_buildPost 51 = .ok (.iconst 1, 1) := by decide +kernel
theorem dX4_buildPost_52 : decode cX4_buildPost 52 = .ok (.isub, 1) := by decide +kernel
theorem dX4_buildPost_53 : decode cX4_buildPost 53 = .ok (.ireturn, 1) := by decide +kernel
theorem dX4_harness_0 : decode cX4_harness 0 = .ok (.aload_n 0, 1) := by decide +kernel
theorem dX4_harness_1 : decode cX4_harness 1 = .ok (.getfield 57, 3) := by decide +kernel
theorem dX4_harness_4 : decode cX4_harness 4 = .ok (.ifCond .lt 23, 3) := by decide +kernel
theorem dX4_harness_7 : decode cX4_harness 7 = .ok (.aload_n 0, 1) := by decide +kernel
theorem dX4_harness_8 : decode cX4_harness 8 = .ok (.getfield 57, 3) := by decide +kernel
theorem dX4_harness_11 : decode cX4_harness 11 = .ok (.iconst 5, 1) := by decide +kernel
theorem dX4_harness_12 : decode cX4_harness 12 = .ok (.if_icmp .ge 15, 3) := by decide +kernel
theorem dX4_harness_15 : decode cX4_harness 15 = .ok (.aload_n 0, 1) := by decide +kernel
theorem dX4_harness_16 : decode cX4_harness 16 = .ok (.getfield 31, 3) := by decide +kernel
theorem dX4_harness_19 : decode cX4_harness 19 = .ok (.aload_n 0, 1) := by decide +kernel
theorem dX4_harness_20 : decode cX4_harness 20 = .ok (.getfield 57, 3) := by decide +kernel
theorem dX4_harness_23 : decode cX4_harness 23 = .ok (.aaload, 1) := by decide +kernel
theorem dX4_harness_24 : decode cX4_harness 24 = .ok (.goto 4, 3) := by decide +kernel
theorem dX4_harness_27 : decode cX4_harness 27 = .ok (.aconst_null, 1) := by decide +kernel
theorem dX4_harness_28 : decode cX4_harness 28 = .ok (.astore_n 3, 1) := by decide +kernel
theorem dX4_harness_29 : decode cX4_harness 29 = .ok (.aload_n 3, 1) := by decide +kernel
theorem dX4_harness_30 : decode cX4_harness 30 = .ok (.ifnonnull 5, 3) := by decide +kernel
theorem dX4_harness_33 : decode cX4_harness 33 = .ok (.iconst (-1), 1) := by decide +kernel
theorem dX4_harness_34 : decode cX4_harness 34 = .ok (.ireturn, 1) := by decide +kernel
theorem dX4_harness_35 : decode cX4_harness 35 = .ok (.aload_n 3, 1) := by decide +kernel
theorem dX4_harness_36 : decode cX4_harness 36 = .ok (.iload_n 1, 1) := by decide +kernel
theorem dX4_harness_37 : decode cX4_harness 37 = .ok (.aload_n 0, 1) := by decide +kernel
theorem dX4_harness_38 : decode cX4_harness 38 = .ok (.iload_n 1, 1) := by decide +kernel
theorem dX4_harness_39 : decode cX4_harness 39 = .ok (.invokevirtual 82, 3) := by decide +kernel
theorem dX4_harness_42 : decode cX4_harness 42 = .ok (.iload_n 2, 1) := by decide +kernel
theorem dX4_harness_43 : decode cX4_harness 43 = .ok (.invokevirtual 86, 3) := by decide +kernel
theorem dX4_harness_46 : decode cX4_harness 46 = .ok (.aload_n 0, 1) := by decide +kernel
theorem dX4_harness_47 : decode cX4_harness 47 = .ok (.dup, 1) := by decide +kernel
theorem dX4_harness_48 : decode cX4_harness 48 = .ok (.getfield 57, 3) := by decide +kernel
theorem dX4_harness_51 : decode cX4_harness 51 = .ok (.iconst 1, 1) := by decide +kernel
theorem dX4_harness_52 : decode cX4_harness 52 = .ok (.iadd, 1) := by decide +kernel
theorem dX4_harness_53 : decode cX4_harness 53 = .ok (.putfield 57, 3) := by decide +kernel
theorem dX4_harness_56 : decode cX4_harness 56 = .ok (.aload_n 0, 1) := by decide +kernel
theorem dX4_harness_57 : decode cX4_harness 57 = .ok (.getfield 57, 3) := by decide +kernel
theorem dX4_harness_60 : decode cX4_harness 60 = .ok (.iconst 1, 1) := by decide +kernel
theorem dX4_harness_61 : decode cX4_harness 61 = .ok (.isub, 1) := by decide +kernel
theorem dX4_harness_62 : decode cX4_harness 62 = .ok (.ireturn, 1) := by decide +kernel
theorem dX4_postMail_0 : decode cX4_postMail 0 = .ok (.aload_n 0, 1) := by decide +kernel
theorem dX4_postMail_1 : decode cX4_postMail 1 = .ok (.getfield 75, 3) := by decide +kernel
theorem dX4_postMail_4 : decode cX4_postMail 4 = .ok (.ifCond .lt 24, 3) := by decide +kernel
theorem dX4_postMail_7 : decode cX4_postMail 7 = .ok (.aload_n 0, 1) := by decide +kernel
theorem dX4_postMail_8 : decode cX4_postMail 8 = .ok (.getfield 75, 3) := by decide +kernel
theorem dX4_postMail_11 : decode cX4_postMail 11 = .ok (.bipush 40, 2) := by decide +kernel
theorem dX4_postMail_13 : decode cX4_postMail 13 = .ok (.if_icmp .ge 15, 3) := by decide +kernel
theorem dX4_postMail_16 : decode cX4_postMail 16 = .ok (.aload_n 0, 1) := by decide +kernel
theorem dX4_postMail_17 : decode cX4_postMail 17 = .ok (.getfield 37, 3) := by decide +kernel
theorem dX4_postMail_20 : decode cX4_postMail 20 = .ok (.aload_n 0, 1) := by decide +kernel
theorem dX4_postMail_21 : decode cX4_postMail 21 = .ok (.getfield 75, 3) := by decide +kernel
theorem dX4_postMail_24 : decode cX4_postMail 24 = .ok (.aaload, 1) := by decide +kernel
theorem dX4_postMail_25 : decode cX4_postMail 25 = .ok (.goto 4, 3) := by decide +kernel
theorem dX4_postMail_28 : decode cX4_postMail 28 = .ok (.aconst_null, 1) := by decide +kernel
theorem dX4_postMail_29 : decode cX4_postMail 29 = .ok (.astore 4, 2) := by decide +kernel
theorem dX4_postMail_31 : decode cX4_postMail 31 = .ok (.aload 4, 2) := by decide +kernel
theorem dX4_postMail_33 : decode cX4_postMail 33 = .ok (.ifnonnull 5, 3) := by decide +kernel
theorem dX4_postMail_36 : decode cX4_postMail 36 = .ok (.iconst (-1), 1) := by decide +kernel
theorem dX4_postMail_37 : decode cX4_postMail 37 = .ok (.ireturn, 1) := by decide +kernel
theorem dX4_postMail_38 : decode cX4_postMail 38 = .ok (.aload 4, 2) := by decide +kernel
theorem dX4_postMail_40 : decode cX4_postMail 40 = .ok (.iload_n 1, 1) := by decide +kernel
theorem dX4_postMail_41 : decode cX4_postMail 41 = .ok (.iload_n 2, 1) := by decide +kernel
theorem dX4_postMail_42 : decode cX4_postMail 42 = .ok (.iload_n 3, 1) := by decide +kernel
theorem dX4_postMail_43 : decode cX4_postMail 43 = .ok (.invokevirtual 90, 3) := by decide +kernel
theorem dX4_postMail_46 : decode cX4_postMail 46 = .ok (.aload_n 0, 1) := by decide +kernel
theorem dX4_postMail_47 : decode cX4_postMail 47 = .ok (.dup, 1) := by decide +kernel
theorem dX4_postMail_48 : decode cX4_postMail 48 = .ok (.getfield 75, 3) := by decide +kernel
theorem dX4_postMail_51 : decode cX4_postMail 51 = .ok (.iconst 1, 1) := by decide +kernel
theorem dX4_postMail_52 : decode cX4_postMail 52 = .ok (.iadd, 1) := by decide +kernel
theorem dX4_postMail_53 : decode cX4_postMail 53 = .ok (.putfield 75, 3) := by decide +kernel
theorem dX4_postMail_56 : decode cX4_postMail 56 = .ok (.aload_n 0, 1) := by decide +kernel
theorem dX4_postMail_57 : decode cX4_postMail 57 = .ok (.getfield 75, 3) := by decide +kernel
theorem dX4_postMail_60 : decode cX4_postMail 60 = .ok (.iconst 1, 1) := by decide +kernel
theorem dX4_postMail_61 : decode cX4_postMail 61 = .ok (.isub, 1) := by decide +kernel
theorem dX4_postMail_62 : decode cX4_postMail 62 = .ok (.ireturn, 1) := by decide +kernel
theorem dX4_isTaken_0 : decode cX4_isTaken 0 = .ok (.iload_n 2, 1) := by decide +kernel
theorem dX4_isTaken_1 : decode cX4_isTaken 1 = .ok (.istore 5, 2) := by decide +kernel
theorem dX4_isTaken_3 : decode cX4_isTaken 3 = .ok (.iload 5, 2) := by decide +kernel
theorem dX4_isTaken_5 : decode cX4_isTaken 5 = .ok (.iload_n 2, 1) := by decide +kernel
theorem dX4_isTaken_6 : decode cX4_isTaken 6 = .ok (.iload 4, 2) := by decide +kernel
theorem dX4_isTaken_8 : decode cX4_isTaken 8 = .ok (.iadd, 1) := by decide +kernel
theorem dX4_isTaken_9 : decode cX4_isTaken 9 = .ok (.if_icmp .ge 56, 3) := by decide +kernel
theorem dX4_isTaken_12 : decode cX4_isTaken 12 = .ok (.iload_n 1, 1) := by decide +kernel
theorem dX4_isTaken_13 : decode cX4_isTaken 13 = .ok (.istore 6, 2) := by decide +kernel
theorem dX4_isTaken_15 : decode cX4_isTaken 15 = .ok (.iload 6, 2) := by decide +kernel
theorem dX4_isTaken_17 : decode cX4_isTaken 17 = .ok (.iload_n 1, 1) := by decide +kernel
theorem dX4_isTaken_18 : decode cX4_isTaken 18 = .ok (.iload_n 3, 1) := by decide +kernel
theorem dX4_isTaken_19 : decode cX4_isTaken 19 = .ok (.iadd, 1) := by decide +kernel
theorem dX4_isTaken_20 : decode cX4_isTaken 20 = .ok (.if_icmp .ge 39, 3) := by decide +kernel
theorem dX4_isTaken_23 : decode cX4_isTaken 23 = .ok (.iload 6, 2) := by decide +kernel
theorem dX4_isTaken_25 : decode cX4_isTaken 25 = .ok (.iload 5, 2) := by decide +kernel
theorem dX4_isTaken_27 : decode cX4_isTaken 27 = .ok (.invokestatic 91, 3) := by decide +kernel
theorem dX4_isTaken_30 : decode cX4_isTaken 30 = .ok (.istore 7, 2) := by decide +kernel
theorem dX4_isTaken_32 : decode cX4_isTaken 32 = .ok (.aload_n 0, 1) := by decide +kernel
theorem dX4_isTaken_33 : decode cX4_isTaken 33 = .ok (.iload 7, 2) := by decide +kernel
theorem dX4_isTaken_35 : decode cX4_isTaken 35 = .ok (.invokevirtual 95, 3) := by decide +kernel
theorem dX4_isTaken_38 : decode cX4_isTaken 38 = .ok (.iconst (-1), 1) := by decide +kernel
theorem dX4_isTaken_39 : decode cX4_isTaken 39 = .ok (.if_icmp .ne 12, 3) := by decide +kernel
theorem dX4_isTaken_42 : decode cX4_isTaken 42 = .ok (.aload_n 0, 1) := by decide +kernel
theorem dX4_isTaken_43 : decode cX4_isTaken 43 = .ok (.iload 7, 2) := by decide +kernel
theorem dX4_isTaken_45 : decode cX4_isTaken 45 = .ok (.invokevirtual 98, 3) := by decide +kernel
theorem dX4_isTaken_48 : decode cX4_isTaken 48 = .ok (.ifCond .le 5, 3) := by decide +kernel
theorem dX4_isTaken_51 : decode cX4_isTaken 51 = .ok (.iconst 1, 1) := by decide +kernel
theorem dX4_isTaken_52 : decode cX4_isTaken 52 = .ok (.ireturn, 1) := by decide +kernel
theorem dX4_isTaken_53 : decode cX4_isTaken 53 = .ok (.iinc 6 1, 3) := by decide +kernel
theorem dX4_isTaken_56 : decode cX4_isTaken 56 = .ok (.goto (-41), 3) := by decide +kernel
theorem dX4_isTaken_59 : decode cX4_isTaken 59 = .ok (.iinc 5 1, 3) := by decide +kernel
theorem dX4_isTaken_62 : decode cX4_isTaken 62 = .ok (.goto (-59), 3) := by decide +kernel
theorem dX4_isTaken_65 : decode cX4_isTaken 65 = .ok (.iconst 0, 1) := by decide +kernel
theorem dX4_isTaken_66 : decode cX4_isTaken 66 = .ok (.ireturn, 1) := by decide +kernel
theorem dX4_sleighsOn_0 : decode cX4_sleighsOn 0 = .ok (.iconst 0, 1) := by decide +kernel
theorem dX4_sleighsOn_1 : decode cX4_sleighsOn 1 = .ok (.istore_n 2, 1) := by decide +kernel
theorem dX4_sleighsOn_2 : decode cX4_sleighsOn 2 = .ok (.iconst 0, 1) := by decide +kernel
theorem dX4_sleighsOn_3 : decode cX4_sleighsOn 3 = .ok (.istore_n 3, 1) := by decide +kernel
theorem dX4_sleighsOn_4 : decode cX4_sleighsOn 4 = .ok (.iload_n 3, 1) := by decide +kernel
theorem dX4_sleighsOn_5 : decode cX4_sleighsOn 5 = .ok (.iconst 5, 1) := by decide +kernel
theorem dX4_sleighsOn_6 : decode cX4_sleighsOn 6 = .ok (.if_icmp .ge 42, 3) := by decide +kernel
theorem dX4_sleighsOn_9 : decode cX4_sleighsOn 9 = .ok (.aload_n 0, 1) := by decide +kernel
theorem dX4_sleighsOn_10 : decode cX4_sleighsOn 10 = .ok (.iload_n 3, 1) := by decide +kernel
theorem dX4_sleighsOn_11 : decode cX4_sleighsOn 11 = .ok (.invokevirtual 63, 3) := by decide +kernel
theorem dX4_sleighsOn_14 : decode cX4_sleighsOn 14 = .ok (.astore 4, 2) := by decide +kernel
theorem dX4_sleighsOn_16 : decode cX4_sleighsOn 16 = .ok (.aload 4, 2) := by decide +kernel
theorem dX4_sleighsOn_18 : decode cX4_sleighsOn 18 = .ok (.ifnull 24, 3) := by decide +kernel
theorem dX4_sleighsOn_21 : decode cX4_sleighsOn 21 = .ok (.aload 4, 2) := by decide +kernel
theorem dX4_sleighsOn_23 : decode cX4_sleighsOn 23 = .ok (.getfield 101, 3) := by decide +kernel
theorem dX4_sleighsOn_26 : decode cX4_sleighsOn 26 = .ok (.iconst 2, 1) := by decide +kernel
theorem dX4_sleighsOn_27 : decode cX4_sleighsOn 27 = .ok (.if_icmp .eq 15, 3) := by decide +kernel
theorem dX4_sleighsOn_30 : decode cX4_sleighsOn 30 = .ok (.aload 4, 2) := by decide +kernel
theorem dX4_sleighsOn_32 : decode cX4_sleighsOn 32 = .ok (.getfield 104, 3) := by decide +kernel
theorem dX4_sleighsOn_35 : decode cX4_sleighsOn 35 = .ok (.iload_n 1, 1) := by decide +kernel
theorem dX4_sleighsOn_36 : decode cX4_sleighsOn 36 = .ok (.if_icmp .ne 6, 3) := by decide +kernel
theorem dX4_sleighsOn_39 : decode cX4_sleighsOn 39 = .ok (.iinc 2 1, 3) := by decide +kernel
theorem dX4_sleighsOn_42 : decode cX4_sleighsOn 42 = .ok (.iinc 3 1, 3) := by decide +kernel
theorem dX4_sleighsOn_45 : decode cX4_sleighsOn 45 = .ok (.goto (-41), 3) := by decide +kernel
theorem dX4_sleighsOn_48 : decode cX4_sleighsOn 48 = .ok (.iload_n 2, 1) := by decide +kernel
theorem dX4_sleighsOn_49 : decode cX4_sleighsOn 49 = .ok (.ireturn, 1) := by decide +kernel
theorem dX4_bagsOn_0 : decode cX4_bagsOn 0 = .ok (.iconst 0, 1) := by decide +kernel
theorem dX4_bagsOn_1 : decode cX4_bagsOn 1 = .ok (.istore_n 2, 1) := by decide +kernel
theorem dX4_bagsOn_2 : decode cX4_bagsOn 2 = .ok (.iconst 0, 1) := by decide +kernel
theorem dX4_bagsOn_3 : decode cX4_bagsOn 3 = .ok (.istore_n 3, 1) := by decide +kernel
theorem dX4_bagsOn_4 : decode cX4_bagsOn 4 = .ok (.iload_n 3, 1) := by decide +kernel
theorem dX4_bagsOn_5 : decode cX4_bagsOn 5 = .ok (.bipush 40, 2) := by decide +kernel
theorem dX4_bagsOn_7 : decode cX4_bagsOn 7 = .ok (.if_icmp .ge 33, 3) := by decide +kernel
theorem dX4_bagsOn_10 : decode cX4_bagsOn 10 = .ok (.aload_n 0, 1) := by decide +kernel
theorem dX4_bagsOn_11 : decode cX4_bagsOn 11 = .ok (.iload_n 3, 1) := by decide +kernel
theorem dX4_bagsOn_12 : decode cX4_bagsOn 12 = .ok (.invokevirtual 107, 3) := by decide +kernel
theorem dX4_bagsOn_15 : decode cX4_bagsOn 15 = .ok (.astore 4, 2) := by decide +kernel
theorem dX4_bagsOn_17 : decode cX4_bagsOn 17 = .ok (.aload 4, 2) := by decide +kernel
theorem dX4_bagsOn_19 : decode cX4_bagsOn 19 = .ok (.ifnull 15, 3) := by decide +kernel
theorem dX4_bagsOn_22 : decode cX4_bagsOn 22 = .ok (.aload 4, 2) := by decide +kernel
theorem dX4_bagsOn_24 : decode cX4_bagsOn 24 = .ok (.iload_n 1, 1) := by decide +kernel
theorem dX4_bagsOn_25 : decode cX4_bagsOn 25 = .ok (.invokevirtual 111, 3) := by decide +kernel
theorem dX4_bagsOn_28 : decode cX4_bagsOn 28 = .ok (.ifCond .eq 6, 3) := by decide +kernel
theorem dX4_bagsOn_31 : decode cX4_bagsOn 31 = .ok (.iinc 2 1, 3) := by decide +kernel
theorem dX4_bagsOn_34 : decode cX4_bagsOn 34 = .ok (.iinc 3 1, 3) := by decide +kernel
theorem dX4_bagsOn_37 : decode cX4_bagsOn 37 = .ok (.goto (-33), 3) := by decide +kernel
theorem dX4_bagsOn_40 : decode cX4_bagsOn 40 = .ok (.iload_n 2, 1) := by decide +kernel
theorem dX4_bagsOn_41 : decode cX4_bagsOn 41 = .ok (.ireturn, 1) := by decide +kernel
theorem dX4_hoursToGoal_0 : decode cX4_hoursToGoal 0 = .ok (.aload_n 0, 1) := by decide +kernel
theorem dX4_hoursToGoal_1 : decode cX4_hoursToGoal 1 = .ok (.getfield 12, 3) := by decide +kernel
theorem dX4_hoursToGoal_4 : decode cX4_hoursToGoal 4 = .ok (.aload_n 0, 1) := by decide +kernel
theorem dX4_hoursToGoal_5 : decode cX4_hoursToGoal 5 = .ok (.getfield 21, 3) := by decide +kernel
theorem dX4_hoursToGoal_8 : decode cX4_hoursToGoal 8 = .ok (.aload_n 1, 1) := by decide +kernel
theorem dX4_hoursToGoal_9 : decode cX4_hoursToGoal 9 = .ok (.getfield 104, 3) := by decide +kernel
theorem dX4_hoursToGoal_12 : decode cX4_hoursToGoal 12 = .ok (.aload_n 0, 1) := by decide +kernel
theorem dX4_hoursToGoal_13 : decode cX4_hoursToGoal 13 = .ok (.aload_n 1, 1) := by decide +kernel
theorem dX4_hoursToGoal_14 : decode cX4_hoursToGoal 14 = .ok (.getfield 114, 3) := by decide +kernel
theorem dX4_hoursToGoal_17 : decode cX4_hoursToGoal 17 = .ok (.invokevirtual 82, 3) := by decide +kernel
theorem dX4_hoursToGoal_20 : decode cX4_hoursToGoal 20 = .ok (.aload_n 1, 1) := by decide +kernel
theorem dX4_hoursToGoal_21 : decode cX4_hoursToGoal 21 = .ok (.invokevirtual 117, 3) := by decide +kernel
theorem dX4_hoursToGoal_24 : decode cX4_hoursToGoal 24 = .ok (.aload_n 1, 1) := by decide +kernel
theorem dX4_hoursToGoal_25 : decode cX4_hoursToGoal 25 = .ok (.invokevirtual 121, 3) := by decide +kernel
theorem dX4_hoursToGoal_28 : decode cX4_hoursToGoal 28 = .ok (.invokevirtual 124, 3) := by decide +kernel
theorem dX4_hoursToGoal_31 : decode cX4_hoursToGoal 31 = .ok (.ireturn, 1) := by decide +kernel
theorem dX4_goOneHour_0 : decode cX4_goOneHour 0 = .ok (.aload_n 0, 1) := by decide +kernel
theorem dX4_goOneHour_1 : decode cX4_goOneHour 1 = .ok (.getfield 60, 3) := by decide +kernel
theorem dX4_goOneHour_4 : decode cX4_goOneHour 4 = .ok (.bipush 24, 2) := by decide +kernel
theorem dX4_goOneHour_6 : decode cX4_goOneHour 6 = .ok (.irem, 1) := by decide +kernel
theorem dX4_goOneHour_7 : decode cX4_goOneHour 7 = .ok (.ifCond .ne 17, 3) := by decide +kernel
theorem dX4_goOneHour_10 : decode cX4_goOneHour 10 = .ok (.aload_n 0, 1) := by decide +kernel
theorem dX4_goOneHour_11 : decode cX4_goOneHour 11 = .ok (.getfield 21, 3) := by decide +kernel
theorem dX4_goOneHour_14 : decode cX4_goOneHour 14 = .ok (.aload_n 0, 1) := by decide +kernel
theorem dX4_goOneHour_15 : decode cX4_goOneHour 15 = .ok (.getfield 60, 3) := by decide +kernel
theorem dX4_goOneHour_18 : decode cX4_goOneHour 18 = .ok (.bipush 24, 2) := by decide +kernel
theorem dX4_goOneHour_20 : decode cX4_goOneHour 20 = .ok (.idiv, 1) := by decide +kernel
theorem dX4_goOneHour_21 : decode cX4_goOneHour 21 = .ok (.invokevirtual 128, 3) := by decide +kernel
theorem dX4_goOneHour_24 : decode cX4_goOneHour 24 = .ok (.aload_n 0, 1) := by decide +kernel
theorem dX4_goOneHour_25 : decode cX4_goOneHour 25 = .ok (.invokevirtual 132, 3) := by decide +kernel
theorem dX4_goOneHour_28 : decode cX4_goOneHour 28 = .ok (.aload_n 0, 1) := by decide +kernel
theorem dX4_goOneHour_29 : decode cX4_goOneHour 29 = .ok (.invokevirtual 135, 3) := by decide +kernel
theorem dX4_goOneHour_32 : decode cX4_goOneHour 32 = .ok (.istore_n 1, 1) := by decide +kernel
theorem dX4_goOneHour_33 : decode cX4_goOneHour 33 = .ok (.aload_n 0, 1) := by decide +kernel
theorem dX4_goOneHour_34 : decode cX4_goOneHour 34 = .ok (.invokevirtual 138, 3) := by decide +kernel
theorem dX4_goOneHour_37 : decode cX4_goOneHour 37 = .ok (.aload_n 0, 1) := by decide +kernel
theorem dX4_goOneHour_38 : decode cX4_goOneHour 38 = .ok (.invokevirtual 141, 3) := by decide +kernel
theorem dX4_goOneHour_41 : decode cX4_goOneHour 41 = .ok (.aload_n 0, 1) := by decide +kernel
theorem dX4_goOneHour_42 : decode cX4_goOneHour 42 = .ok (.dup, 1) := by decide +kernel
theorem dX4_goOneHour_43 : decode cX4_goOneHour 43 = .ok (.getfield 60, 3) := by decide +kernel
theorem dX4_goOneHour_46 : decode cX4_goOneHour 46 = .ok (.iconst 1, 1) := by decide +kernel
theorem dX4_goOneHour_47 : decode cX4_goOneHour 47 = .ok (.iadd, 1) := by decide +kernel
theorem dX4_goOneHour_48 : decode cX4_goOneHour 48 = .ok (.putfield 60, 3) := by decide +kernel
theorem dX4_goOneHour_51 : decode cX4_goOneHour 51 = .ok (.iload_n 1, 1) := by decide +kernel
theorem dX4_goOneHour_52 : decode cX4_goOneHour 52 = .ok (.ireturn, 1) := by decide +kernel
theorem dX4_sinkSleighs_0 : decode cX4_sinkSleighs 0 = .ok (.iconst 0, 1) := by decide +kernel
theorem dX4_sinkSleighs_1 : decode cX4_sinkSleighs 1 = .ok (.istore_n 1, 1) := by decide +kernel
theorem dX4_sinkSleighs_2 : decode cX4_sinkSleighs 2 = .ok (.iload_n 1, 1) := by decide +kernel
theorem dX4_sinkSleighs_3 : decode cX4_sinkSleighs 3 = .ok (.iconst 5, 1) := by decide +kernel
theorem dX4_sinkSleighs_4 : decode cX4_sinkSleighs 4 = .ok (.if_icmp .ge 54, 3) := by decide +kernel
theorem dX4_sinkSleighs_7 : decode cX4_sinkSleighs 7 = .ok (.aload_n 0, 1) := by decide +kernel
theorem dX4_sinkSleighs_8 : decode cX4_sinkSleighs 8 = .ok (.iload_n 1, 1) := by decide +kernel
theorem dX4_sinkSleighs_9 : decode cX4_sinkSleighs 9 = .ok (.invokevirtual 63, 3) := by decide +kernel
theorem dX4_sinkSleighs_12 : decode cX4_sinkSleighs 12 = .ok (.astore_n 2, 1) := by decide +kernel
theorem dX4_sinkSleighs_13 : decode cX4_sinkSleighs 13 = .ok (.aload_n 2, 1) := by decide +kernel
theorem dX4_sinkSleighs_14 : decode cX4_sinkSleighs 14 = .ok (.ifnull 38, 3) := by decide +kernel
theorem dX4_sinkSleighs_17 : decode cX4_sinkSleighs 17 = .ok (.aload_n 2, 1) := by decide +kernel
theorem dX4_sinkSleighs_18 : decode cX4_sinkSleighs 18 = .ok (.getfield 101, 3) := by decide +kernel
theorem dX4_sinkSleighs_21 : decode cX4_sinkSleighs 21 = .ok (.iconst 2, 1) := by decide +kernel
theorem dX4_sinkSleighs_22 : decode cX4_sinkSleighs 22 = .ok (.if_icmp .eq 30, 3) := by decide +kernel
theorem dX4_sinkSleighs_25 : decode cX4_sinkSleighs 25 = .ok (.aload_n 0, 1) := by decide +kernel
theorem dX4_sinkSleighs_26 : decode cX4_sinkSleighs 26 = .ok (.getfield 21, 3) := by decide +kernel
theorem dX4_sinkSleighs_29 : decode cX4_sinkSleighs 29 = .ok (.aload_n 2, 1) := by decide +kernel
theorem dX4_sinkSleighs_30 : decode cX4_sinkSleighs 30 = .ok (.getfield 104, 3) := by decide +kernel
theorem dX4_sinkSleighs_33 : decode cX4_sinkSleighs 33 = .ok (.aload_n 2, 1) := by decide +kernel
theorem dX4_sinkSleighs_34 : decode cX4_sinkSleighs 34 = .ok (.invokevirtual 117, 3) := by decide +kernel
theorem dX4_sinkSleighs_37 : decode cX4_sinkSleighs 37 = .ok (.invokevirtual 144, 3) := by decide +kernel
theorem dX4_sinkSleighs_40 : decode cX4_sinkSleighs 40 = .ok (.ifCond .ne 12, 3) := by decide +kernel
theorem dX4_sinkSleighs_43 : decode cX4_sinkSleighs 43 = .ok (.aload_n 2, 1) := by decide +kernel
theorem dX4_sinkSleighs_44 : decode cX4_sinkSleighs 44 = .ok (.invokevirtual 148, 3) := by decide +kernel
theorem dX4_sinkSleighs_47 : decode cX4_sinkSleighs 47 = .ok (.aload_n 0, 1) := by decide +kernel
theorem dX4_sinkSleighs_48 : decode cX4_sinkSleighs 48 = .ok (.iload_n 1, 1) := by decide +kernel
theorem dX4_sinkSleighs_49 : decode cX4_sinkSleighs 49 = .ok (.invokevirtual 151, 3) := by decide +kernel
theorem dX4_sinkSleighs_52 : decode cX4_sinkSleighs 52 = .ok (.iinc 1 1, 3) := by decide +kernel
theorem dX4_sinkSleighs_55 : decode cX4_sinkSleighs 55 = .ok (.goto (-53), 3) := by decide +kernel
theorem dX4_sinkSleighs_58 : decode cX4_sinkSleighs 58 = .ok (.return_, 1) := by decide +kernel
theorem dX4_loseMailOf_0 : decode cX4_loseMailOf 0 = .ok (.iconst 0, 1) := by decide +kernel
theorem dX4_loseMailOf_1 : decode cX4_loseMailOf 1 = .ok (.istore_n 2, 1) := by decide +kernel
theorem dX4_loseMailOf_2 : decode cX4_loseMailOf 2 = .ok (.iload_n 2, 1) := by decide +kernel
theorem dX4_loseMailOf_3 : decode cX4_loseMailOf 3 = .ok (.bipush 40, 2) := by decide +kernel
theorem dX4_loseMailOf_5 : decode cX4_loseMailOf 5 = .ok (.if_icmp .ge 31, 3) := by decide +kernel
theorem dX4_loseMailOf_8 : decode cX4_loseMailOf 8 = .ok (.aload_n 0, 1) := by decide +kernel
theorem dX4_loseMailOf_9 : decode cX4_loseMailOf 9 = .ok (.iload_n 2, 1) := by decide +kernel
theorem dX4_loseMailOf_10 : decode cX4_loseMailOf 10 = .ok (.invokevirtual 107, 3) := by decide +kernel
theorem dX4_loseMailOf_13 : decode cX4_loseMailOf 13 = .ok (.astore_n 3, 1) := by decide +kernel
theorem dX4_loseMailOf_14 : decode cX4_loseMailOf 14 = .ok (.aload_n 3, 1) := by decide +kernel
theorem dX4_loseMailOf_15 : decode cX4_loseMailOf 15 = .ok (.ifnull 15, 3) := by decide +kernel
theorem dX4_loseMailOf_18 : decode cX4_loseMailOf 18 = .ok (.aload_n 3, 1) := by decide +kernel
theorem dX4_loseMailOf_19 : decode cX4_loseMailOf 19 = .ok (.iload_n 1, 1) := by decide +kernel
theorem dX4_loseMailOf_20 : decode cX4_loseMailOf 20 = .ok (.invokevirtual 111, 3) := by decide +kernel
theorem dX4_loseMailOf_23 : decode cX4_loseMailOf 23 = .ok (.ifCond .eq 7, 3) := by decide +kernel
theorem dX4_loseMailOf_26 : decode cX4_loseMailOf 26 = .ok (.aload_n 3, 1) := by decide +kernel
theorem dX4_loseMailOf_27 : decode cX4_loseMailOf 27 = .ok (.invokevirtual 154, 3) := by decide +kernel
theorem dX4_loseMailOf_30 : decode cX4_loseMailOf 30 = .ok (.iinc 2 1, 3) := by decide +kernel
theorem dX4_loseMailOf_33 : decode cX4_loseMailOf 33 = .ok (.goto (-31), 3) := by decide +kernel
theorem dX4_loseMailOf_36 : decode cX4_loseMailOf 36 = .ok (.return_, 1) := by decide +kernel
theorem dX4_moveSleighs_0 : decode cX4_moveSleighs 0 = .ok (.iconst 0, 1) := by decide +kernel
theorem dX4_moveSleighs_1 : decode cX4_moveSleighs 1 = .ok (.istore_n 1, 1) := by decide +kernel
theorem dX4_moveSleighs_2 : decode cX4_moveSleighs 2 = .ok (.iconst 0, 1) := by decide +kernel
theorem dX4_moveSleighs_3 : decode cX4_moveSleighs 3 = .ok (.istore_n 2, 1) := by decide +kernel
theorem dX4_moveSleighs_4 : decode cX4_moveSleighs 4 = .ok (.iload_n 2, 1) := by decide +kernel
theorem dX4_moveSleighs_5 : decode cX4_moveSleighs 5 = .ok (.iconst 5, 1) := by decide +kernel
theorem dX4_moveSleighs_6 : decode cX4_moveSleighs 6 = .ok (.if_icmp .ge 64, 3) := by decide +kernel
theorem dX4_moveSleighs_9 : decode cX4_moveSleighs 9 = .ok (.aload_n 0, 1) := by decide +kernel
theorem dX4_moveSleighs_10 : decode cX4_moveSleighs 10 = .ok (.iload_n 2, 1) := by decide +kernel
theorem dX4_moveSleighs_11 : decode cX4_moveSleighs 11 = .ok (.invokevirtual 63, 3) := by decide +kernel
theorem dX4_moveSleighs_14 : decode cX4_moveSleighs 14 = .ok (.astore_n 3, 1) := by decide +kernel
theorem dX4_moveSleighs_15 : decode cX4_moveSleighs 15 = .ok (.aload_n 3, 1) := by decide +kernel
theorem dX4_moveSleighs_16 : decode cX4_moveSleighs 16 = .ok (.ifnull 48, 3) := by decide +kernel
theorem dX4_moveSleighs_19 : decode cX4_moveSleighs 19 = .ok (.aload_n 3, 1) := by decide +kernel
theorem dX4_moveSleighs_20 : decode cX4_moveSleighs 20 = .ok (.invokevirtual 157, 3) := by decide +kernel
theorem dX4_moveSleighs_23 : decode cX4_moveSleighs 23 = .ok (.ifCond .eq 41, 3) := by decide +kernel
theorem dX4_moveSleighs_26 : decode cX4_moveSleighs 26 = .ok (.aload_n 3, 1) := by decide +kernel
theorem dX4_moveSleighs_27 : decode cX4_moveSleighs 27 = .ok (.invokevirtual 161, 3) := by decide +kernel
theorem dX4_moveSleighs_30 : decode cX4_moveSleighs 30 = .ok (.ifCond .eq 34, 3) := by decide +kernel
theorem dX4_moveSleighs_33 : decode cX4_moveSleighs 33 = .ok (.aload_n 3, 1) := by decide +kernel
theorem dX4_moveSleighs_34 : decode cX4_moveSleighs 34 = .ok (.getfield 104, 3) := by decide +kernel
theorem dX4_moveSleighs_37 : decode cX4_moveSleighs 37 = .ok (.aload_n 0, 1) := by decide +kernel
theorem dX4_moveSleighs_38 : decode cX4_moveSleighs 38 = .ok (.aload_n 3, 1) := by decide +kernel
theorem dX4_moveSleighs_39 : decode cX4_moveSleighs 39 = .ok (.getfield 114, 3) := by decide +kernel
theorem dX4_moveSleighs_42 : decode cX4_moveSleighs 42 = .ok (.invokevirtual 82, 3) := by decide +kernel
theorem dX4_moveSleighs_45 : decode cX4_moveSleighs 45 = .ok (.if_icmp .ne 19, 3) := by decide +kernel
theorem dX4_moveSleighs_48 : decode cX4_moveSleighs 48 = .ok (.aload_n 3, 1) := by decide +kernel
theorem dX4_moveSleighs_49 : decode cX4_moveSleighs 49 = .ok (.invokevirtual 164, 3) := by decide +kernel
theorem dX4_moveSleighs_52 : decode cX4_moveSleighs 52 = .ok (.iload_n 1, 1) := by decide +kernel
theorem dX4_moveSleighs_53 : decode cX4_moveSleighs 53 = .ok (.aload_n 0, 1) := by decide +kernel
theorem dX4_moveSleighs_54 : decode cX4_moveSleighs 54 = .ok (.iload_n 2, 1) := by decide +kernel
theorem dX4_moveSleighs_55 : decode cX4_moveSleighs 55 = .ok (.aload_n 3, 1) := by decide +kernel
theorem dX4_moveSleighs_56 : decode cX4_moveSleighs 56 = .ok (.getfield 114, 3) := by decide +kernel
theorem dX4_moveSleighs_59 : decode cX4_moveSleighs 59 = .ok (.invokevirtual 167, 3) := by decide +kernel
theorem dX4_moveSleighs_62 : decode cX4_moveSleighs 62 = .ok (.iadd, 1) := by decide +kernel
theorem dX4_moveSleighs_63 : decode cX4_moveSleighs 63 = .ok (.istore_n 1, 1) := by decide +kernel
theorem dX4_moveSleighs_64 : decode cX4_moveSleighs 64 = .ok (.iinc 2 1, 3) := by decide +kernel
theorem dX4_moveSleighs_67 : decode cX4_moveSleighs 67 = .ok (.goto (-63), 3) := by decide +kernel
theorem dX4_moveSleighs_70 : decode cX4_moveSleighs 70 = .ok (.iload_n 1, 1) := by decide +kernel
theorem dX4_moveSleighs_71 : decode cX4_moveSleighs 71 = .ok (.ireturn, 1) := by decide +kernel
theorem dX4_unload_0 : decode cX4_unload 0 = .ok (.iconst 0, 1) := by decide +kernel
theorem dX4_unload_1 : decode cX4_unload 1 = .ok (.istore_n 3, 1) := by decide +kernel
theorem dX4_unload_2 : decode cX4_unload 2 = .ok (.iconst 0, 1) := by decide +kernel
theorem dX4_unload_3 : decode cX4_unload 3 = .ok (.istore 4, 2) := by decide +kernel
theorem dX4_unload_5 : decode cX4_unload 5 = .ok (.iload 4, 2) := by decide +kernel
theorem dX4_unload_7 : decode cX4_unload 7 = .ok (.bipush 40, 2) := by decide +kernel
theorem dX4_unload_9 : decode cX4_unload 9 = .ok (.if_icmp .ge 47, 3) := by decide +kernel
theorem dX4_unload_12 : decode cX4_unload 12 = .ok (.aload_n 0, 1) := by decide +kernel
theorem dX4_unload_13 : decode cX4_unload 13 = .ok (.iload 4, 2) := by decide +kernel
theorem dX4_unload_15 : decode cX4_unload 15 = .ok (.invokevirtual 107, 3) := by decide +kernel
theorem dX4_unload_18 : decode cX4_unload 18 = .ok (.astore 5, 2) := by decide +kernel
theorem dX4_unload_20 : decode cX4_unload 20 = .ok (.aload 5, 2) := by decide +kernel
theorem dX4_unload_22 : decode cX4_unload 22 = .ok (.ifnull 28, 3) := by decide +kernel
theorem dX4_unload_25 : decode cX4_unload 25 = .ok (.aload 5, 2) := by decide +kernel
theorem dX4_unload_27 : decode cX4_unload 27 = .ok (.iload_n 1, 1) := by decide +kernel
theorem dX4_unload_28 : decode cX4_unload 28 = .ok (.invokevirtual 111, 3) := by decide +kernel
theorem dX4_unload_31 : decode cX4_unload 31 = .ok (.ifCond .eq 19, 3) := by decide +kernel
theorem dX4_unload_34 : decode cX4_unload 34 = .ok (.aload 5, 2) := by decide +kernel
theorem dX4_unload_36 : decode cX4_unload 36 = .ok (.iload_n 2, 1) := by decide +kernel
theorem dX4_unload_37 : decode cX4_unload 37 = .ok (.aload_n 0, 1) := by decide +kernel
theorem dX4_unload_38 : decode cX4_unload 38 = .ok (.getfield 60, 3) := by decide +kernel
theorem dX4_unload_41 : decode cX4_unload 41 = .ok (.invokevirtual 170, 3) := by decide +kernel
theorem dX4_unload_44 : decode cX4_unload 44 = .ok (.ifCond .eq 6, 3) := by decide +kernel
theorem dX4_unload_47 : decode cX4_unload 47 = .ok (.iinc 3 1, 3) := by decide +kernel
theorem dX4_unload_50 : decode cX4_unload 50 = .ok (.iinc 4 1, 3) := by decide +kernel
theorem dX4_unload_53 : decode cX4_unload 53 = .ok (.goto (-48), 3) := by decide +kernel
theorem dX4_unload_56 : decode cX4_unload 56 = .ok (.iload_n 3, 1) := by decide +kernel
theorem dX4_unload_57 : decode cX4_unload 57 = .ok (.ireturn, 1) := by decide +kernel
theorem dX4_setOutSleighs_0 : decode cX4_setOutSleighs 0 = .ok (.iconst 0, 1) := by decide +kernel
theorem dX4_setOutSleighs_1 : decode cX4_setOutSleighs 1 = .ok (.istore_n 1, 1) := by decide +kernel
theorem dX4_setOutSleighs_2 : decode cX4_setOutSleighs 2 = .ok (.iload_n 1, 1) := by decide +kernel
theorem dX4_setOutSleighs_3 : decode cX4_setOutSleighs 3 = .ok (.iconst 5, 1) := by decide +kernel
theorem dX4_setOutSleighs_4 : decode cX4_setOutSleighs 4 = .ok (.if_icmp .ge 149, 3) := by decide +kernel
theorem dX4_setOutSleighs_7 : decode cX4_setOutSleighs 7 = .ok (.aload_n 0, 1) := by decide +kernel
theorem dX4_setOutSleighs_8 : decode cX4_setOutSleighs 8 = .ok (.iload_n 1, 1) := by decide +kernel
theorem dX4_setOutSleighs_9 : decode cX4_setOutSleighs 9 = .ok (.invokevirtual 63, 3) := by decide +kernel
theorem dX4_setOutSleighs_12 : decode cX4_setOutSleighs 12 = .ok (.astore_n 2, 1) := by decide +kernel
theorem dX4_setOutSleighs_13 : decode cX4_setOutSleighs 13 = .ok (.aload_n 2, 1) := by decide +kernel
theorem dX4_setOutSleighs_14 : decode cX4_setOutSleighs 14 = .ok (.ifnull 133, 3) := by decide +kernel
theorem dX4_setOutSleighs_17 : decode cX4_setOutSleighs 17 = .ok (.aload_n 2, 1) := by decide +kernel
theorem dX4_setOutSleighs_18 : decode cX4_setOutSleighs 18 = .ok (.getfield 101, 3) := by decide +kernel
theorem dX4_setOutSleighs_21 : decode cX4_setOutSleighs 21 = .ok (.iconst 1, 1) := by decide +kernel
theorem dX4_setOutSleighs_22 : decode cX4_setOutSleighs 22 = .ok (.if_icmp .ne 125, 3) := by decide +kernel
theorem dX4_setOutSleighs_25 : decode cX4_setOutSleighs 25 = .ok (.aload_n 2, 1) := by decide +kernel
theorem dX4_setOutSleighs_26 : decode cX4_setOutSleighs 26 = .ok (.invokevirtual 157, 3) := by decide +kernel
theorem dX4_setOutSleighs_29 : decode cX4_setOutSleighs 29 = .ok (.ifCond .ne 118, 3) := by decide +kernel
theorem dX4_setOutSleighs_32 : decode cX4_setOutSleighs 32 = .ok (.aload_n 2, 1) := by decide +kernel
theorem dX4_setOutSleighs_33 : decode cX4_setOutSleighs 33 = .ok (.getfield 173, 3) := by decide +kernel
theorem dX4_setOutSleighs_36 : decode cX4_setOutSleighs 36 = .ok (.aload_n 0, 1) := by decide +kernel
theorem dX4_setOutSleighs_37 : decode cX4_setOutSleighs 37 = .ok (.getfield 21, 3) := by decide +kernel
theorem dX4_setOutSleighs_40 : decode cX4_setOutSleighs 40 = .ok (.getfield 176, 3) := by decide +kernel
theorem dX4_setOutSleighs_43 : decode cX4_setOutSleighs 43 = .ok (.if_icmp .eq 104, 3) := by decide +kernel
theorem dX4_setOutSleighs_46 : decode cX4_setOutSleighs 46 = .ok (.aload_n 2, 1) := by decide +kernel
theorem dX4_setOutSleighs_47 : decode cX4_setOutSleighs 47 = .ok (.invokevirtual 117, 3) := by decide +kernel
theorem dX4_setOutSleighs_50 : decode cX4_setOutSleighs 50 = .ok (.istore_n 3, 1) := by decide +kernel
theorem dX4_setOutSleighs_51 : decode cX4_setOutSleighs 51 = .ok (.aload_n 2, 1) := by decide +kernel
theorem dX4_setOutSleighs_52 : decode cX4_setOutSleighs 52 = .ok (.invokevirtual 121, 3) := by decide +kernel
theorem dX4_setOutSleighs_55 : decode cX4_setOutSleighs 55 = .ok (.istore 4, 2) := by decide +kernel
theorem dX4_setOutSleighs_57 : decode cX4_setOutSleighs 57 = .ok (.aload_n 0, 1) := by decide +kernel
theorem dX4_setOutSleighs_58 : decode cX4_setOutSleighs 58 = .ok (.getfield 12, 3) := by decide +kernel
theorem dX4_setOutSleighs_61 : decode cX4_setOutSleighs 61 = .ok (.aload_n 0, 1) := by decide +kernel
theorem dX4_setOutSleighs_62 : decode cX4_setOutSleighs 62 = .ok (.getfield 21, 3) := by decide +kernel
theorem dX4_setOutSleighs_65 : decode cX4_setOutSleighs 65 = .ok (.aload_n 2, 1) := by decide +kernel
theorem dX4_setOutSleighs_66 : decode cX4_setOutSleighs 66 = .ok (.getfield 104, 3) := by decide +kernel
theorem dX4_setOutSleighs_69 : decode cX4_setOutSleighs 69 = .ok (.aload_n 0, 1) := by decide +kernel
theorem dX4_setOutSleighs_70 : decode cX4_setOutSleighs 70 = .ok (.aload_n 2, 1) := by decide +kernel
theorem dX4_setOutSleighs_71 : decode cX4_setOutSleighs 71 = .ok (.getfield 114, 3) := by decide +kernel
theorem dX4_setOutSleighs_74 : decode cX4_setOutSleighs 74 = .ok (.invokevirtual 82, 3) := by decide +kernel
theorem dX4_setOutSleighs_77 : decode cX4_setOutSleighs 77 = .ok (.iload_n 3, 1) := by decide +kernel
theorem dX4_setOutSleighs_78 : decode cX4_setOutSleighs 78 = .ok (.iload 4, 2) := by decide +kernel
theorem dX4_setOutSleighs_80 : decode cX4_setOutSleighs 80 = .ok (.invokevirtual 124, 3) := by decide +kernel
theorem dX4_setOutSleighs_83 : decode cX4_setOutSleighs 83 = .ok (.pop, 1) := by decide +kernel
theorem dX4_setOutSleighs_84 : decode cX4_setOutSleighs 84 = .ok (.aload_n 0, 1) := by decide +kernel
theorem dX4_setOutSleighs_85 : decode cX4_setOutSleighs 85 = .ok (.getfield 12, 3) := by decide +kernel
theorem dX4_setOutSleighs_88 : decode cX4_setOutSleighs 88 = .ok (.aload_n 2, 1) := by decide +kernel
theorem dX4_setOutSleighs_89 : decode cX4_setOutSleighs 89 = .ok (.getfield 104, 3) := by decide +kernel
theorem dX4_setOutSleighs_92 : decode cX4_setOutSleighs 92 = .ok (.invokevirtual 179, 3) := by decide +kernel
theorem dX4_setOutSleighs_95 : decode cX4_setOutSleighs 95 = .ok (.istore 5, 2) := by decide +kernel
theorem dX4_setOutSleighs_97 : decode cX4_setOutSleighs 97 = .ok (.iload 5, 2) := by decide +kernel
theorem dX4_setOutSleighs_99 : decode cX4_setOutSleighs 99 = .ok (.iconst (-1), 1) := by decide +kernel
theorem dX4_setOutSleighs_100 : decode cX4_setOutSleighs 100 = .ok (.if_icmp .ne 17, 3) := by decide +kernel
theorem dX4_setOutSleighs_103 : decode cX4_setOutSleighs 103 = .ok (.aload_n 2, 1) := by decide +kernel
theorem dX4_setOutSleighs_104 : decode cX4_setOutSleighs 104 = .ok (.aload_n 0, 1) := by decide +kernel
theorem dX4_setOutSleighs_105 : decode cX4_setOutSleighs 105 = .ok (.getfield 21, 3) := by decide +kernel
theorem dX4_setOutSleighs_108 : decode cX4_setOutSleighs 108 = .ok (.getfield 176, 3) := by decide +kernel
theorem dX4_setOutSleighs_111 : decode cX4_setOutSleighs 111 = .ok (.putfield 173, 3) := by decide +kernel
theorem dX4_setOutSleighs_114 : decode cX4_setOutSleighs 114 = .ok (.goto 33, 3) := by decide +kernel
theorem dX4_setOutSleighs_117 : decode cX4_setOutSleighs 117 = .ok (.aload_n 2, 1) := by decide +kernel
theorem dX4_setOutSleighs_118 : decode cX4_setOutSleighs 118 = .ok (.iload 5, 2) := by decide +kernel
theorem dX4_setOutSleighs_120 : decode cX4_setOutSleighs 120 = .ok (.aload_n 0, 1) := by decide +kernel
theorem dX4_setOutSleighs_121 : decode cX4_setOutSleighs 121 = .ok (.getfield 21, 3) := by decide +kernel
theorem dX4_setOutSleighs_124 : decode cX4_setOutSleighs 124 = .ok (.iload 5, 2) := by decide +kernel
theorem dX4_setOutSleighs_126 : decode cX4_setOutSleighs 126 = .ok (.invokevirtual 182, 3) := by decide +kernel
theorem dX4_setOutSleighs_129 : decode cX4_setOutSleighs 129 = .ok (.iload 4, 2) := by decide +kernel
theorem dX4_setOutSleighs_131 : decode cX4_setOutSleighs 131 = .ok (.iadd, 1) := by decide +kernel
theorem dX4_setOutSleighs_132 : decode cX4_setOutSleighs 132 = .ok (.invokevirtual 185, 3) := by decide +kernel
theorem dX4_setOutSleighs_135 : decode cX4_setOutSleighs 135 = .ok (.aload_n 0, 1) := by decide +kernel
theorem dX4_setOutSleighs_136 : decode cX4_setOutSleighs 136 = .ok (.getfield 21, 3) := by decide +kernel
theorem dX4_setOutSleighs_139 : decode cX4_setOutSleighs 139 = .ok (.aload_n 2, 1) := by decide +kernel
theorem dX4_setOutSleighs_140 : decode cX4_setOutSleighs 140 = .ok (.getfield 104, 3) := by decide +kernel
theorem dX4_setOutSleighs_143 : decode cX4_setOutSleighs 143 = .ok (.iload_n 3, 1) := by decide +kernel
theorem dX4_setOutSleighs_144 : decode cX4_setOutSleighs 144 = .ok (.invokevirtual 188, 3) := by decide +kernel
theorem dX4_setOutSleighs_147 : decode cX4_setOutSleighs 147 = .ok (.iinc 1 1, 3) := by decide +kernel
theorem dX4_setOutSleighs_150 : decode cX4_setOutSleighs 150 = .ok (.goto (-148), 3) := by decide +kernel
theorem dX4_setOutSleighs_153 : decode cX4_setOutSleighs 153 = .ok (.return_, 1) := by decide +kernel
theorem dX4_restSleighs_0 : decode cX4_restSleighs 0 = .ok (.iconst 0, 1) := by decide +kernel
theorem dX4_restSleighs_1 : decode cX4_restSleighs 1 = .ok (.istore_n 1, 1) := by decide +kernel
theorem dX4_restSleighs_2 : decode cX4_restSleighs 2 = .ok (.iload_n 1, 1) := by decide +kernel
theorem dX4_restSleighs_3 : decode cX4_restSleighs 3 = .ok (.iconst 5, 1) := by decide +kernel
theorem dX4_restSleighs_4 : decode cX4_restSleighs 4 = .ok (.if_icmp .ge 30, 3) := by decide +kernel
theorem dX4_restSleighs_7 : decode cX4_restSleighs 7 = .ok (.aload_n 0, 1) := by decide +kernel
theorem dX4_restSleighs_8 : decode cX4_restSleighs 8 = .ok (.iload_n 1, 1) := by decide +kernel
theorem dX4_restSleighs_9 : decode cX4_restSleighs 9 = .ok (.invokevirtual 63, 3) := by decide +kernel
theorem dX4_restSleighs_12 : decode cX4_restSleighs 12 = .ok (.astore_n 2, 1) := by decide +kernel
theorem dX4_restSleighs_13 : decode cX4_restSleighs 13 = .ok (.aload_n 2, 1) := by decide +kernel
theorem dX4_restSleighs_14 : decode cX4_restSleighs 14 = .ok (.ifnull 14, 3) := by decide +kernel
theorem dX4_restSleighs_17 : decode cX4_restSleighs 17 = .ok (.aload_n 2, 1) := by decide +kernel
theorem dX4_restSleighs_18 : decode cX4_restSleighs 18 = .ok (.getfield 101, 3) := by decide +kernel
theorem dX4_restSleighs_21 : decode cX4_restSleighs 21 = .ok (.ifCond .ne 7, 3) := by decide +kernel
theorem dX4_restSleighs_24 : decode cX4_restSleighs 24 = .ok (.aload_n 2, 1) := by decide +kernel
theorem dX4_restSleighs_25 : decode cX4_restSleighs 25 = .ok (.invokevirtual 191, 3) := by decide +kernel
theorem dX4_restSleighs_28 : decode cX4_restSleighs 28 = .ok (.iinc 1 1, 3) := by decide +kernel
theorem dX4_restSleighs_31 : decode cX4_restSleighs 31 = .ok (.goto (-29), 3) := by decide +kernel
theorem dX4_restSleighs_34 : decode cX4_restSleighs 34 = .ok (.return_, 1) := by decide +kernel
theorem dX4_tellCell_0 : decode cX4_tellCell 0 = .ok (.iload_n 2, 1) := by decide +kernel
theorem dX4_tellCell_1 : decode cX4_tellCell 1 = .ok (.tableswitch 85 0 4 #[35, 44, 53, 62, 79], 35) := by decide +kernel
theorem dX4_tellCell_36 : decode cX4_tellCell 36 = .ok (.aload_n 0, 1) := by decide +kernel
theorem dX4_tellCell_37 : decode cX4_tellCell 37 = .ok (.getfield 21, 3) := by decide +kernel
theorem dX4_tellCell_40 : decode cX4_tellCell 40 = .ok (.iload_n 1, 1) := by decide +kernel
theorem dX4_tellCell_41 : decode cX4_tellCell 41 = .ok (.invokevirtual 194, 3) := by decide +kernel
theorem dX4_tellCell_44 : decode cX4_tellCell 44 = .ok (.ireturn, 1) := by decide +kernel
theorem dX4_tellCell_45 : decode cX4_tellCell 45 = .ok (.aload_n 0, 1) := by decide +kernel
theorem dX4_tellCell_46 : decode cX4_tellCell 46 = .ok (.getfield 21, 3) := by decide +kernel
theorem dX4_tellCell_49 : decode cX4_tellCell 49 = .ok (.iload_n 1, 1) := by decide +kernel
theorem dX4_tellCell_50 : decode cX4_tellCell 50 = .ok (.invokevirtual 182, 3) := by decide +kernel
theorem dX4_tellCell_53 : decode cX4_tellCell 53 = .ok (.ireturn, 1) := by decide +kernel
theorem dX4_tellCell_54 : decode cX4_tellCell 54 = .ok (.aload_n 0, 1) := by decide +kernel
theorem dX4_tellCell_55 : decode cX4_tellCell 55 = .ok (.getfield 21, 3) := by decide +kernel
theorem dX4_tellCell_58 : decode cX4_tellCell 58 = .ok (.iload_n 1, 1) := by decide +kernel
theorem dX4_tellCell_59 : decode cX4_tellCell 59 = .ok (.invokevirtual 197, 3) := by decide +kernel
theorem dX4_tellCell_62 : decode cX4_tellCell 62 = .ok (.ireturn, 1) := by decide +kernel
theorem dX4_tellCell_63 : decode cX4_tellCell 63 = .ok (.aload_n 0, 1) := by decide +kernel
theorem dX4_tellCell_64 : decode cX4_tellCell 64 = .ok (.getfield 21, 3) := by decide +kernel
theorem dX4_tellCell_67 : decode cX4_tellCell 67 = .ok (.iload_n 1, 1) := by decide +kernel
theorem dX4_tellCell_68 : decode cX4_tellCell 68 = .ok (.invokevirtual 200, 3) := by decide +kernel
theorem dX4_tellCell_71 : decode cX4_tellCell 71 = .ok (.ifCond .eq 7, 3) := by decide +kernel
theorem dX4_tellCell_74 : decode cX4_tellCell 74 = .ok (.iconst 1, 1) := by decide +kernel
theorem dX4_tellCell_75 : decode cX4_tellCell 75 = .ok (.goto 4, 3) := by decide +kernel
theorem dX4_tellCell_78 : decode cX4_tellCell 78 = .ok (.iconst 0, 1) := by decide +kernel
theorem dX4_tellCell_79 : decode cX4_tellCell 79 = .ok (.ireturn, 1) := by decide +kernel
theorem dX4_tellCell_80 : decode cX4_tellCell 80 = .ok (.aload_n 0, 1) := by decide +kernel
theorem dX4_tellCell_81 : decode cX4_tellCell 81 = .ok (.iload_n 1, 1) := by decide +kernel
theorem dX4_tellCell_82 : decode cX4_tellCell 82 = .ok (.invokevirtual 95, 3) := by decide +kernel
theorem dX4_tellCell_85 : decode cX4_tellCell 85 = .ok (.ireturn, 1) := by decide +kernel
theorem dX4_tellCell_86 : decode cX4_tellCell 86 = .ok (.aload_n 0, 1) := by decide +kernel
theorem dX4_tellCell_87 : decode cX4_tellCell 87 = .ok (.iload_n 1, 1) := by decide +kernel
theorem dX4_tellCell_88 : decode cX4_tellCell 88 = .ok (.invokevirtual 98, 3) := by decide +kernel
theorem dX4_tellCell_91 : decode cX4_tellCell 91 = .ok (.ireturn, 1) := by decide +kernel
theorem dX4_tellSleigh_0 : decode cX4_tellSleigh 0 = .ok (.aload_n 0, 1) := by decide +kernel
theorem dX4_tellSleigh_1 : decode cX4_tellSleigh 1 = .ok (.iload_n 1, 1) := by decide +kernel
theorem dX4_tellSleigh_2 : decode cX4_tellSleigh 2 = .ok (.invokevirtual 63, 3) := by decide +kernel
theorem dX4_tellSleigh_5 : decode cX4_tellSleigh 5 = .ok (.astore_n 3, 1) := by decide +kernel
theorem dX4_tellSleigh_6 : decode cX4_tellSleigh 6 = .ok (.aload_n 3, 1) := by decide +kernel
theorem dX4_tellSleigh_7 : decode cX4_tellSleigh 7 = .ok (.ifnonnull 5, 3) := by decide +kernel
theorem dX4_tellSleigh_10 : decode cX4_tellSleigh 10 = .ok (.iconst (-1), 1) := by decide +kernel
theorem dX4_tellSleigh_11 : decode cX4_tellSleigh 11 = .ok (.ireturn, 1) := by decide +kernel
theorem dX4_tellSleigh_12 : decode cX4_tellSleigh 12 = .ok (.iload_n 2, 1) := by decide +kernel
theorem dX4_tellSleigh_13 : decode cX4_tellSleigh 13 = .ok (.tableswitch 87 0 7 #[47, 52, 57, 62, 67, 72, 77, 82], 47) := by decide +kernel
theorem dX4_tellSleigh_60 : decode cX4_tellSleigh 60 = .ok (.aload_n 3, 1) := by decide +kernel
theorem dX4_tellSleigh_61 : decode cX4_tellSleigh 61 = .ok (.getfield 203, 3) := by decide +kernel
theorem dX4_tellSleigh_64 : decode cX4_tellSleigh 64 = .ok (.ireturn, 1) := by decide +kernel
theorem dX4_tellSleigh_65 : decode cX4_tellSleigh 65 = .ok (.aload_n 3, 1) := by decide +kernel
theorem dX4_tellSleigh_66 : decode cX4_tellSleigh 66 = .ok (.invokevirtual 206, 3) := by decide +kernel
theorem dX4_tellSleigh_69 : decode cX4_tellSleigh 69 = .ok (.ireturn, 1) := by decide +kernel
theorem dX4_tellSleigh_70 : decode cX4_tellSleigh 70 = .ok (.aload_n 3, 1) := by decide +kernel
theorem dX4_tellSleigh_71 : decode cX4_tellSleigh 71 = .ok (.getfield 209, 3) := by decide +kernel
theorem dX4_tellSleigh_74 : decode cX4_tellSleigh 74 = .ok (.ireturn, 1) := by decide +kernel
theorem dX4_tellSleigh_75 : decode cX4_tellSleigh 75 = .ok (.aload_n 3, 1) := by decide +kernel
theorem dX4_tellSleigh_76 : decode cX4_tellSleigh 76 = .ok (.getfield 101, 3) := by decide +kernel
theorem dX4_tellSleigh_79 : decode cX4_tellSleigh 79 = .ok (.ireturn, 1) := by decide +kernel
theorem dX4_tellSleigh_80 : decode cX4_tellSleigh 80 = .ok (.aload_n 3, 1) := by decide +kernel
theorem dX4_tellSleigh_81 : decode cX4_tellSleigh 81 = .ok (.getfield 104, 3) := by decide +kernel
theorem dX4_tellSleigh_84 : decode cX4_tellSleigh 84 = .ok (.ireturn, 1) := by decide +kernel
theorem dX4_tellSleigh_85 : decode cX4_tellSleigh 85 = .ok (.aload_n 3, 1) := by decide +kernel
theorem dX4_tellSleigh_86 : decode cX4_tellSleigh 86 = .ok (.getfield 114, 3) := by decide +kernel
theorem dX4_tellSleigh_89 : decode cX4_tellSleigh 89 = .ok (.ireturn, 1) := by decide +kernel
theorem dX4_tellSleigh_90 : decode cX4_tellSleigh 90 = .ok (.aload_n 3, 1) := by decide +kernel
theorem dX4_tellSleigh_91 : decode cX4_tellSleigh 91 = .ok (.getfield 212, 3) := by decide +kernel
theorem dX4_tellSleigh_94 : decode cX4_tellSleigh 94 = .ok (.ireturn, 1) := by decide +kernel
theorem dX4_tellSleigh_95 : decode cX4_tellSleigh 95 = .ok (.aload_n 3, 1) := by decide +kernel
theorem dX4_tellSleigh_96 : decode cX4_tellSleigh 96 = .ok (.invokevirtual 117, 3) := by decide +kernel
theorem dX4_tellSleigh_99 : decode cX4_tellSleigh 99 = .ok (.ireturn, 1) := by decide +kernel
theorem dX4_tellSleigh_100 : decode cX4_tellSleigh 100 = .ok (.aload_n 0, 1) := by decide +kernel
theorem dX4_tellSleigh_101 : decode cX4_tellSleigh 101 = .ok (.iload_n 1, 1) := by decide +kernel
theorem dX4_tellSleigh_102 : decode cX4_tellSleigh 102 = .ok (.invokevirtual 215, 3) := by decide +kernel
theorem dX4_tellSleigh_105 : decode cX4_tellSleigh 105 = .ok (.ireturn, 1) := by decide +kernel
theorem dX4_tellCount_0 : decode cX4_tellCount 0 = .ok (.iload_n 1, 1) := by decide +kernel
theorem dX4_tellCount_1 : decode cX4_tellCount 1 = .ok (.tableswitch 92 0 7 #[47, 52, 57, 62, 67, 72, 78, 84], 47) := by decide +kernel
theorem dX4_tellCount_48 : decode cX4_tellCount 48 = .ok (.aload_n 0, 1) := by decide +kernel
theorem dX4_tellCount_49 : decode cX4_tellCount 49 = .ok (.getfield 60, 3) := by decide +kernel
theorem dX4_tellCount_52 : decode cX4_tellCount 52 = .ok (.ireturn, 1) := by decide +kernel
theorem dX4_tellCount_53 : decode cX4_tellCount 53 = .ok (.aload_n 0, 1) := by decide +kernel
theorem dX4_tellCount_54 : decode cX4_tellCount 54 = .ok (.getfield 53, 3) := by decide +kernel
theorem dX4_tellCount_57 : decode cX4_tellCount 57 = .ok (.ireturn, 1) := by decide +kernel
theorem dX4_tellCount_58 : decode cX4_tellCount 58 = .ok (.aload_n 0, 1) := by decide +kernel
theorem dX4_tellCount_59 : decode cX4_tellCount 59 = .ok (.getfield 57, 3) := by decide +kernel
theorem dX4_tellCount_62 : decode cX4_tellCount 62 = .ok (.ireturn, 1) := by decide +kernel
theorem dX4_tellCount_63 : decode cX4_tellCount 63 = .ok (.aload_n 0, 1) := by decide +kernel
theorem dX4_tellCount_64 : decode cX4_tellCount 64 = .ok (.invokevirtual 218, 3) := by decide +kernel
theorem dX4_tellCount_67 : decode cX4_tellCount 67 = .ok (.ireturn, 1) := by decide +kernel
theorem dX4_tellCount_68 : decode cX4_tellCount 68 = .ok (.aload_n 0, 1) := by decide +kernel
theorem dX4_tellCount_69 : decode cX4_tellCount 69 = .ok (.getfield 75, 3) := by decide +kernel
theorem dX4_tellCount_72 : decode cX4_tellCount 72 = .ok (.ireturn, 1) := by decide +kernel
theorem dX4_tellCount_73 : decode cX4_tellCount 73 = .ok (.aload_n 0, 1) := by decide +kernel
theorem dX4_tellCount_74 : decode cX4_tellCount 74 = .ok (.iconst 2, 1) := by decide +kernel
theorem dX4_tellCount_75 : decode cX4_tellCount 75 = .ok (.invokevirtual 221, 3) := by decide +kernel
theorem dX4_tellCount_78 : decode cX4_tellCount 78 = .ok (.ireturn, 1) := by decide +kernel
theorem dX4_tellCount_79 : decode cX4_tellCount 79 = .ok (.aload_n 0, 1) := by decide +kernel
theorem dX4_tellCount_80 : decode cX4_tellCount 80 = .ok (.iconst 3, 1) := by decide +kernel
theorem dX4_tellCount_81 : decode cX4_tellCount 81 = .ok (.invokevirtual 221, 3) := by decide +kernel
theorem dX4_tellCount_84 : decode cX4_tellCount 84 = .ok (.ireturn, 1) := by decide +kernel
theorem dX4_tellCount_85 : decode cX4_tellCount 85 = .ok (.aload_n 0, 1) := by decide +kernel
theorem dX4_tellCount_86 : decode cX4_tellCount 86 = .ok (.getfield 21, 3) := by decide +kernel
theorem dX4_tellCount_89 : decode cX4_tellCount 89 = .ok (.invokevirtual 224, 3) := by decide +kernel
theorem dX4_tellCount_92 : decode cX4_tellCount 92 = .ok (.ireturn, 1) := by decide +kernel
theorem dX4_tellCount_93 : decode cX4_tellCount 93 = .ok (.aload_n 0, 1) := by decide +kernel
theorem dX4_tellCount_94 : decode cX4_tellCount 94 = .ok (.getfield 21, 3) := by decide +kernel
theorem dX4_tellCount_97 : decode cX4_tellCount 97 = .ok (.invokevirtual 227, 3) := by decide +kernel
theorem dX4_tellCount_100 : decode cX4_tellCount 100 = .ok (.ireturn, 1) := by decide +kernel
theorem dX4_sunkSleighs_0 : decode cX4_sunkSleighs 0 = .ok (.iconst 0, 1) := by decide +kernel
theorem dX4_sunkSleighs_1 : decode cX4_sunkSleighs 1 = .ok (.istore_n 1, 1) := by decide +kernel
theorem dX4_sunkSleighs_2 : decode cX4_sunkSleighs 2 = .ok (.iconst 0, 1) := by decide +kernel
theorem dX4_sunkSleighs_3 : decode cX4_sunkSleighs 3 = .ok (.istore_n 2, 1) := by decide +kernel
theorem dX4_sunkSleighs_4 : decode cX4_sunkSleighs 4 = .ok (.iload_n 2, 1) := by decide +kernel
theorem dX4_sunkSleighs_5 : decode cX4_sunkSleighs 5 = .ok (.iconst 5, 1) := by decide +kernel
theorem dX4_sunkSleighs_6 : decode cX4_sunkSleighs 6 = .ok (.if_icmp .ge 30, 3) := by decide +kernel
theorem dX4_sunkSleighs_9 : decode cX4_sunkSleighs 9 = .ok (.aload_n 0, 1) := by decide +kernel
theorem dX4_sunkSleighs_10 : decode cX4_sunkSleighs 10 = .ok (.iload_n 2, 1) := by decide +kernel
theorem dX4_sunkSleighs_11 : decode cX4_sunkSleighs 11 = .ok (.invokevirtual 63, 3) := by decide +kernel
theorem dX4_sunkSleighs_14 : decode cX4_sunkSleighs 14 = .ok (.astore_n 3, 1) := by decide +kernel
theorem dX4_sunkSleighs_15 : decode cX4_sunkSleighs 15 = .ok (.aload_n 3, 1) := by decide +kernel
theorem dX4_sunkSleighs_16 : decode cX4_sunkSleighs 16 = .ok (.ifnull 14, 3) := by decide +kernel
theorem dX4_sunkSleighs_19 : decode cX4_sunkSleighs 19 = .ok (.aload_n 3, 1) := by decide +kernel
theorem dX4_sunkSleighs_20 : decode cX4_sunkSleighs 20 = .ok (.getfield 101, 3) := by decide +kernel
theorem dX4_sunkSleighs_23 : decode cX4_sunkSleighs 23 = .ok (.iconst 2, 1) := by decide +kernel
theorem dX4_sunkSleighs_24 : decode cX4_sunkSleighs 24 = .ok (.if_icmp .ne 6, 3) := by decide +kernel
theorem dX4_sunkSleighs_27 : decode cX4_sunkSleighs 27 = .ok (.iinc 1 1, 3) := by decide +kernel
theorem dX4_sunkSleighs_30 : decode cX4_sunkSleighs 30 = .ok (.iinc 2 1, 3) := by decide +kernel
theorem dX4_sunkSleighs_33 : decode cX4_sunkSleighs 33 = .ok (.goto (-29), 3) := by decide +kernel
theorem dX4_sunkSleighs_36 : decode cX4_sunkSleighs 36 = .ok (.iload_n 1, 1) := by decide +kernel
theorem dX4_sunkSleighs_37 : decode cX4_sunkSleighs 37 = .ok (.ireturn, 1) := by decide +kernel
theorem dX4_bagsThat_0 : decode cX4_bagsThat 0 = .ok (.iconst 0, 1) := by decide +kernel
theorem dX4_bagsThat_1 : decode cX4_bagsThat 1 = .ok (.istore_n 2, 1) := by decide +kernel
theorem dX4_bagsThat_2 : decode cX4_bagsThat 2 = .ok (.iconst 0, 1) := by decide +kernel
theorem dX4_bagsThat_3 : decode cX4_bagsThat 3 = .ok (.istore_n 3, 1) := by decide +kernel
theorem dX4_bagsThat_4 : decode cX4_bagsThat 4 = .ok (.iload_n 3, 1) := by decide +kernel
theorem dX4_bagsThat_5 : decode cX4_bagsThat 5 = .ok (.bipush 40, 2) := by decide +kernel
theorem dX4_bagsThat_7 : decode cX4_bagsThat 7 = .ok (.if_icmp .ge 33, 3) := by decide +kernel
theorem dX4_bagsThat_10 : decode cX4_bagsThat 10 = .ok (.aload_n 0, 1) := by decide +kernel
theorem dX4_bagsThat_11 : decode cX4_bagsThat 11 = .ok (.iload_n 3, 1) := by decide +kernel
theorem dX4_bagsThat_12 : decode cX4_bagsThat 12 = .ok (.invokevirtual 107, 3) := by decide +kernel
theorem dX4_bagsThat_15 : decode cX4_bagsThat 15 = .ok (.astore 4, 2) := by decide +kernel
theorem dX4_bagsThat_17 : decode cX4_bagsThat 17 = .ok (.aload 4, 2) := by decide +kernel
theorem dX4_bagsThat_19 : decode cX4_bagsThat 19 = .ok (.ifnull 15, 3) := by decide +kernel
theorem dX4_bagsThat_22 : decode cX4_bagsThat 22 = .ok (.aload 4, 2) := by decide +kernel
theorem dX4_bagsThat_24 : decode cX4_bagsThat 24 = .ok (.getfield 230, 3) := by decide +kernel
theorem dX4_bagsThat_27 : decode cX4_bagsThat 27 = .ok (.iload_n 1, 1) := by decide +kernel
theorem dX4_bagsThat_28 : decode cX4_bagsThat 28 = .ok (.if_icmp .ne 6, 3) := by decide +kernel
theorem dX4_bagsThat_31 : decode cX4_bagsThat 31 = .ok (.iinc 2 1, 3) := by decide +kernel
theorem dX4_bagsThat_34 : decode cX4_bagsThat 34 = .ok (.iinc 3 1, 3) := by decide +kernel
theorem dX4_bagsThat_37 : decode cX4_bagsThat 37 = .ok (.goto (-33), 3) := by decide +kernel
theorem dX4_bagsThat_40 : decode cX4_bagsThat 40 = .ok (.iload_n 2, 1) := by decide +kernel
theorem dX4_bagsThat_41 : decode cX4_bagsThat 41 = .ok (.ireturn, 1) := by decide +kernel
theorem dX4_digestPosts_0 : decode cX4_digestPosts 0 = .ok (.lload_n 1, 1) := by decide +kernel
theorem dX4_digestPosts_1 : decode cX4_digestPosts 1 = .ok (.lstore_n 3, 1) := by decide +kernel
theorem dX4_digestPosts_2 : decode cX4_digestPosts 2 = .ok (.iconst 0, 1) := by decide +kernel
theorem dX4_digestPosts_3 : decode cX4_digestPosts 3 = .ok (.istore 5, 2) := by decide +kernel
theorem dX4_digestPosts_5 : decode cX4_digestPosts 5 = .ok (.iload 5, 2) := by decide +kernel
theorem dX4_digestPosts_7 : decode cX4_digestPosts 7 = .ok (.bipush 8, 2) := by decide +kernel
theorem dX4_digestPosts_9 : decode cX4_digestPosts 9 = .ok (.if_icmp .ge 33, 3) := by decide +kernel
theorem dX4_digestPosts_12 : decode cX4_digestPosts 12 = .ok (.iload 5, 2) := by decide +kernel
theorem dX4_digestPosts_14 : decode cX4_digestPosts 14 = .ok (.aload_n 0, 1) := by decide +kernel
theorem dX4_digestPosts_15 : decode cX4_digestPosts 15 = .ok (.getfield 53, 3) := by decide +kernel
theorem dX4_digestPosts_18 : decode cX4_digestPosts 18 = .ok (.if_icmp .ge 18, 3) := by decide +kernel
theorem dX4_digestPosts_21 : decode cX4_digestPosts 21 = .ok (.lload_n 3, 1) := by decide +kernel
theorem dX4_digestPosts_22 : decode cX4_digestPosts 22 = .ok (.ldc2_w 231, 3) := by decide +kernel
theorem dX4_digestPosts_25 : decode cX4_digestPosts 25 = .ok (.lmul, 1) := by decide +kernel
theorem dX4_digestPosts_26 : decode cX4_digestPosts 26 = .ok (.aload_n 0, 1) := by decide +kernel
theorem dX4_digestPosts_27 : decode cX4_digestPosts 27 = .ok (.getfield 25, 3) := by decide +kernel
theorem dX4_digestPosts_30 : decode cX4_digestPosts 30 = .ok (.iload 5, 2) := by decide +kernel
theorem dX4_digestPosts_32 : decode cX4_digestPosts 32 = .ok (.iaload, 1) := by decide +kernel
theorem dX4_digestPosts_33 : decode cX4_digestPosts 33 = .ok (.i2l, 1) := by decide +kernel
theorem dX4_digestPosts_34 : decode cX4_digestPosts 34 = .ok (.ladd, 1) := by decide +kernel
theorem dX4_digestPosts_35 : decode cX4_digestPosts 35 = .ok (.lstore_n 3, 1) := by decide +kernel
theorem dX4_digestPosts_36 : decode cX4_digestPosts 36 = .ok (.iinc 5 1, 3) := by decide +kernel
theorem dX4_digestPosts_39 : decode cX4_digestPosts 39 = .ok (.goto (-34), 3) := by decide +kernel
theorem dX4_digestPosts_42 : decode cX4_digestPosts 42 = .ok (.lload_n 3, 1) := by decide +kernel
theorem dX4_digestPosts_43 : decode cX4_digestPosts 43 = .ok (.lreturn, 1) := by decide +kernel
theorem dX4_digestSleighs_0 : decode cX4_digestSleighs 0 = .ok (.lload_n 1, 1) := by decide +kernel
theorem dX4_digestSleighs_1 : decode cX4_digestSleighs 1 = .ok (.lstore_n 3, 1) := by decide +kernel
theorem dX4_digestSleighs_2 : decode cX4_digestSleighs 2 = .ok (.iconst 0, 1) := by decide +kernel
theorem dX4_digestSleighs_3 : decode cX4_digestSleighs 3 = .ok (.istore 5, 2) := by decide +kernel
theorem dX4_digestSleighs_5 : decode cX4_digestSleighs 5 = .ok (.iload 5, 2) := by decide +kernel
theorem dX4_digestSleighs_7 : decode cX4_digestSleighs 7 = .ok (.iconst 5, 1) := by decide +kernel
theorem dX4_digestSleighs_8 : decode cX4_digestSleighs 8 = .ok (.if_icmp .ge 50, 3) := by decide +kernel
theorem dX4_digestSleighs_11 : decode cX4_digestSleighs 11 = .ok (.iconst 0, 1) := by decide +kernel
theorem dX4_digestSleighs_12 : decode cX4_digestSleighs 12 = .ok (.istore 6, 2) := by decide +kernel
theorem dX4_digestSleighs_14 : decode cX4_digestSleighs 14 = .ok (.aload_n 0, 1) := by decide +kernel
theorem dX4_digestSleighs_15 : decode cX4_digestSleighs 15 = .ok (.iload 5, 2) := by decide +kernel
theorem dX4_digestSleighs_17 : decode cX4_digestSleighs 17 = .ok (.invokevirtual 63, 3) := by decide +kernel
theorem dX4_digestSleighs_20 : decode cX4_digestSleighs 20 = .ok (.ifnull 32, 3) := by decide +kernel
theorem dX4_digestSleighs_23 : decode cX4_digestSleighs 23 = .ok (.iload 6, 2) := by decide +kernel
theorem dX4_digestSleighs_25 : decode cX4_digestSleighs 25 = .ok (.bipush 9, 2) := by decide +kernel
theorem dX4_digestSleighs_27 : decode cX4_digestSleighs 27 = .ok (.if_icmp .ge 25, 3) := by decide +kernel
theorem dX4_digestSleighs_30 : decode cX4_digestSleighs 30 = .ok (.lload_n 3, 1) := by decide +kernel
theorem dX4_digestSleighs_31 : decode cX4_digestSleighs 31 = .ok (.ldc2_w 231, 3) := by decide +kernel
theorem dX4_digestSleighs_34 : decode cX4_digestSleighs 34 = .ok (.lmul, 1) := by decide +kernel
theorem dX4_digestSleighs_35 : decode cX4_digestSleighs 35 = .ok (.aload_n 0, 1) := by decide +kernel
theorem dX4_digestSleighs_36 : decode cX4_digestSleighs 36 = .ok (.iload 5, 2) := by decide +kernel
theorem dX4_digestSleighs_38 : decode cX4_digestSleighs 38 = .ok (.iload 6, 2) := by decide +kernel
theorem dX4_digestSleighs_40 : decode cX4_digestSleighs 40 = .ok (.invokevirtual 233, 3) := by decide +kernel
theorem dX4_digestSleighs_43 : decode cX4_digestSleighs 43 = .ok (.i2l, 1) := by decide +kernel
theorem dX4_digestSleighs_44 : decode cX4_digestSleighs 44 = .ok (.ladd, 1) := by decide +kernel
theorem dX4_digestSleighs_45 : decode cX4_digestSleighs 45 = .ok (.lstore_n 3, 1) := by decide +kernel
theorem dX4_digestSleighs_46 : decode cX4_digestSleighs 46 = .ok (.iinc 6 1, 3) := by decide +kernel
theorem dX4_digestSleighs_49 : decode cX4_digestSleighs 49 = .ok (.goto (-35), 3) := by decide +kernel
theorem dX4_digestSleighs_52 : decode cX4_digestSleighs 52 = .ok (.iinc 5 1, 3) := by decide +kernel
theorem dX4_digestSleighs_55 : decode cX4_digestSleighs 55 = .ok (.goto (-50), 3) := by decide +kernel
theorem dX4_digestSleighs_58 : decode cX4_digestSleighs 58 = .ok (.lload_n 3, 1) := by decide +kernel
theorem dX4_digestSleighs_59 : decode cX4_digestSleighs 59 = .ok (.lreturn, 1) := by decide +kernel
theorem dX4_digestBags_0 : decode cX4_digestBags 0 = .ok (.lload_n 1, 1) := by decide +kernel
theorem dX4_digestBags_1 : decode cX4_digestBags 1 = .ok (.lstore_n 3, 1) := by decide +kernel
theorem dX4_digestBags_2 : decode cX4_digestBags 2 = .ok (.iconst 0, 1) := by decide +kernel
theorem dX4_digestBags_3 : decode cX4_digestBags 3 = .ok (.istore 5, 2) := by decide +kernel
theorem dX4_digestBags_5 : decode cX4_digestBags 5 = .ok (.iload 5, 2) := by decide +kernel
theorem dX4_digestBags_7 : decode cX4_digestBags 7 = .ok (.bipush 40, 2) := by decide +kernel
theorem dX4_digestBags_9 : decode cX4_digestBags 9 = .ok (.if_icmp .ge 52, 3) := by decide +kernel
theorem dX4_digestBags_12 : decode cX4_digestBags 12 = .ok (.aload_n 0, 1) := by decide +kernel
theorem dX4_digestBags_13 : decode cX4_digestBags 13 = .ok (.iload 5, 2) := by decide +kernel
theorem dX4_digestBags_15 : decode cX4_digestBags 15 = .ok (.invokevirtual 107, 3) := by decide +kernel
theorem dX4_digestBags_18 : decode cX4_digestBags 18 = .ok (.astore 6, 2) := by decide +kernel
theorem dX4_digestBags_20 : decode cX4_digestBags 20 = .ok (.iconst 0, 1) := by decide +kernel
theorem dX4_digestBags_21 : decode cX4_digestBags 21 = .ok (.istore 7, 2) := by decide +kernel
theorem dX4_digestBags_23 : decode cX4_digestBags 23 = .ok (.aload 6, 2) := by decide +kernel
theorem dX4_digestBags_25 : decode cX4_digestBags 25 = .ok (.ifnull 30, 3) := by decide +kernel
theorem dX4_digestBags_28 : decode cX4_digestBags 28 = .ok (.iload 7, 2) := by decide +kernel
theorem dX4_digestBags_30 : decode cX4_digestBags 30 = .ok (.iconst 5, 1) := by decide +kernel
theorem dX4_digestBags_31 : decode cX4_digestBags 31 = .ok (.if_icmp .ge 24, 3) := by decide +kernel
theorem dX4_digestBags_34 : decode cX4_digestBags 34 = .ok (.lload_n 3, 1) := by decide +kernel
theorem dX4_digestBags_35 : decode cX4_digestBags 35 = .ok (.ldc2_w 231, 3) := by decide +kernel
theorem dX4_digestBags_38 : decode cX4_digestBags 38 = .ok (.lmul, 1) := by decide +kernel
theorem dX4_digestBags_39 : decode cX4_digestBags 39 = .ok (.aload 6, 2) := by decide +kernel
theorem dX4_digestBags_41 : decode cX4_digestBags 41 = .ok (.iload 7, 2) := by decide +kernel
theorem dX4_digestBags_43 : decode cX4_digestBags 43 = .ok (.invokevirtual 236, 3) := by decide +kernel
theorem dX4_digestBags_46 : decode cX4_digestBags 46 = .ok (.i2l, 1) := by decide +kernel
theorem dX4_digestBags_47 : decode cX4_digestBags 47 = .ok (.ladd, 1) := by decide +kernel
theorem dX4_digestBags_48 : decode cX4_digestBags 48 = .ok (.lstore_n 3, 1) := by decide +kernel
theorem dX4_digestBags_49 : decode cX4_digestBags 49 = .ok (.iinc 7 1, 3) := by decide +kernel
theorem dX4_digestBags_52 : decode cX4_digestBags 52 = .ok (.goto (-29), 3) := by decide +kernel
theorem dX4_digestBags_55 : decode cX4_digestBags 55 = .ok (.iinc 5 1, 3) := by decide +kernel
theorem dX4_digestBags_58 : decode cX4_digestBags 58 = .ok (.goto (-53), 3) := by decide +kernel
theorem dX4_digestBags_61 : decode cX4_digestBags 61 = .ok (.lload_n 3, 1) := by decide +kernel
theorem dX4_digestBags_62 : decode cX4_digestBags 62 = .ok (.lreturn, 1) := by decide +kernel
theorem dX5_init_0 : decode cX5_init 0 = .ok (.aload_n 0, 1) := by decide +kernel
theorem dX5_init_1 : decode cX5_init 1 = .ok (.invokespecial 1, 3) := by decide +kernel
theorem dX5_init_4 : decode cX5_init 4 = .ok (.aload_n 0, 1) := by decide +kernel
theorem dX5_init_5 : decode cX5_init 5 = .ok (.new 7, 3) := by decide +kernel
theorem dX5_init_8 : decode cX5_init 8 = .ok (.dup, 1) := by decide +kernel
theorem dX5_init_9 : decode cX5_init 9 = .ok (.invokespecial 9, 3) := by decide +kernel
theorem dX5_init_12 : decode cX5_init 12 = .ok (.putfield 10, 3) := by decide +kernel
theorem dX5_init_15 : decode cX5_init 15 = .ok (.aload_n 0, 1) := by decide +kernel
theorem dX5_init_16 : decode cX5_init 16 = .ok (.new 7, 3) := by decide +kernel
theorem dX5_init_19 : decode cX5_init 19 = .ok (.dup, 1) := by decide +kernel
theorem dX5_init_20 : decode cX5_init 20 = .ok (.invokespecial 9, 3) := by decide +kernel
theorem dX5_init_23 : decode cX5_init 23 = .ok (.putfield 16, 3) := by decide +kernel
theorem dX5_init_26 : decode cX5_init 26 = .ok (.return_, 1) := by decide +kernel
theorem dX5_setIce_0 : decode cX5_setIce 0 = .ok (.iload_n 1, 1) := by decide +kernel
theorem dX5_setIce_1 : decode cX5_setIce 1 = .ok (.iload_n 2, 1) := by decide +kernel
theorem dX5_setIce_2 : decode cX5_setIce 2 = .ok (.iload_n 3, 1) := by decide +kernel
theorem dX5_setIce_3 : decode cX5_setIce 3 = .ok (.iload 4, 2) := by decide +kernel
theorem dX5_setIce_5 : decode cX5_setIce 5 = .ok (.invokestatic 19, 3) := by decide +kernel
theorem dX5_setIce_8 : decode cX5_setIce 8 = .ok (.ifCond .eq 15, 3) := by decide +kernel
theorem dX5_setIce_11 : decode cX5_setIce 11 = .ok (.iload 5, 2) := by decide +kernel
theorem dX5_setIce_13 : decode cX5_setIce 13 = .ok (.iconst (-1), 1) := by decide +kernel
theorem dX5_setIce_14 : decode cX5_setIce 14 = .ok (.sipush 200, 3) := by decide +kernel
theorem dX5_setIce_17 : decode cX5_setIce 17 = .ok (.invokestatic 23, 3) := by decide +kernel
theorem dX5_setIce_20 : decode cX5_setIce 20 = .ok (.ifCond .ne 13, 3) := by decide +kernel
theorem dX5_setIce_23 : decode cX5_setIce 23 = .ok (.new 27, 3) := by decide +kernel
theorem dX5_setIce_26 : decode cX5_setIce 26 = .ok (.dup, 1) := by decide +kernel
theorem dX5_setIce_27 : decode cX5_setIce 27 = .ok (.ldc 29, 2) := by decide +kernel
theorem dX5_setIce_29 : decode cX5_setIce 29 = .ok (.invokespecial 31, 3) := by decide +kernel
theorem dX5_setIce_32 : decode cX5_setIce 32 = .ok (.athrow, 1) := by decide +kernel
theorem dX5_setIce_33 : decode cX5_setIce 33 = .ok (.iload 5, 2) := by decide +kernel
theorem dX5_setIce_35 : decode cX5_setIce 35 = .ok (.iconst (-1), 1) := by decide +kernel
theorem dX5_setIce_36 : decode cX5_setIce 36 = .ok (.if_icmp .eq 28, 3) := by decide +kernel
theorem dX5_setIce_39 : decode cX5_setIce 39 = .ok (.aload_n 0, 1) := by decide +kernel
theorem dX5_setIce_40 : decode cX5_setIce 40 = .ok (.getfield 10, 3) := by decide +kernel
theorem dX5_setIce_43 : decode cX5_setIce 43 = .ok (.iload_n 1, 1) := by decide +kernel
theorem dX5_setIce_44 : decode cX5_setIce 44 = .ok (.iload_n 2, 1) := by decide +kernel
theorem dX5_setIce_45 : decode cX5_setIce 45 = .ok (.iload_n 3, 1) := by decide +kernel
theorem dX5_setIce_46 : decode cX5_setIce 46 = .ok (.iload 4, 2) := by decide +kernel
theorem dX5_setIce_48 : decode cX5_setIce 48 = .ok (.invokevirtual 34, 3) := by decide +kernel
theorem dX5_setIce_51 : decode cX5_setIce 51 = .ok (.ifCond .eq 13, 3) := by decide +kernel
theorem dX5_setIce_54 : decode cX5_setIce 54 = .ok (.new 37, 3) := by decide +kernel
theorem dX5_setIce_57 : decode cX5_setIce 57 = .ok (.dup, 1) := by decide +kernel
theorem dX5_setIce_58 : decode cX5_setIce 58 = .ok (.ldc 39, 2) := by decide +kernel
theorem dX5_setIce_60 : decode cX5_setIce 60 = .ok (.invokespecial 41, 3) := by decide +kernel
theorem dX5_setIce_63 : decode cX5_setIce 63 = .ok (.athrow, 1) := by decide +kernel
theorem dX5_setIce_64 : decode cX5_setIce 64 = .ok (.iload_n 2, 1) := by decide +kernel
theorem dX5_setIce_65 : decode cX5_setIce 65 = .ok (.istore 6, 2) := by decide +kernel
theorem dX5_setIce_67 : decode cX5_setIce 67 = .ok (.iload 6, 2) := by decide +kernel
theorem dX5_setIce_69 : decode cX5_setIce 69 = .ok (.iload_n 2, 1) := by decide +kernel
theorem dX5_setIce_70 : decode cX5_setIce 70 = .ok (.iload 4, 2) := by decide +kernel
theorem dX5_setIce_72 : decode cX5_setIce 72 = .ok (.iadd, 1) := by decide +kernel
theorem dX5_setIce_73 : decode cX5_setIce 73 = .ok (.if_icmp .ge 45, 3) := by decide +kernel
theorem dX5_setIce_76 : decode cX5_setIce 76 = .ok (.iload_n 1, 1) := by decide +kernel
theorem dX5_setIce_77 : decode cX5_setIce 77 = .ok (.istore 7, 2) := by decide +kernel
theorem dX5_setIce_79 : decode cX5_setIce 79 = .ok (.iload 7, 2) := by decide +kernel
theorem dX5_setIce_81 : decode cX5_setIce 81 = .ok (.iload_n 1, 1) := by decide +kernel
theorem dX5_setIce_82 : decode cX5_setIce 82 = .ok (.iload_n 3, 1) := by decide +kernel
theorem dX5_setIce_83 : decode cX5_setIce 83 = .ok (.iadd, 1) := by decide +kernel
theorem dX5_setIce_84 : decode cX5_setIce 84 = .ok (.if_icmp .ge 28, 3) := by decide +kernel
theorem dX5_setIce_87 : decode cX5_setIce 87 = .ok (.aload_n 0, 1) := by decide +kernel
theorem dX5_setIce_88 : decode cX5_setIce 88 = .ok (.getfield 10, 3) := by decide +kernel
theorem dX5_setIce_91 : decode cX5_setIce 91 = .ok (.getfield 42, 3) := by decide +kernel
theorem dX5_setIce_94 : decode cX5_setIce 94 = .ok (.iload 7, 2) := by decide +kernel
theorem dX5_setIce_96 : decode cX5_setIce 96 = .ok (.iload 6, 2) := by decide +kernel
theorem dX5_setIce_98 : decode cX5_setIce 98 = .ok (.invokestatic 46, 3) := by decide +kernel
theorem dX5_setIce_101 : decode cX5_setIce 101 = .ok (.iload 5, 2) := by decide +kernel
theorem dX5_setIce_103 : decode cX5_setIce 103 = .ok (.invokevirtual 50, 3) := by decide +kernel
theorem dX5_setIce_106 : decode cX5_setIce 106 = .ok (.iinc 7 1, 3) := by decide +kernel
theorem dX5_setIce_109 : decode cX5_setIce 109 = .ok (.goto (-30), 3) := by decide +kernel
theorem dX5_setIce_112 : decode cX5_setIce 112 = .ok (.iinc 6 1, 3) := by decide +kernel
theorem dX5_setIce_115 : decode cX5_setIce 115 = .ok (.goto (-48), 3) := by decide +kernel
theorem dX5_setIce_118 : decode cX5_setIce 118 = .ok (.iload_n 3, 1) := by decide +kernel
theorem dX5_setIce_119 : decode cX5_setIce 119 = .ok (.iload 4, 2) := by decide +kernel
theorem dX5_setIce_121 : decode cX5_setIce 121 = .ok (.imul, 1) := by decide +kernel
theorem dX5_setIce_122 : decode cX5_setIce 122 = .ok (.ireturn, 1) := by decide +kernel
theorem dX5_setSnow_0 : decode cX5_setSnow 0 = .ok (.iload_n 1, 1) := by decide +kernel
theorem dX5_setSnow_1 : decode cX5_setSnow 1 = .ok (.iload_n 2, 1) := by decide +kernel
theorem dX5_setSnow_2 : decode cX5_setSnow 2 = .ok (.invokestatic 56, 3) := by decide +kernel
theorem dX5_setSnow_5 : decode cX5_setSnow 5 = .ok (.ifCond .ne 13, 3) := by decide +kernel
theorem dX5_setSnow_8 : decode cX5_setSnow 8 = .ok (.new 60, 3) := by decide +kernel
theorem dX5_setSnow_11 : decode cX5_setSnow 11 = .ok (.dup, 1) := by decide +kernel
theorem dX5_setSnow_12 : decode cX5_setSnow 12 = .ok (.ldc 62, 2) := by decide +kernel
theorem dX5_setSnow_14 : decode cX5_setSnow 14 = .ok (.invokespecial 64, 3) := by decide +kernel
theorem dX5_setSnow_17 : decode cX5_setSnow 17 = .ok (.athrow, 1) := by decide +kernel
theorem dX5_setSnow_18 : decode cX5_setSnow 18 = .ok (.iload_n 3, 1) := by decide +kernel
theorem dX5_setSnow_19 : decode cX5_setSnow 19 = .ok (.iconst 1, 1) := by decide +kernel
theorem dX5_setSnow_20 : decode cX5_setSnow 20 = .ok (.bipush 9, 2) := by decide +kernel
theorem dX5_setSnow_22 : decode cX5_setSnow 22 = .ok (.invokestatic 23, 3) := by decide +kernel
theorem dX5_setSnow_25 : decode cX5_setSnow 25 = .ok (.ifCond .ne 13, 3) := by decide +kernel
theorem dX5_setSnow_28 : decode cX5_setSnow 28 = .ok (.new 27, 3) := by decide +kernel
theorem dX5_setSnow_31 : decode cX5_setSnow 31 = .ok (.dup, 1) := by decide +kernel
theorem dX5_setSnow_32 : decode cX5_setSnow 32 = .ok (.ldc 65, 2) := by decide +kernel
theorem dX5_setSnow_34 : decode cX5_setSnow 34 = .ok (.invokespecial 31, 3) := by decide +kernel
theorem dX5_setSnow_37 : decode cX5_setSnow 37 = .ok (.athrow, 1) := by decide +kernel
theorem dX5_setSnow_38 : decode cX5_setSnow 38 = .ok (.aload_n 0, 1) := by decide +kernel
theorem dX5_setSnow_39 : decode cX5_setSnow 39 = .ok (.getfield 10, 3) := by decide +kernel
theorem dX5_setSnow_42 : decode cX5_setSnow 42 = .ok (.getfield 42, 3) := by decide +kernel
theorem dX5_setSnow_45 : decode cX5_setSnow 45 = .ok (.iload_n 1, 1) := by decide +kernel
theorem dX5_setSnow_46 : decode cX5_setSnow 46 = .ok (.iload_n 2, 1) := by decide +kernel
theorem dX5_setSnow_47 : decode cX5_setSnow 47 = .ok (.invokestatic 46, 3) := by decide +kernel
theorem dX5_setSnow_50 : decode cX5_setSnow 50 = .ok (.invokevirtual 67, 3) := by decide +kernel
theorem dX5_setSnow_53 : decode cX5_setSnow 53 = .ok (.istore 4, 2) := by decide +kernel
theorem dX5_setSnow_55 : decode cX5_setSnow 55 = .ok (.aload_n 0, 1) := by decide +kernel
theorem dX5_setSnow_56 : decode cX5_setSnow 56 = .ok (.getfield 10, 3) := by decide +kernel
theorem dX5_setSnow_59 : decode cX5_setSnow 59 = .ok (.getfield 42, 3) := by decide +kernel
theorem dX5_setSnow_62 : decode cX5_setSnow 62 = .ok (.iload_n 1, 1) := by decide +kernel
theorem dX5_setSnow_63 : decode cX5_setSnow 63 = .ok (.iload_n 2, 1) := by decide +kernel
theorem dX5_setSnow_64 : decode cX5_setSnow 64 = .ok (.invokestatic 46, 3) := by decide +kernel
theorem dX5_setSnow_67 : decode cX5_setSnow 67 = .ok (.iload_n 3, 1) := by decide +kernel
theorem dX5_setSnow_68 : decode cX5_setSnow 68 = .ok (.invokevirtual 71, 3) := by decide +kernel
theorem dX5_setSnow_71 : decode cX5_setSnow 71 = .ok (.iload 4, 2) := by decide +kernel
theorem dX5_setSnow_73 : decode cX5_setSnow 73 = .ok (.ireturn, 1) := by decide +kernel
theorem dX5_setCold_0 : decode cX5_setCold 0 = .ok (.iload_n 1, 1) := by decide +kernel
theorem dX5_setCold_1 : decode cX5_setCold 1 = .ok (.iconst 0, 1) := by decide +kernel
theorem dX5_setCold_2 : decode cX5_setCold 2 = .ok (.bipush 7, 2) := by decide +kernel
theorem dX5_setCold_4 : decode cX5_setCold 4 = .ok (.invokestatic 23, 3) := by decide +kernel
theorem dX5_setCold_7 : decode cX5_setCold 7 = .ok (.ifCond .ne 13, 3) := by decide +kernel
theorem dX5_setCold_10 : decode cX5_setCold 10 = .ok (.new 60, 3) := by decide +kernel
theorem dX5_setCold_13 : decode cX5_setCold 13 = .ok (.dup, 1) := by decide +kernel
theorem dX5_setCold_14 : decode cX5_setCold 14 = .ok (.ldc 74, 2) := by decide +kernel
theorem dX5_setCold_16 : decode cX5_setCold 16 = .ok (.invokespecial 64, 3) := by decide +kernel
theorem dX5_setCold_19 : decode cX5_setCold 19 = .ok (.athrow, 1) := by decide +kernel
theorem dX5_setCold_20 : decode cX5_setCold 20 = .ok (.iload_n 2, 1) := by decide +kernel
theorem dX5_setCold_21 : decode cX5_setCold 21 = .ok (.bipush (-9), 2) := by decide +kernel
theorem dX5_setCold_23 : decode cX5_setCold 23 = .ok (.bipush 9, 2) := by decide +kernel
theorem dX5_setCold_25 : decode cX5_setCold 25 = .ok (.invokestatic 23, 3) := by decide +kernel
theorem dX5_setCold_28 : decode cX5_setCold 28 = .ok (.ifCond .ne 13, 3) := by decide +kernel
theorem dX5_setCold_31 : decode cX5_setCold 31 = .ok (.new 27, 3) := by decide +kernel
theorem dX5_setCold_34 : decode cX5_setCold 34 = .ok (.dup, 1) := by decide +kernel
theorem dX5_setCold_35 : decode cX5_setCold 35 = .ok (.ldc 76, 2) := by decide +kernel
theorem dX5_setCold_37 : decode cX5_setCold 37 = .ok (.invokespecial 31, 3) := by decide +kernel
theorem dX5_setCold_40 : decode cX5_setCold 40 = .ok (.athrow, 1) := by decide +kernel
theorem dX5_setCold_41 : decode cX5_setCold 41 = .ok (.aload_n 0, 1) := by decide +kernel
theorem dX5_setCold_42 : decode cX5_setCold 42 = .ok (.getfield 10, 3) := by decide +kernel
theorem dX5_setCold_45 : decode cX5_setCold 45 = .ok (.getfield 42, 3) := by decide +kernel
theorem dX5_setCold_48 : decode cX5_setCold 48 = .ok (.getfield 78, 3) := by decide +kernel
theorem dX5_setCold_51 : decode cX5_setCold 51 = .ok (.iload_n 1, 1) := by decide +kernel
theorem dX5_setCold_52 : decode cX5_setCold 52 = .ok (.iaload, 1) := by decide +kernel
theorem dX5_setCold_53 : decode cX5_setCold 53 = .ok (.istore_n 3, 1) := by decide +kernel
theorem dX5_setCold_54 : decode cX5_setCold 54 = .ok (.aload_n 0, 1) := by decide +kernel
theorem dX5_setCold_55 : decode cX5_setCold 55 = .ok (.getfield 10, 3) := by decide +kernel
theorem dX5_setCold_58 : decode cX5_setCold 58 = .ok (.getfield 42, 3) := by decide +kernel
theorem dX5_setCold_61 : decode cX5_setCold 61 = .ok (.getfield 78, 3) := by decide +kernel
theorem dX5_setCold_64 : decode cX5_setCold 64 = .ok (.iload_n 1, 1) := by decide +kernel
theorem dX5_setCold_65 : decode cX5_setCold 65 = .ok (.iload_n 2, 1) := by decide +kernel
theorem dX5_setCold_66 : decode cX5_setCold 66 = .ok (.iastore, 1) := by decide +kernel
theorem dX5_setCold_67 : decode cX5_setCold 67 = .ok (.iload_n 3, 1) := by decide +kernel
theorem dX5_setCold_68 : decode cX5_setCold 68 = .ok (.ireturn, 1) := by decide +kernel
theorem dX5_cell_0 : decode cX5_cell 0 = .ok (.iload_n 1, 1) := by decide +kernel
theorem dX5_cell_1 : decode cX5_cell 1 = .ok (.iload_n 2, 1) := by decide +kernel
theorem dX5_cell_2 : decode cX5_cell 2 = .ok (.invokestatic 56, 3) := by decide +kernel
theorem dX5_cell_5 : decode cX5_cell 5 = .ok (.ifCond .eq 12, 3) := by decide +kernel
theorem dX5_cell_8 : decode cX5_cell 8 = .ok (.iload_n 3, 1) := by decide +kernel
theorem dX5_cell_9 : decode cX5_cell 9 = .ok (.iconst 0, 1) := by decide +kernel
theorem dX5_cell_10 : decode cX5_cell 10 = .ok (.iconst 5, 1) := by decide +kernel
theorem dX5_cell_11 : decode cX5_cell 11 = .ok (.invokestatic 23, 3) := by decide +kernel
theorem dX5_cell_14 : decode cX5_cell 14 = .ok (.ifCond .ne 13, 3) := by decide +kernel
theorem dX5_cell_17 : decode cX5_cell 17 = .ok (.new 60, 3) := by decide +kernel
theorem dX5_cell_20 : decode cX5_cell 20 = .ok (.dup, 1) := by decide +kernel
theorem dX5_cell_21 : decode cX5_cell 21 = .ok (.ldc 82, 2) := by decide +kernel
theorem dX5_cell_23 : decode cX5_cell 23 = .ok (.invokespecial 64, 3) := by decide +kernel
theorem dX5_cell_26 : decode cX5_cell 26 = .ok (.athrow, 1) := by decide +kernel
theorem dX5_cell_27 : decode cX5_cell 27 = .ok (.aload_n 0, 1) := by decide +kernel
theorem dX5_cell_28 : decode cX5_cell 28 = .ok (.getfield 10, 3) := by decide +kernel
theorem dX5_cell_31 : decode cX5_cell 31 = .ok (.iload_n 1, 1) := by decide +kernel
theorem dX5_cell_32 : decode cX5_cell 32 = .ok (.iload_n 2, 1) := by decide +kernel
theorem dX5_cell_33 : decode cX5_cell 33 = .ok (.invokestatic 46, 3) := by decide +kernel
theorem dX5_cell_36 : decode cX5_cell 36 = .ok (.iload_n 3, 1) := by decide +kernel
theorem dX5_cell_37 : decode cX5_cell 37 = .ok (.invokevirtual 84, 3) := by decide +kernel
theorem dX5_cell_40 : decode cX5_cell 40 = .ok (.ireturn, 1) := by decide +kernel
theorem dX5_addPost_0 : decode cX5_addPost 0 = .ok (.iload_n 1, 1) := by decide +kernel
theorem dX5_addPost_1 : decode cX5_addPost 1 = .ok (.iload_n 2, 1) := by decide +kernel
theorem dX5_addPost_2 : decode cX5_addPost 2 = .ok (.invokestatic 56, 3) := by decide +kernel
theorem dX5_addPost_5 : decode cX5_addPost 5 = .ok (.ifCond .ne 13, 3) := by decide +kernel
theorem dX5_addPost_8 : decode cX5_addPost 8 = .ok (.new 60, 3) := by decide +kernel
theorem dX5_addPost_11 : decode cX5_addPost 11 = .ok (.dup, 1) := by decide +kernel
theorem dX5_addPost_12 : decode cX5_addPost 12 = .ok (.ldc 62, 2) := by decide +kernel
theorem dX5_addPost_14 : decode cX5_addPost 14 = .ok (.invokespecial 64, 3) := by decide +kernel
theorem dX5_addPost_17 : decode cX5_addPost 17 = .ok (.athrow, 1) := by decide +kernel
theorem dX5_addPost_18 : decode cX5_addPost 18 = .ok (.iload_n 1, 1) := by decide +kernel
theorem dX5_addPost_19 : decode cX5_addPost 19 = .ok (.iload_n 2, 1) := by decide +kernel
theorem dX5_addPost_20 : decode cX5_addPost 20 = .ok (.invokestatic 46, 3) := by decide +kernel
theorem dX5_addPost_23 : decode cX5_addPost 23 = .ok (.istore_n 3, 1) := by decide +kernel
theorem dX5_addPost_24 : decode cX5_addPost 24 = .ok (.aload_n 0, 1) := by decide +kernel
theorem dX5_addPost_25 : decode cX5_addPost 25 = .ok (.getfield 10, 3) := by decide +kernel
theorem dX5_addPost_28 : decode cX5_addPost 28 = .ok (.iload_n 3, 1) := by decide +kernel
theorem dX5_addPost_29 : decode cX5_addPost 29 = .ok (.invokevirtual 87, 3) := by decide +kernel
theorem dX5_addPost_32 : decode cX5_addPost 32 = .ok (.iconst (-1), 1) := by decide +kernel
theorem dX5_addPost_33 : decode cX5_addPost 33 = .ok (.if_icmp .ne 15, 3) := by decide +kernel
theorem dX5_addPost_36 : decode cX5_addPost 36 = .ok (.aload_n 0, 1) := by decide +kernel
theorem dX5_addPost_37 : decode cX5_addPost 37 = .ok (.getfield 10, 3) := by decide +kernel
theorem dX5_addPost_40 : decode cX5_addPost 40 = .ok (.getfield 90, 3) := by decide +kernel
theorem dX5_addPost_43 : decode cX5_addPost 43 = .ok (.bipush 8, 2) := by decide +kernel
theorem dX5_addPost_45 : decode cX5_addPost 45 = .ok (.if_icmp .lt 13, 3) := by decide +kernel
theorem dX5_addPost_48 : decode cX5_addPost 48 = .ok (.new 37, 3) := by decide +kernel
theorem dX5_addPost_51 : decode cX5_addPost 51 = .ok (.dup, 1) := by decide +kernel
theorem dX5_addPost_52 : decode cX5_addPost 52 = .ok (.ldc 94, 2) := by decide +kernel
theorem dX5_addPost_54 : decode cX5_addPost 54 = .ok (.invokespecial 41, 3) := by decide +kernel
theorem dX5_addPost_57 : decode cX5_addPost 57 = .ok (.athrow, 1) := by decide +kernel
theorem dX5_addPost_58 : decode cX5_addPost 58 = .ok (.aload_n 0, 1) := by decide +kernel
theorem dX5_addPost_59 : decode cX5_addPost 59 = .ok (.getfield 10, 3) := by decide +kernel
theorem dX5_addPost_62 : decode cX5_addPost 62 = .ok (.iload_n 3, 1) := by decide +kernel
theorem dX5_addPost_63 : decode cX5_addPost 63 = .ok (.invokevirtual 96, 3) := by decide +kernel
theorem dX5_addPost_66 : decode cX5_addPost 66 = .ok (.ireturn, 1) := by decide +kernel
theorem dX5_addSleigh_0 : decode cX5_addSleigh 0 = .ok (.aload_n 0, 1) := by decide +kernel
theorem dX5_addSleigh_1 : decode cX5_addSleigh 1 = .ok (.getfield 10, 3) := by decide +kernel
theorem dX5_addSleigh_4 : decode cX5_addSleigh 4 = .ok (.iload_n 1, 1) := by decide +kernel
theorem dX5_addSleigh_5 : decode cX5_addSleigh 5 = .ok (.invokevirtual 99, 3) := by decide +kernel
theorem dX5_addSleigh_8 : decode cX5_addSleigh 8 = .ok (.ifCond .ne 13, 3) := by decide +kernel
theorem dX5_addSleigh_11 : decode cX5_addSleigh 11 = .ok (.new 60, 3) := by decide +kernel
theorem dX5_addSleigh_14 : decode cX5_addSleigh 14 = .ok (.dup, 1) := by decide +kernel
theorem dX5_addSleigh_15 : decode cX5_addSleigh 15 = .ok (.ldc 103, 2) := by decide +kernel
theorem dX5_addSleigh_17 : decode cX5_addSleigh 17 = .ok (.invokespecial 64, 3) := by decide +kernel
theorem dX5_addSleigh_20 : decode cX5_addSleigh 20 = .ok (.athrow, 1) := by decide +kernel
theorem dX5_addSleigh_21 : decode cX5_addSleigh 21 = .ok (.iload_n 2, 1) := by decide +kernel
theorem dX5_addSleigh_22 : decode cX5_addSleigh 22 = .ok (.iconst 1, 1) := by decide +kernel
theorem dX5_addSleigh_23 : decode cX5_addSleigh 23 = .ok (.bipush 6, 2) := by decide +kernel
theorem dX5_addSleigh_25 : decode cX5_addSleigh 25 = .ok (.invokestatic 23, 3) := by decide +kernel
theorem dX5_addSleigh_28 : decode cX5_addSleigh 28 = .ok (.ifCond .ne 13, 3) := by decide +kernel
theorem dX5_addSleigh_31 : decode cX5_addSleigh 31 = .ok (.new 27, 3) := by decide +kernel
theorem dX5_addSleigh_34 : decode cX5_addSleigh 34 = .ok (.dup, 1) := by decide +kernel
theorem dX5_addSleigh_35 : decode cX5_addSleigh 35 = .ok (.ldc 105, 2) := by decide +kernel
theorem dX5_addSleigh_37 : decode cX5_addSleigh 37 = .ok (.invokespecial 31, 3) := by decide +kernel
theorem dX5_addSleigh_40 : decode cX5_addSleigh 40 = .ok (.athrow, 1) := by decide +kernel
theorem dX5_addSleigh_41 : decode cX5_addSleigh 41 = .ok (.aload_n 0, 1) := by decide +kernel
theorem dX5_addSleigh_42 : decode cX5_addSleigh 42 = .ok (.getfield 10, 3) := by decide +kernel
theorem dX5_addSleigh_45 : decode cX5_addSleigh 45 = .ok (.getfield 107, 3) := by decide +kernel
theorem dX5_addSleigh_48 : decode cX5_addSleigh 48 = .ok (.iconst 5, 1) := by decide +kernel
theorem dX5_addSleigh_49 : decode cX5_addSleigh 49 = .ok (.if_icmp .lt 13, 3) := by decide +kernel
theorem dX5_addSleigh_52 : decode cX5_addSleigh 52 = .ok (.new 37, 3) := by decide +kernel
theorem dX5_addSleigh_55 : decode cX5_addSleigh 55 = .ok (.dup, 1) := by decide +kernel
theorem dX5_addSleigh_56 : decode cX5_addSleigh 56 = .ok (.ldc 110, 2) := by decide +kernel
theorem dX5_addSleigh_58 : decode cX5_addSleigh 58 = .ok (.invokespecial 41, 3) := by decide +kernel
theorem dX5_addSleigh_61 : decode cX5_addSleigh 61 = .ok (.athrow, 1) := by decide +kernel
theorem dX5_addSleigh_62 : decode cX5_addSleigh 62 = .ok (.aload_n 0, 1) := by decide +kernel
theorem dX5_addSleigh_63 : decode cX5_addSleigh 63 = .ok (.getfield 10, 3) := by decide +kernel
theorem dX5_addSleigh_66 : decode cX5_addSleigh 66 = .ok (.iload_n 1, 1) := by decide +kernel
theorem dX5_addSleigh_67 : decode cX5_addSleigh 67 = .ok (.iload_n 2, 1) := by decide +kernel
theorem dX5_addSleigh_68 : decode cX5_addSleigh 68 = .ok (.invokevirtual 112, 3) := by decide +kernel
theorem dX5_addSleigh_71 : decode cX5_addSleigh 71 = .ok (.ireturn, 1) := by decide +kernel
theorem dX5_addBag_0 : decode cX5_addBag 0 = .ok (.aload_n 0, 1) := by decide +kernel
theorem dX5_addBag_1 : decode cX5_addBag 1 = .ok (.getfield 10, 3) := by decide +kernel
theorem dX5_addBag_4 : decode cX5_addBag 4 = .ok (.iload_n 1, 1) := by decide +kernel
theorem dX5_addBag_5 : decode cX5_addBag 5 = .ok (.invokevirtual 99, 3) := by decide +kernel
theorem dX5_addBag_8 : decode cX5_addBag 8 = .ok (.ifCond .eq 14, 3) := by decide +kernel
theorem dX5_addBag_11 : decode cX5_addBag 11 = .ok (.aload_n 0, 1) := by decide +kernel
theorem dX5_addBag_12 : decode cX5_addBag 12 = .ok (.getfield 10, 3) := by decide +kernel
theorem dX5_addBag_15 : decode cX5_addBag 15 = .ok (.iload_n 2, 1) := by decide +kernel
theorem dX5_addBag_16 : decode cX5_addBag 16 = .ok (.invokevirtual 99, 3) := by decide +kernel
theorem dX5_addBag_19 : decode cX5_addBag 19 = .ok (.ifCond .ne 13, 3) := by decide +kernel
theorem dX5_addBag_22 : decode cX5_addBag 22 = .ok (.new 60, 3) := by decide +kernel
theorem dX5_addBag_25 : decode cX5_addBag 25 = .ok (.dup, 1) := by decide +kernel
theorem dX5_addBag_26 : decode cX5_addBag 26 = .ok (.ldc 103, 2) := by decide +kernel
theorem dX5_addBag_28 : decode cX5_addBag 28 = .ok (.invokespecial 64, 3) := by decide +kernel
theorem dX5_addBag_31 : decode cX5_addBag 31 = .ok (.athrow, 1) := by decide +kernel
theorem dX5_addBag_32 : decode cX5_addBag 32 = .ok (.iload_n 1, 1) := by decide +kernel
theorem dX5_addBag_33 : decode cX5_addBag 33 = .ok (.iload_n 2, 1) := by decide +kernel
theorem dX5_addBag_34 : decode cX5_addBag 34 = .ok (.if_icmp .eq 13, 3) := by decide +kernel
theorem dX5_addBag_37 : decode cX5_addBag 37 = .ok (.iload_n 3, 1) := by decide +kernel
theorem dX5_addBag_38 : decode cX5_addBag 38 = .ok (.iconst 1, 1) := by decide +kernel
theorem dX5_addBag_39 : decode cX5_addBag 39 = .ok (.bipush 30, 2) := by decide +kernel
theorem dX5_addBag_41 : decode cX5_addBag 41 = .ok (.invokestatic 23, 3) := by decide +kernel
theorem dX5_addBag_44 : decode cX5_addBag 44 = .ok (.ifCond .ne 13, 3) := by decide +kernel
theorem dX5_addBag_47 : decode cX5_addBag 47 = .ok (.new 27, 3) := by decide +kernel
theorem dX5_addBag_50 : decode cX5_addBag 50 = .ok (.dup, 1) := by decide +kernel
theorem dX5_addBag_51 : decode cX5_addBag 51 = .ok (.ldc 115, 2) := by decide +kernel
theorem dX5_addBag_53 : decode cX5_addBag 53 = .ok (.invokespecial 31, 3) := by decide +kernel
theorem dX5_addBag_56 : decode cX5_addBag 56 = .ok (.athrow, 1) := by decide +kernel
theorem dX5_addBag_57 : decode cX5_addBag 57 = .ok (.aload_n 0, 1) := by decide +kernel
theorem dX5_addBag_58 : decode cX5_addBag 58 = .ok (.getfield 10, 3) := by decide +kernel
theorem dX5_addBag_61 : decode cX5_addBag 61 = .ok (.getfield 117, 3) := by decide +kernel
theorem dX5_addBag_64 : decode cX5_addBag 64 = .ok (.bipush 40, 2) := by decide +kernel
theorem dX5_addBag_66 : decode cX5_addBag 66 = .ok (.if_icmp .lt 13, 3) := by decide +kernel
theorem dX5_addBag_69 : decode cX5_addBag 69 = .ok (.new 37, 3) := by decide +kernel
theorem dX5_addBag_72 : decode cX5_addBag 72 = .ok (.dup, 1) := by decide +kernel
theorem dX5_addBag_73 : decode cX5_addBag 73 = .ok (.ldc 120, 2) := by decide +kernel
theorem dX5_addBag_75 : decode cX5_addBag 75 = .ok (.invokespecial 41, 3) := by decide +kernel
theorem dX5_addBag_78 : decode cX5_addBag 78 = .ok (.athrow, 1) := by decide +kernel
theorem dX5_addBag_79 : decode cX5_addBag 79 = .ok (.aload_n 0, 1) := by decide +kernel
theorem dX5_addBag_80 : decode cX5_addBag 80 = .ok (.getfield 10, 3) := by decide +kernel
theorem dX5_addBag_83 : decode cX5_addBag 83 = .ok (.iload_n 1, 1) := by decide +kernel
theorem dX5_addBag_84 : decode cX5_addBag 84 = .ok (.iload_n 2, 1) := by decide +kernel
theorem dX5_addBag_85 : decode cX5_addBag 85 = .ok (.iload_n 3, 1) := by decide +kernel
theorem dX5_addBag_86 : decode cX5_addBag 86 = .ok (.invokevirtual 122, 3) := by decide +kernel
theorem dX5_addBag_89 : decode cX5_addBag 89 = .ok (.ireturn, 1) := by decide +kernel
theorem dX5_load_0 : decode cX5_load 0 = .ok (.aload_n 0, 1) := by decide +kernel
theorem dX5_load_1 : decode cX5_load 1 = .ok (.getfield 10, 3) := by decide +kernel
theorem dX5_load_4 : decode cX5_load 4 = .ok (.iload_n 1, 1) := by decide +kernel
theorem dX5_load_5 : decode cX5_load 5 = .ok (.invokevirtual 126, 3) := by decide +kernel
theorem dX5_load_8 : decode cX5_load 8 = .ok (.astore_n 3, 1) := by decide +kernel
theorem dX5_load_9 : decode cX5_load 9 = .ok (.aload_n 0, 1) := by decide +kernel
theorem dX5_load_10 : decode cX5_load 10 = .ok (.getfield 10, 3) := by decide +kernel
theorem dX5_load_13 : decode cX5_load 13 = .ok (.iload_n 2, 1) := by decide +kernel
theorem dX5_load_14 : decode cX5_load 14 = .ok (.invokevirtual 130, 3) := by decide +kernel
theorem dX5_load_17 : decode cX5_load 17 = .ok (.astore 4, 2) := by decide +kernel
theorem dX5_load_19 : decode cX5_load 19 = .ok (.aload_n 3, 1) := by decide +kernel
theorem dX5_load_20 : decode cX5_load 20 = .ok (.ifnull 8, 3) := by decide +kernel
theorem dX5_load_23 : decode cX5_load 23 = .ok (.aload 4, 2) := by decide +kernel
theorem dX5_load_25 : decode cX5_load 25 = .ok (.ifnonnull 13, 3) := by decide +kernel
theorem dX5_load_28 : decode cX5_load 28 = .ok (.new 60, 3) := by decide +kernel
theorem dX5_load_31 : decode cX5_load 31 = .ok (.dup, 1) := by decide +kernel
theorem dX5_load_32 : decode cX5_load 32 = .ok (.ldc 134, 2) := by decide +kernel
theorem dX5_load_34 : decode cX5_load 34 = .ok (.invokespecial 64, 3) := by decide +kernel
theorem dX5_load_37 : decode cX5_load 37 = .ok (.athrow, 1) := by decide +kernel
theorem dX5_load_38 : decode cX5_load 38 = .ok (.aload 4, 2) := by decide +kernel
theorem dX5_load_40 : decode cX5_load 40 = .ok (.getfield 136, 3) := by decide +kernel
theorem dX5_load_43 : decode cX5_load 43 = .ok (.ifCond .ne 22, 3) := by decide +kernel
theorem dX5_load_46 : decode cX5_load 46 = .ok (.aload_n 3, 1) := by decide +kernel
theorem dX5_load_47 : decode cX5_load 47 = .ok (.getfield 141, 3) := by decide +kernel
theorem dX5_load_50 : decode cX5_load 50 = .ok (.ifCond .ne 15, 3) := by decide +kernel
theorem dX5_load_53 : decode cX5_load 53 = .ok (.aload_n 3, 1) := by decide +kernel
theorem dX5_load_54 : decode cX5_load 54 = .ok (.getfield 144, 3) := by decide +kernel
theorem dX5_load_57 : decode cX5_load 57 = .ok (.aload 4, 2) := by decide +kernel
theorem dX5_load_59 : decode cX5_load 59 = .ok (.getfield 147, 3) := by decide +kernel
theorem dX5_load_62 : decode cX5_load 62 = .ok (.if_icmp .eq 13, 3) := by decide +kernel
theorem dX5_load_65 : decode cX5_load 65 = .ok (.new 37, 3) := by decide +kernel
theorem dX5_load_68 : decode cX5_load 68 = .ok (.dup, 1) := by decide +kernel
theorem dX5_load_69 : decode cX5_load 69 = .ok (.ldc 150, 2) := by decide +kernel
theorem dX5_load_71 : decode cX5_load 71 = .ok (.invokespecial 41, 3) := by decide +kernel
theorem dX5_load_74 : decode cX5_load 74 = .ok (.athrow, 1) := by decide +kernel
theorem dX5_load_75 : decode cX5_load 75 = .ok (.aload 4, 2) := by decide +kernel
theorem dX5_load_77 : decode cX5_load 77 = .ok (.iconst 1, 1) := by decide +kernel
theorem dX5_load_78 : decode cX5_load 78 = .ok (.putfield 136, 3) := by decide +kernel
theorem dX5_load_81 : decode cX5_load 81 = .ok (.aload 4, 2) := by decide +kernel
theorem dX5_load_83 : decode cX5_load 83 = .ok (.iload_n 1, 1) := by decide +kernel
theorem dX5_load_84 : decode cX5_load 84 = .ok (.putfield 147, 3) := by decide +kernel
theorem dX5_load_87 : decode cX5_load 87 = .ok (.aload_n 3, 1) := by decide +kernel
theorem dX5_load_88 : decode cX5_load 88 = .ok (.dup, 1) := by decide +kernel
theorem dX5_load_89 : decode cX5_load 89 = .ok (.getfield 152, 3) := by decide +kernel
theorem dX5_load_92 : decode cX5_load 92 = .ok (.aload 4, 2) := by decide +kernel
theorem dX5_load_94 : decode cX5_load 94 = .ok (.getfield 155, 3) := by decide +kernel
theorem dX5_load_97 : decode cX5_load 97 = .ok (.iadd, 1) := by decide +kernel
theorem dX5_load_98 : decode cX5_load 98 = .ok (.putfield 152, 3) := by decide +kernel
theorem dX5_load_101 : decode cX5_load 101 = .ok (.aload_n 3, 1) := by decide +kernel
theorem dX5_load_102 : decode cX5_load 102 = .ok (.invokevirtual 158, 3) := by decide +kernel
theorem dX5_load_105 : decode cX5_load 105 = .ok (.ireturn, 1) := by decide +kernel
theorem dX5_send_0 : decode cX5_send 0 = .ok (.aload_n 0, 1) := by decide +kernel
theorem dX5_send_1 : decode cX5_send 1 = .ok (.getfield 10, 3) := by decide +kernel
theorem dX5_send_4 : decode cX5_send 4 = .ok (.iload_n 1, 1) := by decide +kernel
theorem dX5_send_5 : decode cX5_send 5 = .ok (.invokevirtual 126, 3) := by decide +kernel
theorem dX5_send_8 : decode cX5_send 8 = .ok (.astore_n 3, 1) := by decide +kernel
theorem dX5_send_9 : decode cX5_send 9 = .ok (.aload_n 3, 1) := by decide +kernel
theorem dX5_send_10 : decode cX5_send 10 = .ok (.ifnull 14, 3) := by decide +kernel
theorem dX5_send_13 : decode cX5_send 13 = .ok (.aload_n 0, 1) := by decide +kernel
theorem dX5_send_14 : decode cX5_send 14 = .ok (.getfield 10, 3) := by decide +kernel
theorem dX5_send_17 : decode cX5_send 17 = .ok (.iload_n 2, 1) := by decide +kernel
theorem dX5_send_18 : decode cX5_send 18 = .ok (.invokevirtual 99, 3) := by decide +kernel
theorem dX5_send_21 : decode cX5_send 21 = .ok (.ifCond .ne 13, 3) := by decide +kernel
theorem dX5_send_24 : decode cX5_send 24 = .ok (.new 60, 3) := by decide +kernel
theorem dX5_send_27 : decode cX5_send 27 = .ok (.dup, 1) := by decide +kernel
theorem dX5_send_28 : decode cX5_send 28 = .ok (.ldc 161, 2) := by decide +kernel
theorem dX5_send_30 : decode cX5_send 30 = .ok (.invokespecial 64, 3) := by decide +kernel
theorem dX5_send_33 : decode cX5_send 33 = .ok (.athrow, 1) := by decide +kernel
theorem dX5_send_34 : decode cX5_send 34 = .ok (.aload_n 3, 1) := by decide +kernel
theorem dX5_send_35 : decode cX5_send 35 = .ok (.getfield 141, 3) := by decide +kernel
theorem dX5_send_38 : decode cX5_send 38 = .ok (.ifCond .ne 21, 3) := by decide +kernel
theorem dX5_send_41 : decode cX5_send 41 = .ok (.aload_n 3, 1) := by decide +kernel
theorem dX5_send_42 : decode cX5_send 42 = .ok (.getfield 144, 3) := by decide +kernel
theorem dX5_send_45 : decode cX5_send 45 = .ok (.iload_n 2, 1) := by decide +kernel
theorem dX5_send_46 : decode cX5_send 46 = .ok (.if_icmp .ne 13, 3) := by decide +kernel
theorem dX5_send_49 : decode cX5_send 49 = .ok (.new 27, 3) := by decide +kernel
theorem dX5_send_52 : decode cX5_send 52 = .ok (.dup, 1) := by decide +kernel
theorem dX5_send_53 : decode cX5_send 53 = .ok (.ldc 163, 2) := by decide +kernel
theorem dX5_send_55 : decode cX5_send 55 = .ok (.invokespecial 31, 3) := by decide +kernel
theorem dX5_send_58 : decode cX5_send 58 = .ok (.athrow, 1) := by decide +kernel
theorem dX5_send_59 : decode cX5_send 59 = .ok (.aload_n 3, 1) := by decide +kernel
theorem dX5_send_60 : decode cX5_send 60 = .ok (.getfield 141, 3) := by decide +kernel
theorem dX5_send_63 : decode cX5_send 63 = .ok (.ifCond .eq 13, 3) := by decide +kernel
theorem dX5_send_66 : decode cX5_send 66 = .ok (.new 37, 3) := by decide +kernel
theorem dX5_send_69 : decode cX5_send 69 = .ok (.dup, 1) := by decide +kernel
theorem dX5_send_70 : decode cX5_send 70 = .ok (.ldc 165, 2) := by decide +kernel
theorem dX5_send_72 : decode cX5_send 72 = .ok (.invokespecial 41, 3) := by decide +kernel
theorem dX5_send_75 : decode cX5_send 75 = .ok (.athrow, 1) := by decide +kernel
theorem dX5_send_76 : decode cX5_send 76 = .ok (.aload_n 3, 1) := by decide +kernel
theorem dX5_send_77 : decode cX5_send 77 = .ok (.iload_n 2, 1) := by decide +kernel
theorem dX5_send_78 : decode cX5_send 78 = .ok (.invokevirtual 167, 3) := by decide +kernel
theorem dX5_send_81 : decode cX5_send 81 = .ok (.aload_n 0, 1) := by decide +kernel
theorem dX5_send_82 : decode cX5_send 82 = .ok (.getfield 10, 3) := by decide +kernel
theorem dX5_send_85 : decode cX5_send 85 = .ok (.aload_n 3, 1) := by decide +kernel
theorem dX5_send_86 : decode cX5_send 86 = .ok (.invokevirtual 171, 3) := by decide +kernel
theorem dX5_send_89 : decode cX5_send 89 = .ok (.ireturn, 1) := by decide +kernel
theorem dX5_sleigh_0 : decode cX5_sleigh 0 = .ok (.aload_n 0, 1) := by decide +kernel
theorem dX5_sleigh_1 : decode cX5_sleigh 1 = .ok (.getfield 10, 3) := by decide +kernel
theorem dX5_sleigh_4 : decode cX5_sleigh 4 = .ok (.iload_n 1, 1) := by decide +kernel
theorem dX5_sleigh_5 : decode cX5_sleigh 5 = .ok (.invokevirtual 126, 3) := by decide +kernel
theorem dX5_sleigh_8 : decode cX5_sleigh 8 = .ok (.astore_n 3, 1) := by decide +kernel
theorem dX5_sleigh_9 : decode cX5_sleigh 9 = .ok (.aload_n 3, 1) := by decide +kernel
theorem dX5_sleigh_10 : decode cX5_sleigh 10 = .ok (.ifnull 13, 3) := by decide +kernel
theorem dX5_sleigh_13 : decode cX5_sleigh 13 = .ok (.iload_n 2, 1) := by decide +kernel
theorem dX5_sleigh_14 : decode cX5_sleigh 14 = .ok (.iconst 0, 1) := by decide +kernel
theorem dX5_sleigh_15 : decode cX5_sleigh 15 = .ok (.bipush 8, 2) := by decide +kernel
theorem dX5_sleigh_17 : decode cX5_sleigh 17 = .ok (.invokestatic 23, 3) := by decide +kernel
theorem dX5_sleigh_20 : decode cX5_sleigh 20 = .ok (.ifCond .ne 13, 3) := by decide +kernel
theorem dX5_sleigh_23 : decode cX5_sleigh 23 = .ok (.new 60, 3) := by decide +kernel
theorem dX5_sleigh_26 : decode cX5_sleigh 26 = .ok (.dup, 1) := by decide +kernel
theorem dX5_sleigh_27 : decode cX5_sleigh 27 = .ok (.ldc 175, 2) := by decide +kernel
theorem dX5_sleigh_29 : decode cX5_sleigh 29 = .ok (.invokespecial 64, 3) := by decide +kernel
theorem dX5_sleigh_32 : decode cX5_sleigh 32 = .ok (.athrow, 1) := by decide +kernel
theorem dX5_sleigh_33 : decode cX5_sleigh 33 = .ok (.aload_n 0, 1) := by decide +kernel
theorem dX5_sleigh_34 : decode cX5_sleigh 34 = .ok (.getfield 10, 3) := by decide +kernel
theorem dX5_sleigh_37 : decode cX5_sleigh 37 = .ok (.iload_n 1, 1) := by decide +kernel
theorem dX5_sleigh_38 : decode cX5_sleigh 38 = .ok (.iload_n 2, 1) := by decide +kernel
theorem dX5_sleigh_39 : decode cX5_sleigh 39 = .ok (.invokevirtual 177, 3) := by decide +kernel
theorem dX5_sleigh_42 : decode cX5_sleigh 42 = .ok (.ireturn, 1) := by decide +kernel
theorem dX5_bag_0 : decode cX5_bag 0 = .ok (.aload_n 0, 1) := by decide +kernel
theorem dX5_bag_1 : decode cX5_bag 1 = .ok (.getfield 10, 3) := by decide +kernel
theorem dX5_bag_4 : decode cX5_bag 4 = .ok (.iload_n 1, 1) := by decide +kernel
theorem dX5_bag_5 : decode cX5_bag 5 = .ok (.invokevirtual 130, 3) := by decide +kernel
theorem dX5_bag_8 : decode cX5_bag 8 = .ok (.astore_n 3, 1) := by decide +kernel
theorem dX5_bag_9 : decode cX5_bag 9 = .ok (.aload_n 3, 1) := by decide +kernel
theorem dX5_bag_10 : decode cX5_bag 10 = .ok (.ifnull 12, 3) := by decide +kernel
theorem dX5_bag_13 : decode cX5_bag 13 = .ok (.iload_n 2, 1) := by decide +kernel
theorem dX5_bag_14 : decode cX5_bag 14 = .ok (.iconst 0, 1) := by decide +kernel
theorem dX5_bag_15 : decode cX5_bag 15 = .ok (.iconst 4, 1) := by decide +kernel
theorem dX5_bag_16 : decode cX5_bag 16 = .ok (.invokestatic 23, 3) := by decide +kernel
theorem dX5_bag_19 : decode cX5_bag 19 = .ok (.ifCond .ne 13, 3) := by decide +kernel
theorem dX5_bag_22 : decode cX5_bag 22 = .ok (.new 60, 3) := by decide +kernel
theorem dX5_bag_25 : decode cX5_bag 25 = .ok (.dup, 1) := by decide +kernel
theorem dX5_bag_26 : decode cX5_bag 26 = .ok (.ldc 180, 2) := by decide +kernel
theorem dX5_bag_28 : decode cX5_bag 28 = .ok (.invokespecial 64, 3) := by decide +kernel
theorem dX5_bag_31 : decode cX5_bag 31 = .ok (.athrow, 1) := by decide +kernel
theorem dX5_bag_32 : decode cX5_bag 32 = .ok (.aload_n 3, 1) := by decide +kernel
theorem dX5_bag_33 : decode cX5_bag 33 = .ok (.iload_n 2, 1) := by decide +kernel
theorem dX5_bag_34 : decode cX5_bag 34 = .ok (.invokevirtual 182, 3) := by decide +kernel
theorem dX5_bag_37 : decode cX5_bag 37 = .ok (.ireturn, 1) := by decide +kernel
theorem dX5_pass_0 : decode cX5_pass 0 = .ok (.iload_n 1, 1) := by decide +kernel
theorem dX5_pass_1 : decode cX5_pass 1 = .ok (.iconst 1, 1) := by decide +kernel
theorem dX5_pass_2 : decode cX5_pass 2 = .ok (.sipush 200, 3) := by decide +kernel
theorem dX5_pass_5 : decode cX5_pass 5 = .ok (.invokestatic 23, 3) := by decide +kernel
theorem dX5_pass_8 : decode cX5_pass 8 = .ok (.ifCond .ne 13, 3) := by decide +kernel
theorem dX5_pass_11 : decode cX5_pass 11 = .ok (.new 27, 3) := by decide +kernel
theorem dX5_pass_14 : decode cX5_pass 14 = .ok (.dup, 1) := by decide +kernel
theorem dX5_pass_15 : decode cX5_pass 15 = .ok (.ldc 185, 2) := by decide +kernel
theorem dX5_pass_17 : decode cX5_pass 17 = .ok (.invokespecial 31, 3) := by decide +kernel
theorem dX5_pass_20 : decode cX5_pass 20 = .ok (.athrow, 1) := by decide +kernel
theorem dX5_pass_21 : decode cX5_pass 21 = .ok (.iconst 0, 1) := by decide +kernel
theorem dX5_pass_22 : decode cX5_pass 22 = .ok (.istore_n 2, 1) := by decide +kernel
theorem dX5_pass_23 : decode cX5_pass 23 = .ok (.iconst 0, 1) := by decide +kernel
theorem dX5_pass_24 : decode cX5_pass 24 = .ok (.istore_n 3, 1) := by decide +kernel
theorem dX5_pass_25 : decode cX5_pass 25 = .ok (.iload_n 3, 1) := by decide +kernel
theorem dX5_pass_26 : decode cX5_pass 26 = .ok (.iload_n 1, 1) := by decide +kernel
theorem dX5_pass_27 : decode cX5_pass 27 = .ok (.if_icmp .ge 19, 3) := by decide +kernel
theorem dX5_pass_30 : decode cX5_pass 30 = .ok (.iload_n 2, 1) := by decide +kernel
theorem dX5_pass_31 : decode cX5_pass 31 = .ok (.aload_n 0, 1) := by decide +kernel
theorem dX5_pass_32 : decode cX5_pass 32 = .ok (.getfield 10, 3) := by decide +kernel
theorem dX5_pass_35 : decode cX5_pass 35 = .ok (.invokevirtual 187, 3) := by decide +kernel
theorem dX5_pass_38 : decode cX5_pass 38 = .ok (.iadd, 1) := by decide +kernel
theorem dX5_pass_39 : decode cX5_pass 39 = .ok (.istore_n 2, 1) := by decide +kernel
theorem dX5_pass_40 : decode cX5_pass 40 = .ok (.iinc 3 1, 3) := by decide +kernel
theorem dX5_pass_43 : decode cX5_pass 43 = .ok (.goto (-18), 3) := by decide +kernel
theorem dX5_pass_46 : decode cX5_pass 46 = .ok (.iload_n 2, 1) := by decide +kernel
theorem dX5_pass_47 : decode cX5_pass 47 = .ok (.ireturn, 1) := by decide +kernel
theorem dX5_count_0 : decode cX5_count 0 = .ok (.iload_n 1, 1) := by decide +kernel
theorem dX5_count_1 : decode cX5_count 1 = .ok (.iconst 0, 1) := by decide +kernel
theorem dX5_count_2 : decode cX5_count 2 = .ok (.bipush 8, 2) := by decide +kernel
theorem dX5_count_4 : decode cX5_count 4 = .ok (.invokestatic 23, 3) := by decide +kernel
theorem dX5_count_7 : decode cX5_count 7 = .ok (.ifCond .ne 13, 3) := by decide +kernel
theorem dX5_count_10 : decode cX5_count 10 = .ok (.new 60, 3) := by decide +kernel
theorem dX5_count_13 : decode cX5_count 13 = .ok (.dup, 1) := by decide +kernel
theorem dX5_count_14 : decode cX5_count 14 = .ok (.ldc 190, 2) := by decide +kernel
theorem dX5_count_16 : decode cX5_count 16 = .ok (.invokespecial 64, 3) := by decide +kernel
theorem dX5_count_19 : decode cX5_count 19 = .ok (.athrow, 1) := by decide +kernel
theorem dX5_count_20 : decode cX5_count 20 = .ok (.aload_n 0, 1) := by decide +kernel
theorem dX5_count_21 : decode cX5_count 21 = .ok (.getfield 10, 3) := by decide +kernel
theorem dX5_count_24 : decode cX5_count 24 = .ok (.iload_n 1, 1) := by decide +kernel
theorem dX5_count_25 : decode cX5_count 25 = .ok (.invokevirtual 192, 3) := by decide +kernel
theorem dX5_count_28 : decode cX5_count 28 = .ok (.ireturn, 1) := by decide +kernel
theorem dX5_way_0 : decode cX5_way 0 = .ok (.aload_n 0, 1) := by decide +kernel
theorem dX5_way_1 : decode cX5_way 1 = .ok (.getfield 10, 3) := by decide +kernel
theorem dX5_way_4 : decode cX5_way 4 = .ok (.iload_n 1, 1) := by decide +kernel
theorem dX5_way_5 : decode cX5_way 5 = .ok (.invokevirtual 99, 3) := by decide +kernel
theorem dX5_way_8 : decode cX5_way 8 = .ok (.ifCond .eq 14, 3) := by decide +kernel
theorem dX5_way_11 : decode cX5_way 11 = .ok (.aload_n 0, 1) := by decide +kernel
theorem dX5_way_12 : decode cX5_way 12 = .ok (.getfield 10, 3) := by decide +kernel
theorem dX5_way_15 : decode cX5_way 15 = .ok (.iload_n 2, 1) := by decide +kernel
theorem dX5_way_16 : decode cX5_way 16 = .ok (.invokevirtual 99, 3) := by decide +kernel
theorem dX5_way_19 : decode cX5_way 19 = .ok (.ifCond .ne 13, 3) := by decide +kernel
theorem dX5_way_22 : decode cX5_way 22 = .ok (.new 60, 3) := by decide +kernel
theorem dX5_way_25 : decode cX5_way 25 = .ok (.dup, 1) := by decide +kernel
theorem dX5_way_26 : decode cX5_way 26 = .ok (.ldc 103, 2) := by decide +kernel
theorem dX5_way_28 : decode cX5_way 28 = .ok (.invokespecial 64, 3) := by decide +kernel
theorem dX5_way_31 : decode cX5_way 31 = .ok (.athrow, 1) := by decide +kernel
theorem dX5_way_32 : decode cX5_way 32 = .ok (.iload_n 3, 1) := by decide +kernel
theorem dX5_way_33 : decode cX5_way 33 = .ok (.iconst 1, 1) := by decide +kernel
theorem dX5_way_34 : decode cX5_way 34 = .ok (.sipush 2000, 3) := by decide +kernel
theorem dX5_way_37 : decode cX5_way 37 = .ok (.invokestatic 23, 3) := by decide +kernel
theorem dX5_way_40 : decode cX5_way 40 = .ok (.ifCond .eq 14, 3) := by decide +kernel
theorem dX5_way_43 : decode cX5_way 43 = .ok (.iload 4, 2) := by decide +kernel
theorem dX5_way_45 : decode cX5_way 45 = .ok (.iconst 1, 1) := by decide +kernel
theorem dX5_way_46 : decode cX5_way 46 = .ok (.bipush 6, 2) := by decide +kernel
theorem dX5_way_48 : decode cX5_way 48 = .ok (.invokestatic 23, 3) := by decide +kernel
theorem dX5_way_51 : decode cX5_way 51 = .ok (.ifCond .ne 13, 3) := by decide +kernel
theorem dX5_way_54 : decode cX5_way 54 = .ok (.new 27, 3) := by decide +kernel
theorem dX5_way_57 : decode cX5_way 57 = .ok (.dup, 1) := by decide +kernel
theorem dX5_way_58 : decode cX5_way 58 = .ok (.ldc 195, 2) := by decide +kernel
theorem dX5_way_60 : decode cX5_way 60 = .ok (.invokespecial 31, 3) := by decide +kernel
theorem dX5_way_63 : decode cX5_way 63 = .ok (.athrow, 1) := by decide +kernel
theorem dX5_way_64 : decode cX5_way 64 = .ok (.aload_n 0, 1) := by decide +kernel
theorem dX5_way_65 : decode cX5_way 65 = .ok (.getfield 10, 3) := by decide +kernel
theorem dX5_way_68 : decode cX5_way 68 = .ok (.getfield 197, 3) := by decide +kernel
theorem dX5_way_71 : decode cX5_way 71 = .ok (.aload_n 0, 1) := by decide +kernel
theorem dX5_way_72 : decode cX5_way 72 = .ok (.getfield 10, 3) := by decide +kernel
theorem dX5_way_75 : decode cX5_way 75 = .ok (.getfield 42, 3) := by decide +kernel
theorem dX5_way_78 : decode cX5_way 78 = .ok (.aload_n 0, 1) := by decide +kernel
theorem dX5_way_79 : decode cX5_way 79 = .ok (.getfield 10, 3) := by decide +kernel
theorem dX5_way_82 : decode cX5_way 82 = .ok (.iload_n 1, 1) := by decide +kernel
theorem dX5_way_83 : decode cX5_way 83 = .ok (.invokevirtual 201, 3) := by decide +kernel
theorem dX5_way_86 : decode cX5_way 86 = .ok (.aload_n 0, 1) := by decide +kernel
theorem dX5_way_87 : decode cX5_way 87 = .ok (.getfield 10, 3) := by decide +kernel
theorem dX5_way_90 : decode cX5_way 90 = .ok (.iload_n 2, 1) := by decide +kernel
theorem dX5_way_91 : decode cX5_way 91 = .ok (.invokevirtual 201, 3) := by decide +kernel
theorem dX5_way_94 : decode cX5_way 94 = .ok (.iload_n 3, 1) := by decide +kernel
theorem dX5_way_95 : decode cX5_way 95 = .ok (.invokestatic 204, 3) := by decide +kernel
theorem dX5_way_98 : decode cX5_way 98 = .ok (.iload_n 3, 1) := by decide +kernel
theorem dX5_way_99 : decode cX5_way 99 = .ok (.iload 4, 2) := by decide +kernel
theorem dX5_way_101 : decode cX5_way 101 = .ok (.iconst 0, 1) := by decide +kernel
theorem dX5_way_102 : decode cX5_way 102 = .ok (.invokestatic 207, 3) := by decide +kernel
theorem dX5_way_105 : decode cX5_way 105 = .ok (.invokevirtual 210, 3) := by decide +kernel
theorem dX5_way_108 : decode cX5_way 108 = .ok (.ireturn, 1) := by decide +kernel
theorem dX5_bears_0 : decode cX5_bears 0 = .ok (.aload_n 0, 1) := by decide +kernel
theorem dX5_bears_1 : decode cX5_bears 1 = .ok (.getfield 10, 3) := by decide +kernel
theorem dX5_bears_4 : decode cX5_bears 4 = .ok (.iload_n 1, 1) := by decide +kernel
theorem dX5_bears_5 : decode cX5_bears 5 = .ok (.invokevirtual 99, 3) := by decide +kernel
theorem dX5_bears_8 : decode cX5_bears 8 = .ok (.ifCond .eq 14, 3) := by decide +kernel
theorem dX5_bears_11 : decode cX5_bears 11 = .ok (.aload_n 0, 1) := by decide +kernel
theorem dX5_bears_12 : decode cX5_bears 12 = .ok (.getfield 10, 3) := by decide +kernel
theorem dX5_bears_15 : decode cX5_bears 15 = .ok (.iload_n 2, 1) := by decide +kernel
theorem dX5_bears_16 : decode cX5_bears 16 = .ok (.invokevirtual 99, 3) := by decide +kernel
theorem dX5_bears_19 : decode cX5_bears 19 = .ok (.ifCond .ne 13, 3) := by decide +kernel
theorem dX5_bears_22 : decode cX5_bears 22 = .ok (.new 60, 3) := by decide +kernel
theorem dX5_bears_25 : decode cX5_bears 25 = .ok (.dup, 1) := by decide +kernel
theorem dX5_bears_26 : decode cX5_bears 26 = .ok (.ldc 103, 2) := by decide +kernel
theorem dX5_bears_28 : decode cX5_bears 28 = .ok (.invokespecial 64, 3) := by decide +kernel
theorem dX5_bears_31 : decode cX5_bears 31 = .ok (.athrow, 1) := by decide +kernel
theorem dX5_bears_32 : decode cX5_bears 32 = .ok (.aload_n 0, 1) := by decide +kernel
theorem dX5_bears_33 : decode cX5_bears 33 = .ok (.aload_n 0, 1) := by decide +kernel
theorem dX5_bears_34 : decode cX5_bears 34 = .ok (.getfield 10, 3) := by decide +kernel
theorem dX5_bears_37 : decode cX5_bears 37 = .ok (.iload_n 1, 1) := by decide +kernel
theorem dX5_bears_38 : decode cX5_bears 38 = .ok (.invokevirtual 201, 3) := by decide +kernel
theorem dX5_bears_41 : decode cX5_bears 41 = .ok (.aload_n 0, 1) := by decide +kernel
theorem dX5_bears_42 : decode cX5_bears 42 = .ok (.getfield 10, 3) := by decide +kernel
theorem dX5_bears_45 : decode cX5_bears 45 = .ok (.iload_n 2, 1) := by decide +kernel
theorem dX5_bears_46 : decode cX5_bears 46 = .ok (.invokevirtual 201, 3) := by decide +kernel
theorem dX5_bears_49 : decode cX5_bears 49 = .ok (.invokevirtual 216, 3) := by decide +kernel
theorem dX5_bears_52 : decode cX5_bears 52 = .ok (.ireturn, 1) := by decide +kernel
theorem dX5_foresee_0 : decode cX5_foresee 0 = .ok (.aload_n 0, 1) := by decide +kernel
theorem dX5_foresee_1 : decode cX5_foresee 1 = .ok (.getfield 10, 3) := by decide +kernel
theorem dX5_foresee_4 : decode cX5_foresee 4 = .ok (.iload_n 1, 1) := by decide +kernel
theorem dX5_foresee_5 : decode cX5_foresee 5 = .ok (.invokevirtual 126, 3) := by decide +kernel
theorem dX5_foresee_8 : decode cX5_foresee 8 = .ok (.ifnonnull 13, 3) := by decide +kernel
theorem dX5_foresee_11 : decode cX5_foresee 11 = .ok (.new 60, 3) := by decide +kernel
theorem dX5_foresee_14 : decode cX5_foresee 14 = .ok (.dup, 1) := by decide +kernel
theorem dX5_foresee_15 : decode cX5_foresee 15 = .ok (.ldc 219, 2) := by decide +kernel
theorem dX5_foresee_17 : decode cX5_foresee 17 = .ok (.invokespecial 64, 3) := by decide +kernel
theorem dX5_foresee_20 : decode cX5_foresee 20 = .ok (.athrow, 1) := by decide +kernel
theorem dX5_foresee_21 : decode cX5_foresee 21 = .ok (.iload_n 2, 1) := by decide +kernel
theorem dX5_foresee_22 : decode cX5_foresee 22 = .ok (.iconst 1, 1) := by decide +kernel
theorem dX5_foresee_23 : decode cX5_foresee 23 = .ok (.sipush 200, 3) := by decide +kernel
theorem dX5_foresee_26 : decode cX5_foresee 26 = .ok (.invokestatic 23, 3) := by decide +kernel
theorem dX5_foresee_29 : decode cX5_foresee 29 = .ok (.ifCond .ne 13, 3) := by decide +kernel
theorem dX5_foresee_32 : decode cX5_foresee 32 = .ok (.new 27, 3) := by decide +kernel
theorem dX5_foresee_35 : decode cX5_foresee 35 = .ok (.dup, 1) := by decide +kernel
theorem dX5_foresee_36 : decode cX5_foresee 36 = .ok (.ldc 185, 2) := by decide +kernel
theorem dX5_foresee_38 : decode cX5_foresee 38 = .ok (.invokespecial 31, 3) := by decide +kernel
theorem dX5_foresee_41 : decode cX5_foresee 41 = .ok (.athrow, 1) := by decide +kernel
theorem dX5_foresee_42 : decode cX5_foresee 42 = .ok (.aload_n 0, 1) := by decide +kernel
theorem dX5_foresee_43 : decode cX5_foresee 43 = .ok (.getfield 16, 3) := by decide +kernel
theorem dX5_foresee_46 : decode cX5_foresee 46 = .ok (.aload_n 0, 1) := by decide +kernel
theorem dX5_foresee_47 : decode cX5_foresee 47 = .ok (.getfield 10, 3) := by decide +kernel
theorem dX5_foresee_50 : decode cX5_foresee 50 = .ok (.invokevirtual 221, 3) := by decide +kernel
theorem dX5_foresee_53 : decode cX5_foresee 53 = .ok (.aload_n 0, 1) := by decide +kernel
theorem dX5_foresee_54 : decode cX5_foresee 54 = .ok (.getfield 16, 3) := by decide +kernel
theorem dX5_foresee_57 : decode cX5_foresee 57 = .ok (.iload_n 1, 1) := by decide +kernel
theorem dX5_foresee_58 : decode cX5_foresee 58 = .ok (.invokevirtual 126, 3) := by decide +kernel
theorem dX5_foresee_61 : decode cX5_foresee 61 = .ok (.astore_n 3, 1) := by decide +kernel
theorem dX5_foresee_62 : decode cX5_foresee 62 = .ok (.iconst 0, 1) := by decide +kernel
theorem dX5_foresee_63 : decode cX5_foresee 63 = .ok (.istore 4, 2) := by decide +kernel
theorem dX5_foresee_65 : decode cX5_foresee 65 = .ok (.aload_n 3, 1) := by decide +kernel
theorem dX5_foresee_66 : decode cX5_foresee 66 = .ok (.ifnull 31, 3) := by decide +kernel
theorem dX5_foresee_69 : decode cX5_foresee 69 = .ok (.iload 4, 2) := by decide +kernel
theorem dX5_foresee_71 : decode cX5_foresee 71 = .ok (.iload_n 2, 1) := by decide +kernel
theorem dX5_foresee_72 : decode cX5_foresee 72 = .ok (.if_icmp .ge 25, 3) := by decide +kernel
theorem dX5_foresee_75 : decode cX5_foresee 75 = .ok (.aload_n 3, 1) := by decide +kernel
theorem dX5_foresee_76 : decode cX5_foresee 76 = .ok (.getfield 141, 3) := by decide +kernel
theorem dX5_foresee_79 : decode cX5_foresee 79 = .ok (.iconst 2, 1) := by decide +kernel
theorem dX5_foresee_80 : decode cX5_foresee 80 = .ok (.if_icmp .eq 17, 3) := by decide +kernel
theorem dX5_foresee_83 : decode cX5_foresee 83 = .ok (.aload_n 0, 1) := by decide +kernel
theorem dX5_foresee_84 : decode cX5_foresee 84 = .ok (.getfield 16, 3) := by decide +kernel
theorem dX5_foresee_87 : decode cX5_foresee 87 = .ok (.invokevirtual 187, 3) := by decide +kernel
theorem dX5_foresee_90 : decode cX5_foresee 90 = .ok (.pop, 1) := by decide +kernel
theorem dX5_foresee_91 : decode cX5_foresee 91 = .ok (.iinc 4 1, 3) := by decide +kernel
theorem dX5_foresee_94 : decode cX5_foresee 94 = .ok (.goto (-29), 3) := by decide +kernel
theorem dX5_foresee_97 : decode cX5_foresee 97 = .ok (.aload_n 3, 1) := by decide +kernel
theorem dX5_foresee_98 : decode cX5_foresee 98 = .ok (.ifnull 11, 3) := by decide +kernel
theorem dX5_foresee_101 : decode cX5_foresee 101 = .ok (.aload_n 3, 1) := by decide +kernel
theorem dX5_foresee_102 : decode cX5_foresee 102 = .ok (.getfield 141, 3) := by decide +kernel
theorem dX5_foresee_105 : decode cX5_foresee 105 = .ok (.iconst 2, 1) := by decide +kernel
theorem dX5_foresee_106 : decode cX5_foresee 106 = .ok (.if_icmp .ne 7, 3) := by decide +kernel
theorem dX5_foresee_109 : decode cX5_foresee 109 = .ok (.iconst (-1), 1) := by decide +kernel
theorem dX5_foresee_110 : decode cX5_foresee 110 = .ok (.goto 7, 3) := by decide +kernel
theorem dX5_foresee_113 : decode cX5_foresee 113 = .ok (.aload_n 3, 1) := by decide +kernel
theorem dX5_foresee_114 : decode cX5_foresee 114 = .ok (.getfield 225, 3) := by decide +kernel
theorem dX5_foresee_117 : decode cX5_foresee 117 = .ok (.ireturn, 1) := by decide +kernel
theorem dX5_arrives_0 : decode cX5_arrives 0 = .ok (.aload_n 0, 1) := by decide +kernel
theorem dX5_arrives_1 : decode cX5_arrives 1 = .ok (.getfield 10, 3) := by decide +kernel
theorem dX5_arrives_4 : decode cX5_arrives 4 = .ok (.iload_n 1, 1) := by decide +kernel
theorem dX5_arrives_5 : decode cX5_arrives 5 = .ok (.invokevirtual 126, 3) := by decide +kernel
theorem dX5_arrives_8 : decode cX5_arrives 8 = .ok (.astore_n 2, 1) := by decide +kernel
theorem dX5_arrives_9 : decode cX5_arrives 9 = .ok (.aload_n 2, 1) := by decide +kernel
theorem dX5_arrives_10 : decode cX5_arrives 10 = .ok (.ifnonnull 13, 3) := by decide +kernel
theorem dX5_arrives_13 : decode cX5_arrives 13 = .ok (.new 60, 3) := by decide +kernel
theorem dX5_arrives_16 : decode cX5_arrives 16 = .ok (.dup, 1) := by decide +kernel
theorem dX5_arrives_17 : decode cX5_arrives 17 = .ok (.ldc 219, 2) := by decide +kernel
theorem dX5_arrives_19 : decode cX5_arrives 19 = .ok (.invokespecial 64, 3) := by decide +kernel
theorem dX5_arrives_22 : decode cX5_arrives 22 = .ok (.athrow, 1) := by decide +kernel
theorem dX5_arrives_23 : decode cX5_arrives 23 = .ok (.aload_n 2, 1) := by decide +kernel
theorem dX5_arrives_24 : decode cX5_arrives 24 = .ok (.getfield 141, 3) := by decide +kernel
theorem dX5_arrives_27 : decode cX5_arrives 27 = .ok (.iconst 1, 1) := by decide +kernel
theorem dX5_arrives_28 : decode cX5_arrives 28 = .ok (.if_icmp .eq 13, 3) := by decide +kernel
theorem dX5_arrives_31 : decode cX5_arrives 31 = .ok (.new 37, 3) := by decide +kernel
theorem dX5_arrives_34 : decode cX5_arrives 34 = .ok (.dup, 1) := by decide +kernel
theorem dX5_arrives_35 : decode cX5_arrives 35 = .ok (.ldc 228, 2) := by decide +kernel
theorem dX5_arrives_37 : decode cX5_arrives 37 = .ok (.invokespecial 41, 3) := by decide +kernel
theorem dX5_arrives_40 : decode cX5_arrives 40 = .ok (.athrow, 1) := by decide +kernel
theorem dX5_arrives_41 : decode cX5_arrives 41 = .ok (.aload_n 0, 1) := by decide +kernel
theorem dX5_arrives_42 : decode cX5_arrives 42 = .ok (.getfield 16, 3) := by decide +kernel
theorem dX5_arrives_45 : decode cX5_arrives 45 = .ok (.aload_n 0, 1) := by decide +kernel
theorem dX5_arrives_46 : decode cX5_arrives 46 = .ok (.getfield 10, 3) := by decide +kernel
theorem dX5_arrives_49 : decode cX5_arrives 49 = .ok (.invokevirtual 221, 3) := by decide +kernel
theorem dX5_arrives_52 : decode cX5_arrives 52 = .ok (.aload_n 0, 1) := by decide +kernel
theorem dX5_arrives_53 : decode cX5_arrives 53 = .ok (.getfield 16, 3) := by decide +kernel
theorem dX5_arrives_56 : decode cX5_arrives 56 = .ok (.iload_n 1, 1) := by decide +kernel
theorem dX5_arrives_57 : decode cX5_arrives 57 = .ok (.invokevirtual 126, 3) := by decide +kernel
theorem dX5_arrives_60 : decode cX5_arrives 60 = .ok (.astore_n 3, 1) := by decide +kernel
theorem dX5_arrives_61 : decode cX5_arrives 61 = .ok (.iconst 0, 1) := by decide +kernel
theorem dX5_arrives_62 : decode cX5_arrives 62 = .ok (.istore 4, 2) := by decide +kernel
theorem dX5_arrives_64 : decode cX5_arrives 64 = .ok (.aload_n 3, 1) := by decide +kernel
theorem dX5_arrives_65 : decode cX5_arrives 65 = .ok (.ifnull 33, 3) := by decide +kernel
theorem dX5_arrives_68 : decode cX5_arrives 68 = .ok (.iload 4, 2) := by decide +kernel
theorem dX5_arrives_70 : decode cX5_arrives 70 = .ok (.sipush 300, 3) := by decide +kernel
theorem dX5_arrives_73 : decode cX5_arrives 73 = .ok (.if_icmp .ge 25, 3) := by decide +kernel
theorem dX5_arrives_76 : decode cX5_arrives 76 = .ok (.aload_n 3, 1) := by decide +kernel
theorem dX5_arrives_77 : decode cX5_arrives 77 = .ok (.getfield 141, 3) := by decide +kernel
theorem dX5_arrives_80 : decode cX5_arrives 80 = .ok (.iconst 1, 1) := by decide +kernel
theorem dX5_arrives_81 : decode cX5_arrives 81 = .ok (.if_icmp .ne 17, 3) := by decide +kernel
theorem dX5_arrives_84 : decode cX5_arrives 84 = .ok (.aload_n 0, 1) := by decide +kernel
theorem dX5_arrives_85 : decode cX5_arrives 85 = .ok (.getfield 16, 3) := by decide +kernel
theorem dX5_arrives_88 : decode cX5_arrives 88 = .ok (.invokevirtual 187, 3) := by decide +kernel
theorem dX5_arrives_91 : decode cX5_arrives 91 = .ok (.pop, 1) := by decide +kernel
theorem dX5_arrives_92 : decode cX5_arrives 92 = .ok (.iinc 4 1, 3) := by decide +kernel
theorem dX5_arrives_95 : decode cX5_arrives 95 = .ok (.goto (-31), 3) := by decide +kernel
theorem dX5_arrives_98 : decode cX5_arrives 98 = .ok (.aload_n 3, 1) := by decide +kernel
theorem dX5_arrives_99 : decode cX5_arrives 99 = .ok (.ifnull 22, 3) := by decide +kernel
theorem dX5_arrives_102 : decode cX5_arrives 102 = .ok (.aload_n 3, 1) := by decide +kernel
theorem dX5_arrives_103 : decode cX5_arrives 103 = .ok (.getfield 141, 3) := by decide +kernel
theorem dX5_arrives_106 : decode cX5_arrives 106 = .ok (.ifCond .ne 15, 3) := by decide +kernel
theorem dX5_arrives_109 : decode cX5_arrives 109 = .ok (.aload_n 0, 1) := by decide +kernel
theorem dX5_arrives_110 : decode cX5_arrives 110 = .ok (.getfield 16, 3) := by decide +kernel
theorem dX5_arrives_113 : decode cX5_arrives 113 = .ok (.getfield 230, 3) := by decide +kernel
theorem dX5_arrives_116 : decode cX5_arrives 116 = .ok (.iconst 1, 1) := by decide +kernel
theorem dX5_arrives_117 : decode cX5_arrives 117 = .ok (.isub, 1) := by decide +kernel
theorem dX5_arrives_118 : decode cX5_arrives 118 = .ok (.goto 4, 3) := by decide +kernel
theorem dX5_arrives_121 : decode cX5_arrives 121 = .ok (.iconst (-1), 1) := by decide +kernel
theorem dX5_arrives_122 : decode cX5_arrives 122 = .ok (.ireturn, 1) := by decide +kernel
theorem dX5_mean_0 : decode cX5_mean 0 = .ok (.aload_n 0, 1) := by decide +kernel
theorem dX5_mean_1 : decode cX5_mean 1 = .ok (.getfield 10, 3) := by decide +kernel
theorem dX5_mean_4 : decode cX5_mean 4 = .ok (.getfield 42, 3) := by decide +kernel
theorem dX5_mean_7 : decode cX5_mean 7 = .ok (.invokevirtual 233, 3) := by decide +kernel
theorem dX5_mean_10 : decode cX5_mean 10 = .ok (.istore_n 1, 1) := by decide +kernel
theorem dX5_mean_11 : decode cX5_mean 11 = .ok (.iload_n 1, 1) := by decide +kernel
theorem dX5_mean_12 : decode cX5_mean 12 = .ok (.iconst 1, 1) := by decide +kernel
theorem dX5_mean_13 : decode cX5_mean 13 = .ok (.if_icmp .ge 7, 3) := by decide +kernel
theorem dX5_mean_16 : decode cX5_mean 16 = .ok (.dconst 0, 1) := by decide +kernel
theorem dX5_mean_17 : decode cX5_mean 17 = .ok (.goto 17, 3) := by decide +kernel
theorem dX5_mean_20 : decode cX5_mean 20 = .ok (.aload_n 0, 1) := by decide +kernel
theorem dX5_mean_21 : decode cX5_mean 21 = .ok (.getfield 10, 3) := by decide +kernel
theorem dX5_mean_24 : decode cX5_mean 24 = .ok (.getfield 42, 3) := by decide +kernel
theorem dX5_mean_27 : decode cX5_mean 27 = .ok (.invokevirtual 236, 3) := by decide +kernel
theorem dX5_mean_30 : decode cX5_mean 30 = .ok (.i2d, 1) := by decide +kernel
theorem dX5_mean_31 : decode cX5_mean 31 = .ok (.iload_n 1, 1) := by decide +kernel
theorem dX5_mean_32 : decode cX5_mean 32 = .ok (.i2d, 1) := by decide +kernel
theorem dX5_mean_33 : decode cX5_mean 33 = .ok (.ddiv, 1) := by decide +kernel
theorem dX5_mean_34 : decode cX5_mean 34 = .ok (.dreturn, 1) := by decide +kernel
theorem dX5_digest_0 : decode cX5_digest 0 = .ok (.ldc2_w 239, 3) := by decide +kernel
theorem dX5_digest_3 : decode cX5_digest 3 = .ok (.lstore_n 1, 1) := by decide +kernel
theorem dX5_digest_4 : decode cX5_digest 4 = .ok (.iconst 0, 1) := by decide +kernel
theorem dX5_digest_5 : decode cX5_digest 5 = .ok (.istore_n 3, 1) := by decide +kernel
theorem dX5_digest_6 : decode cX5_digest 6 = .ok (.iload_n 3, 1) := by decide +kernel
theorem dX5_digest_7 : decode cX5_digest 7 = .ok (.bipush 9, 2) := by decide +kernel
theorem dX5_digest_9 : decode cX5_digest 9 = .ok (.if_icmp .ge 25, 3) := by decide +kernel
theorem dX5_digest_12 : decode cX5_digest 12 = .ok (.lload_n 1, 1) := by decide +kernel
theorem dX5_digest_13 : decode cX5_digest 13 = .ok (.ldc2_w 241, 3) := by decide +kernel
theorem dX5_digest_16 : decode cX5_digest 16 = .ok (.lmul, 1) := by decide +kernel
theorem dX5_digest_17 : decode cX5_digest 17 = .ok (.aload_n 0, 1) := by decide +kernel
theorem dX5_digest_18 : decode cX5_digest 18 = .ok (.getfield 10, 3) := by decide +kernel
theorem dX5_digest_21 : decode cX5_digest 21 = .ok (.iload_n 3, 1) := by decide +kernel
theorem dX5_digest_22 : decode cX5_digest 22 = .ok (.invokevirtual 192, 3) := by decide +kernel
theorem dX5_digest_25 : decode cX5_digest 25 = .ok (.i2l, 1) := by decide +kernel
theorem dX5_digest_26 : decode cX5_digest 26 = .ok (.ladd, 1) := by decide +kernel
theorem dX5_digest_27 : decode cX5_digest 27 = .ok (.lstore_n 1, 1) := by decide +kernel
theorem dX5_digest_28 : decode cX5_digest 28 = .ok (.iinc 3 1, 3) := by decide +kernel
theorem dX5_digest_31 : decode cX5_digest 31 = .ok (.goto (-25), 3) := by decide +kernel
theorem dX5_digest_34 : decode cX5_digest 34 = .ok (.aload_n 0, 1) := by decide +kernel
theorem dX5_digest_35 : decode cX5_digest 35 = .ok (.getfield 10, 3) := by decide +kernel
theorem dX5_digest_38 : decode cX5_digest 38 = .ok (.getfield 42, 3) := by decide +kernel
theorem dX5_digest_41 : decode cX5_digest 41 = .ok (.lload_n 1, 1) := by decide +kernel
theorem dX5_digest_42 : decode cX5_digest 42 = .ok (.invokevirtual 243, 3) := by decide +kernel
theorem dX5_digest_45 : decode cX5_digest 45 = .ok (.lstore_n 1, 1) := by decide +kernel
theorem dX5_digest_46 : decode cX5_digest 46 = .ok (.aload_n 0, 1) := by decide +kernel
theorem dX5_digest_47 : decode cX5_digest 47 = .ok (.getfield 10, 3) := by decide +kernel
theorem dX5_digest_50 : decode cX5_digest 50 = .ok (.lload_n 1, 1) := by decide +kernel
theorem dX5_digest_51 : decode cX5_digest 51 = .ok (.invokevirtual 247, 3) := by decide +kernel
theorem dX5_digest_54 : decode cX5_digest 54 = .ok (.lstore_n 1, 1) := by decide +kernel
theorem dX5_digest_55 : decode cX5_digest 55 = .ok (.aload_n 0, 1) := by decide +kernel
theorem dX5_digest_56 : decode cX5_digest 56 = .ok (.getfield 10, 3) := by decide +kernel
theorem dX5_digest_59 : decode cX5_digest 59 = .ok (.lload_n 1, 1) := by decide +kernel
theorem dX5_digest_60 : decode cX5_digest 60 = .ok (.invokevirtual 250, 3) := by decide +kernel
theorem dX5_digest_63 : decode cX5_digest 63 = .ok (.lstore_n 1, 1) := by decide +kernel
theorem dX5_digest_64 : decode cX5_digest 64 = .ok (.aload_n 0, 1) := by decide +kernel
theorem dX5_digest_65 : decode cX5_digest 65 = .ok (.getfield 10, 3) := by decide +kernel
theorem dX5_digest_68 : decode cX5_digest 68 = .ok (.lload_n 1, 1) := by decide +kernel
theorem dX5_digest_69 : decode cX5_digest 69 = .ok (.invokevirtual 253, 3) := by decide +kernel
theorem dX5_digest_72 : decode cX5_digest 72 = .ok (.lreturn, 1) := by decide +kernel
theorem dX5_heaviestBetween_0 : decode cX5_heaviestBetween 0 = .ok (.iconst 0, 1) := by decide +kernel
theorem dX5_heaviestBetween_1 : decode cX5_heaviestBetween 1 = .ok (.istore_n 3, 1) := by decide +kernel
theorem dX5_heaviestBetween_2 : decode cX5_heaviestBetween 2 = .ok (.sipush 1024, 3) := by decide +kernel
theorem dX5_heaviestBetween_5 : decode cX5_heaviestBetween 5 = .ok (.istore 4, 2) := by decide +kernel
theorem dX5_heaviestBetween_7 : decode cX5_heaviestBetween 7 = .ok (.iload 4, 2) := by decide +kernel
theorem dX5_heaviestBetween_9 : decode cX5_heaviestBetween 9 = .ok (.ifCond .le 58, 3) := by decide +kernel
theorem dX5_heaviestBetween_12 : decode cX5_heaviestBetween 12 = .ok (.iload_n 3, 1) := by decide +kernel
theorem dX5_heaviestBetween_13 : decode cX5_heaviestBetween 13 = .ok (.iload 4, 2) := by decide +kernel
theorem dX5_heaviestBetween_15 : decode cX5_heaviestBetween 15 = .ok (.iadd, 1) := by decide +kernel
theorem dX5_heaviestBetween_16 : decode cX5_heaviestBetween 16 = .ok (.istore 5, 2) := by decide +kernel
theorem dX5_heaviestBetween_18 : decode cX5_heaviestBetween 18 = .ok (.iload 5, 2) := by decide +kernel
theorem dX5_heaviestBetween_20 : decode cX5_heaviestBetween 20 = .ok (.sipush 2000, 3) := by decide +kernel
theorem dX5_heaviestBetween_23 : decode cX5_heaviestBetween 23 = .ok (.if_icmp .gt 35, 3) := by decide +kernel
theorem dX5_heaviestBetween_26 : decode cX5_heaviestBetween 26 = .ok (.aload_n 0, 1) := by decide +kernel
theorem dX5_heaviestBetween_27 : decode cX5_heaviestBetween 27 = .ok (.getfield 10, 3) := by decide +kernel
theorem dX5_heaviestBetween_30 : decode cX5_heaviestBetween 30 = .ok (.getfield 197, 3) := by decide +kernel
theorem dX5_heaviestBetween_33 : decode cX5_heaviestBetween 33 = .ok (.aload_n 0, 1) := by decide +kernel
theorem dX5_heaviestBetween_34 : decode cX5_heaviestBetween 34 = .ok (.getfield 10, 3) := by decide +kernel
theorem dX5_heaviestBetween_37 : decode cX5_heaviestBetween 37 = .ok (.getfield 42, 3) := by decide +kernel
theorem dX5_heaviestBetween_40 : decode cX5_heaviestBetween 40 = .ok (.iload_n 1, 1) := by decide +kernel
theorem dX5_heaviestBetween_41 : decode cX5_heaviestBetween 41 = .ok (.iload_n 2, 1) := by decide +kernel
theorem dX5_heaviestBetween_42 : decode cX5_heaviestBetween 42 = .ok (.iload 5, 2) := by decide +kernel
theorem dX5_heaviestBetween_44 : decode cX5_heaviestBetween 44 = .ok (.invokestatic 204, 3) := by decide +kernel
theorem dX5_heaviestBetween_47 : decode cX5_heaviestBetween 47 = .ok (.iconst 0, 1) := by decide +kernel
theorem dX5_heaviestBetween_48 : decode cX5_heaviestBetween 48 = .ok (.invokevirtual 210, 3) := by decide +kernel
theorem dX5_heaviestBetween_51 : decode cX5_heaviestBetween 51 = .ok (.iconst (-1), 1) := by decide +kernel
theorem dX5_heaviestBetween_52 : decode cX5_heaviestBetween 52 = .ok (.if_icmp .eq 6, 3) := by decide +kernel
theorem dX5_heaviestBetween_55 : decode cX5_heaviestBetween 55 = .ok (.iload 5, 2) := by decide +kernel
theorem dX5_heaviestBetween_57 : decode cX5_heaviestBetween 57 = .ok (.istore_n 3, 1) := by decide +kernel
theorem dX5_heaviestBetween_58 : decode cX5_heaviestBetween 58 = .ok (.iload 4, 2) := by decide +kernel
theorem dX5_heaviestBetween_60 : decode cX5_heaviestBetween 60 = .ok (.iconst 2, 1) := by decide +kernel
theorem dX5_heaviestBetween_61 : decode cX5_heaviestBetween 61 = .ok (.idiv, 1) := by decide +kernel
theorem dX5_heaviestBetween_62 : decode cX5_heaviestBetween 62 = .ok (.istore 4, 2) := by decide +kernel
theorem dX5_heaviestBetween_64 : decode cX5_heaviestBetween 64 = .ok (.goto (-57), 3) := by decide +kernel
theorem dX5_heaviestBetween_67 : decode cX5_heaviestBetween 67 = .ok (.iload_n 3, 1) := by decide +kernel
theorem dX5_heaviestBetween_68 : decode cX5_heaviestBetween 68 = .ok (.ifCond .ne 7, 3) := by decide +kernel
theorem dX5_heaviestBetween_71 : decode cX5_heaviestBetween 71 = .ok (.iconst (-1), 1) := by decide +kernel
theorem dX5_heaviestBetween_72 : decode cX5_heaviestBetween 72 = .ok (.goto 4, 3) := by decide +kernel
theorem dX5_heaviestBetween_75 : decode cX5_heaviestBetween 75 = .ok (.iload_n 3, 1) := by decide +kernel
theorem dX5_heaviestBetween_76 : decode cX5_heaviestBetween 76 = .ok (.ireturn, 1) := by decide +kernel
theorem dX5_isWithin_0 : decode cX5_isWithin 0 = .ok (.iload_n 0, 1) := by decide +kernel
theorem dX5_isWithin_1 : decode cX5_isWithin 1 = .ok (.iload_n 1, 1) := by decide +kernel
theorem dX5_isWithin_2 : decode cX5_isWithin 2 = .ok (.if_icmp .lt 12, 3) := by decide +kernel
theorem dX5_isWithin_5 : decode cX5_isWithin 5 = .ok (.iload_n 0, 1) := by decide +kernel
theorem dX5_isWithin_6 : decode cX5_isWithin 6 = .ok (.iload_n 2, 1) := by decide +kernel
theorem dX5_isWithin_7 : decode cX5_isWithin 7 = .ok (.if_icmp .gt 7, 3) := by decide +kernel
theorem dX5_isWithin_10 : decode cX5_isWithin 10 = .ok (.iconst 1, 1) := by decide +kernel
theorem dX5_isWithin_11 : decode cX5_isWithin 11 = .ok (.goto 4, 3) := by decide +kernel
theorem dX5_isWithin_14 : decode cX5_isWithin 14 = .ok (.iconst 0, 1) := by decide +kernel
theorem dX5_isWithin_15 : decode cX5_isWithin 15 = .ok (.ireturn, 1) := by decide +kernel
theorem dX5_isOnMap_0 : decode cX5_isOnMap 0 = .ok (.iload_n 0, 1) := by decide +kernel
theorem dX5_isOnMap_1 : decode cX5_isOnMap 1 = .ok (.iconst 0, 1) := by decide +kernel
theorem dX5_isOnMap_2 : decode cX5_isOnMap 2 = .ok (.bipush 15, 2) := by decide +kernel
theorem dX5_isOnMap_4 : decode cX5_isOnMap 4 = .ok (.invokestatic 23, 3) := by decide +kernel
theorem dX5_isOnMap_7 : decode cX5_isOnMap 7 = .ok (.ifCond .eq 17, 3) := by decide +kernel
theorem dX5_isOnMap_10 : decode cX5_isOnMap 10 = .ok (.iload_n 1, 1) := by decide +kernel
theorem dX5_isOnMap_11 : decode cX5_isOnMap 11 = .ok (.iconst 0, 1) := by decide +kernel
theorem dX5_isOnMap_12 : decode cX5_isOnMap 12 = .ok (.bipush 9, 2) := by decide +kernel
theorem dX5_isOnMap_14 : decode cX5_isOnMap 14 = .ok (.invokestatic 23, 3) := by decide +kernel
theorem dX5_isOnMap_17 : decode cX5_isOnMap 17 = .ok (.ifCond .eq 7, 3) := by decide +kernel
theorem dX5_isOnMap_20 : decode cX5_isOnMap 20 = .ok (.iconst 1, 1) := by decide +kernel
theorem dX5_isOnMap_21 : decode cX5_isOnMap 21 = .ok (.goto 4, 3) := by decide +kernel
theorem dX5_isOnMap_24 : decode cX5_isOnMap 24 = .ok (.iconst 0, 1) := by decide +kernel
theorem dX5_isOnMap_25 : decode cX5_isOnMap 25 = .ok (.ireturn, 1) := by decide +kernel
theorem dX5_isRectangle_0 : decode cX5_isRectangle 0 = .ok (.iload_n 0, 1) := by decide +kernel
theorem dX5_isRectangle_1 : decode cX5_isRectangle 1 = .ok (.iload_n 1, 1) := by decide +kernel
theorem dX5_isRectangle_2 : decode cX5_isRectangle 2 = .ok (.invokestatic 56, 3) := by decide +kernel
theorem dX5_isRectangle_5 : decode cX5_isRectangle 5 = .ok (.ifCond .eq 31, 3) := by decide +kernel
theorem dX5_isRectangle_8 : decode cX5_isRectangle 8 = .ok (.iload_n 2, 1) := by decide +kernel
theorem dX5_isRectangle_9 : decode cX5_isRectangle 9 = .ok (.iconst 1, 1) := by decide +kernel
theorem dX5_isRectangle_10 : decode cX5_isRectangle 10 = .ok (.bipush 16, 2) := by decide +kernel
theorem dX5_isRectangle_12 : decode cX5_isRectangle 12 = .ok (.iload_n 0, 1) := by decide +kernel
theorem dX5_isRectangle_13 : decode cX5_isRectangle 13 = .ok (.isub, 1) := by decide +kernel
theorem dX5_isRectangle_14 : decode cX5_isRectangle 14 = .ok (.invokestatic 23, 3) := by decide +kernel
theorem dX5_isRectangle_17 : decode cX5_isRectangle 17 = .ok (.ifCond .eq 19, 3) := by decide +kernel
theorem dX5_isRectangle_20 : decode cX5_isRectangle 20 = .ok (.iload_n 3, 1) := by decide +kernel
theorem dX5_isRectangle_21 : decode cX5_isRectangle 21 = .ok (.iconst 1, 1) := by decide +kernel
theorem dX5_isRectangle_22 : decode cX5_isRectangle 22 = .ok (.bipush 10, 2) := by decide +kernel
theorem dX5_isRectangle_24 : decode cX5_isRectangle 24 = .ok (.iload_n 1, 1) := by decide +kernel
theorem dX5_isRectangle_25 : decode cX5_isRectangle 25 = .ok (.isub, 1) := by decide +kernel
theorem dX5_isRectangle_26 : decode cX5_isRectangle 26 = .ok (.invokestatic 23, 3) := by decide +kernel
theorem dX5_isRectangle_29 : decode cX5_isRectangle 29 = .ok (.ifCond .eq 7, 3) := by decide +kernel
theorem dX5_isRectangle_32 : decode cX5_isRectangle 32 = .ok (.iconst 1, 1) := by decide +kernel
theorem dX5_isRectangle_33 : decode cX5_isRectangle 33 = .ok (.goto 4, 3) := by decide +kernel
theorem dX5_isRectangle_36 : decode cX5_isRectangle 36 = .ok (.iconst 0, 1) := by decide +kernel
theorem dX5_isRectangle_37 : decode cX5_isRectangle 37 = .ok (.ireturn, 1) := by decide +kernel
theorem dX5_isCell_0 : decode cX5_isCell 0 = .ok (.iload_n 0, 1) := by decide +kernel
theorem dX5_isCell_1 : decode cX5_isCell 1 = .ok (.ifCond .lt 14, 3) := by decide +kernel
theorem dX5_isCell_4 : decode cX5_isCell 4 = .ok (.iload_n 0, 1) := by decide +kernel
theorem dX5_isCell_5 : decode cX5_isCell 5 = .ok (.sipush 160, 3) := by decide +kernel
theorem dX5_isCell_8 : decode cX5_isCell 8 = .ok (.if_icmp .ge 7, 3) := by decide +kernel
theorem dX5_isCell_11 : decode cX5_isCell 11 = .ok (.iconst 1, 1) := by decide +kernel
theorem dX5_isCell_12 : decode cX5_isCell 12 = .ok (.goto 4, 3) := by decide +kernel
theorem dX5_isCell_15 : decode cX5_isCell 15 = .ok (.iconst 0, 1) := by decide +kernel
theorem dX5_isCell_16 : decode cX5_isCell 16 = .ok (.ireturn, 1) := by decide +kernel
theorem dX5_numberOf_0 : decode cX5_numberOf 0 = .ok (.iload_n 0, 1) := by decide +kernel
theorem dX5_numberOf_1 : decode cX5_numberOf 1 = .ok (.bipush 16, 2) := by decide +kernel
theorem dX5_numberOf_3 : decode cX5_numberOf 3 = .ok (.iload_n 1, 1) := by decide +kernel
theorem dX5_numberOf_4 : decode cX5_numberOf 4 = .ok (.imul, 1) := by decide +kernel
theorem dX5_numberOf_5 : decode cX5_numberOf 5 = .ok (.iadd, 1) := by decide +kernel
theorem dX5_numberOf_6 : decode cX5_numberOf 6 = .ok (.ireturn, 1) := by decide +kernel
theorem dX5_beside_0 : decode cX5_beside 0 = .ok (.iload_n 0, 1) := by decide +kernel
theorem dX5_beside_1 : decode cX5_beside 1 = .ok (.bipush 16, 2) := by decide +kernel
theorem dX5_beside_3 : decode cX5_beside 3 = .ok (.irem, 1) := by decide +kernel
theorem dX5_beside_4 : decode cX5_beside 4 = .ok (.istore_n 2, 1) := by decide +kernel
theorem dX5_beside_5 : decode cX5_beside 5 = .ok (.iload_n 1, 1) := by decide +kernel
theorem dX5_beside_6 : decode cX5_beside 6 = .ok (.tableswitch 67 0 2 #[26, 41, 53], 26) := by decide +kernel
theorem dX5_beside_32 : decode cX5_beside 32 = .ok (.iload_n 0, 1) := by decide +kernel
theorem dX5_beside_33 : decode cX5_beside 33 = .ok (.bipush 16, 2) := by decide +kernel
theorem dX5_beside_35 : decode cX5_beside 35 = .ok (.if_icmp .ge 7, 3) := by decide +kernel
theorem dX5_beside_38 : decode cX5_beside 38 = .ok (.iconst (-1), 1) := by decide +kernel
theorem dX5_beside_39 : decode cX5_beside 39 = .ok (.goto 7, 3) := by decide +kernel
theorem dX5_beside_42 : decode cX5_beside 42 = .ok (.iload_n 0, 1) := by decide +kernel
theorem dX5_beside_43 : decode cX5_beside 43 = .ok (.bipush 16, 2) := by decide +kernel
theorem dX5_beside_45 : decode cX5_beside 45 = .ok (.isub, 1) := by decide +kernel
theorem dX5_beside_46 : decode cX5_beside 46 = .ok (.ireturn, 1) := by decide +kernel
theorem dX5_beside_47 : decode cX5_beside 47 = .ok (.iload_n 2, 1) := by decide +kernel
theorem dX5_beside_48 : decode cX5_beside 48 = .ok (.ifCond .ne 7, 3) := by decide +kernel
theorem dX5_beside_51 : decode cX5_beside 51 = .ok (.iconst (-1), 1) := by decide +kernel
theorem dX5_beside_52 : decode cX5_beside 52 = .ok (.goto 6, 3) := by decide +kernel
theorem dX5_beside_55 : decode cX5_beside 55 = .ok (.iload_n 0, 1) := by decide +kernel
theorem dX5_beside_56 : decode cX5_beside 56 = .ok (.iconst 1, 1) := by decide +kernel
theorem dX5_beside_57 : decode cX5_beside 57 = .ok (.isub, 1) := by decide +kernel
theorem dX5_beside_58 : decode cX5_beside 58 = .ok (.ireturn, 1) := by decide +kernel
theorem dX5_beside_59 : decode cX5_beside 59 = .ok (.iload_n 2, 1) := by decide +kernel
theorem dX5_beside_60 : decode cX5_beside 60 = .ok (.bipush 15, 2) := by decide +kernel
theorem dX5_beside_62 : decode cX5_beside 62 = .ok (.if_icmp .ne 7, 3) := by decide +kernel
theorem dX5_beside_65 : decode cX5_beside 65 = .ok (.iconst (-1), 1) := by decide +kernel
theorem dX5_beside_66 : decode cX5_beside 66 = .ok (.goto 6, 3) := by decide +kernel
theorem dX5_beside_69 : decode cX5_beside 69 = .ok (.iload_n 0, 1) := by decide +kernel
theorem dX5_beside_70 : decode cX5_beside 70 = .ok (.iconst 1, 1) := by decide +kernel
theorem dX5_beside_71 : decode cX5_beside 71 = .ok (.iadd, 1) := by decide +kernel
theorem dX5_beside_72 : decode cX5_beside 72 = .ok (.ireturn, 1) := by decide +kernel
theorem dX5_beside_73 : decode cX5_beside 73 = .ok (.iload_n 0, 1) := by decide +kernel
theorem dX5_beside_74 : decode cX5_beside 74 = .ok (.bipush 16, 2) := by decide +kernel
theorem dX5_beside_76 : decode cX5_beside 76 = .ok (.iadd, 1) := by decide +kernel
theorem dX5_beside_77 : decode cX5_beside 77 = .ok (.sipush 160, 3) := by decide +kernel
theorem dX5_beside_80 : decode cX5_beside 80 = .ok (.if_icmp .ge 10, 3) := by decide +kernel
theorem dX5_beside_83 : decode cX5_beside 83 = .ok (.iload_n 0, 1) := by decide +kernel
theorem dX5_beside_84 : decode cX5_beside 84 = .ok (.bipush 16, 2) := by decide +kernel
theorem dX5_beside_86 : decode cX5_beside 86 = .ok (.iadd, 1) := by decide +kernel
theorem dX5_beside_87 : decode cX5_beside 87 = .ok (.goto 4, 3) := by decide +kernel
theorem dX5_beside_90 : decode cX5_beside 90 = .ok (.iconst (-1), 1) := by decide +kernel
theorem dX5_beside_91 : decode cX5_beside 91 = .ok (.ireturn, 1) := by decide +kernel
theorem dX5_thicknessFor_0 : decode cX5_thicknessFor 0 = .ok (.bipush 8, 2) := by decide +kernel
theorem dX5_thicknessFor_2 : decode cX5_thicknessFor 2 = .ok (.iload_n 0, 1) := by decide +kernel
theorem dX5_thicknessFor_3 : decode cX5_thicknessFor 3 = .ok (.bipush 12, 2) := by decide +kernel
theorem dX5_thicknessFor_5 : decode cX5_thicknessFor 5 = .ok (.idiv, 1) := by decide +kernel
theorem dX5_thicknessFor_6 : decode cX5_thicknessFor 6 = .ok (.iadd, 1) := by decide +kernel
theorem dX5_thicknessFor_7 : decode cX5_thicknessFor 7 = .ok (.ireturn, 1) := by decide +kernel
theorem dX5_drag_0 : decode cX5_drag 0 = .ok (.bipush 60, 2) := by decide +kernel
theorem dX5_drag_2 : decode cX5_drag 2 = .ok (.iload_n 1, 1) := by decide +kernel
theorem dX5_drag_3 : decode cX5_drag 3 = .ok (.imul, 1) := by decide +kernel
theorem dX5_drag_4 : decode cX5_drag 4 = .ok (.istore_n 3, 1) := by decide +kernel
theorem dX5_drag_5 : decode cX5_drag 5 = .ok (.iload_n 3, 1) := by decide +kernel
theorem dX5_drag_6 : decode cX5_drag 6 = .ok (.ifCond .le 9, 3) := by decide +kernel
theorem dX5_drag_9 : decode cX5_drag 9 = .ok (.iload_n 0, 1) := by decide +kernel
theorem dX5_drag_10 : decode cX5_drag 10 = .ok (.iload_n 3, 1) := by decide +kernel
theorem dX5_drag_11 : decode cX5_drag 11 = .ok (.idiv, 1) := by decide +kernel
theorem dX5_drag_12 : decode cX5_drag 12 = .ok (.goto 4, 3) := by decide +kernel
theorem dX5_drag_15 : decode cX5_drag 15 = .ok (.iconst 0, 1) := by decide +kernel
theorem dX5_drag_16 : decode cX5_drag 16 = .ok (.iload_n 2, 1) := by decide +kernel
theorem dX5_drag_17 : decode cX5_drag 17 = .ok (.bipush 50, 2) := by decide +kernel
theorem dX5_drag_19 : decode cX5_drag 19 = .ok (.if_icmp .lt 7, 3) := by decide +kernel
theorem dX5_drag_22 : decode cX5_drag 22 = .ok (.iconst 1, 1) := by decide +kernel
theorem dX5_drag_23 : decode cX5_drag 23 = .ok (.goto 4, 3) := by decide +kernel
theorem dX5_drag_26 : decode cX5_drag 26 = .ok (.iconst 0, 1) := by decide +kernel
theorem dX5_drag_27 : decode cX5_drag 27 = .ok (.iadd, 1) := by decide +kernel
theorem dX5_drag_28 : decode cX5_drag 28 = .ok (.ireturn, 1) := by decide +kernel
theorem dX6_init_0 : decode cX6_init 0 = .ok (.aload_n 0, 1) := by decide +kernel
theorem dX6_init_1 : decode cX6_init 1 = .ok (.invokespecial 1, 3) := by decide +kernel
theorem dX6_init_4 : decode cX6_init 4 = .ok (.aload_n 0, 1) := by decide +kernel
theorem dX6_init_5 : decode cX6_init 5 = .ok (.sipush 160, 3) := by decide +kernel
theorem dX6_init_8 : decode cX6_init 8 = .ok (.newarray .int, 2) := by decide +kernel
theorem dX6_init_10 : decode cX6_init 10 = .ok (.putfield 9, 3) := by decide +kernel
theorem dX6_init_13 : decode cX6_init 13 = .ok (.aload_n 0, 1) := by decide +kernel
theorem dX6_init_14 : decode cX6_init 14 = .ok (.bipush 8, 2) := by decide +kernel
theorem dX6_init_16 : decode cX6_init 16 = .ok (.newarray .int, 2) := by decide +kernel
theorem dX6_init_18 : decode cX6_init 18 = .ok (.putfield 13, 3) := by decide +kernel
theorem dX6_init_21 : decode cX6_init 21 = .ok (.aload_n 0, 1) := by decide +kernel
theorem dX6_init_22 : decode cX6_init 22 = .ok (.bipush 8, 2) := by decide +kernel
theorem dX6_init_24 : decode cX6_init 24 = .ok (.newarray .int, 2) := by decide +kernel
theorem dX6_init_26 : decode cX6_init 26 = .ok (.putfield 16, 3) := by decide +kernel
theorem dX6_init_29 : decode cX6_init 29 = .ok (.aload_n 0, 1) := by decide +kernel
theorem dX6_init_30 : decode cX6_init 30 = .ok (.sipush 160, 3) := by decide +kernel
theorem dX6_init_33 : decode cX6_init 33 = .ok (.newarray .int, 2) := by decide +kernel
theorem dX6_init_35 : decode cX6_init 35 = .ok (.putfield 19, 3) := by decide +kernel
theorem dX6_init_38 : decode cX6_init 38 = .ok (.aload_n 0, 1) := by decide +kernel
theorem dX6_init_39 : decode cX6_init 39 = .ok (.sipush 160, 3) := by decide +kernel
theorem dX6_init_42 : decode cX6_init 42 = .ok (.newarray .int, 2) := by decide +kernel
theorem dX6_init_44 : decode cX6_init 44 = .ok (.putfield 22, 3) := by decide +kernel
theorem dX6_init_47 : decode cX6_init 47 = .ok (.aload_n 0, 1) := by decide +kernel
theorem dX6_init_48 : decode cX6_init 48 = .ok (.sipush 160, 3) := by decide +kernel
theorem dX6_init_51 : decode cX6_init 51 = .ok (.newarray .int, 2) := by decide +kernel
theorem dX6_init_53 : decode cX6_init 53 = .ok (.putfield 25, 3) := by decide +kernel
theorem dX6_init_56 : decode cX6_init 56 = .ok (.aload_n 0, 1) := by decide +kernel
theorem dX6_init_57 : decode cX6_init 57 = .ok (.bipush 35, 2) := by decide +kernel
theorem dX6_init_59 : decode cX6_init 59 = .ok (.newarray .int, 2) := by decide +kernel
theorem dX6_init_61 : decode cX6_init 61 = .ok (.putfield 28, 3) := by decide +kernel
theorem dX6_init_64 : decode cX6_init 64 = .ok (.aload_n 0, 1) := by decide +kernel
theorem dX6_init_65 : decode cX6_init 65 = .ok (.sipush 200, 3) := by decide +kernel
theorem dX6_init_68 : decode cX6_init 68 = .ok (.newarray .int, 2) := by decide +kernel
theorem dX6_init_70 : decode cX6_init 70 = .ok (.putfield 31, 3) := by decide +kernel
theorem dX6_init_73 : decode cX6_init 73 = .ok (.aload_n 0, 1) := by decide +kernel
theorem dX6_init_74 : decode cX6_init 74 = .ok (.iconst 1, 1) := by decide +kernel
theorem dX6_init_75 : decode cX6_init 75 = .ok (.newarray .int, 2) := by decide +kernel
theorem dX6_init_77 : decode cX6_init 77 = .ok (.dup, 1) := by decide +kernel
theorem dX6_init_78 : decode cX6_init 78 = .ok (.iconst 0, 1) := by decide +kernel
theorem dX6_init_79 : decode cX6_init 79 = .ok (.iconst 0, 1) := by decide +kernel
theorem dX6_init_80 : decode cX6_init 80 = .ok (.iastore, 1) := by decide +kernel
theorem dX6_init_81 : decode cX6_init 81 = .ok (.putfield 34, 3) := by decide +kernel
theorem dX6_init_84 : decode cX6_init 84 = .ok (.aload_n 0, 1) := by decide +kernel
theorem dX6_init_85 : decode cX6_init 85 = .ok (.sipush 160, 3) := by decide +kernel
theorem dX6_init_88 : decode cX6_init 88 = .ok (.newarray .int, 2) := by decide +kernel
theorem dX6_init_90 : decode cX6_init 90 = .ok (.putfield 37, 3) := by decide +kernel
theorem dX6_init_93 : decode cX6_init 93 = .ok (.aload_n 0, 1) := by decide +kernel
theorem dX6_init_94 : decode cX6_init 94 = .ok (.sipush 160, 3) := by decide +kernel
theorem dX6_init_97 : decode cX6_init 97 = .ok (.newarray .boolean, 2) := by decide +kernel
theorem dX6_init_99 : decode cX6_init 99 = .ok (.putfield 40, 3) := by decide +kernel
theorem dX6_init_102 : decode cX6_init 102 = .ok (.iconst 0, 1) := by decide +kernel
theorem dX6_init_103 : decode cX6_init 103 = .ok (.istore_n 1, 1) := by decide +kernel
theorem dX6_init_104 : decode cX6_init 104 = .ok (.iload_n 1, 1) := by decide +kernel
theorem dX6_init_105 : decode cX6_init 105 = .ok (.sipush 160, 3) := by decide +kernel
theorem dX6_init_108 : decode cX6_init 108 = .ok (.if_icmp .ge 24, 3) := by decide +kernel
theorem dX6_init_111 : decode cX6_init 111 = .ok (.aload_n 0, 1) := by decide +kernel
theorem dX6_init_112 : decode cX6_init 112 = .ok (.getfield 9, 3) := by decide +kernel
theorem dX6_init_115 : decode cX6_init 115 = .ok (.iload_n 1, 1) := by decide +kernel
theorem dX6_init_116 : decode cX6_init 116 = .ok (.iconst 1, 1) := by decide +kernel
theorem dX6_init_117 : decode cX6_init 117 = .ok (.iastore, 1) := by decide +kernel
theorem dX6_init_118 : decode cX6_init 118 = .ok (.aload_n 0, 1) := by decide +kernel
theorem dX6_init_119 : decode cX6_init 119 = .ok (.getfield 19, 3) := by decide +kernel
theorem dX6_init_122 : decode cX6_init 122 = .ok (.iload_n 1, 1) := by decide +kernel
theorem dX6_init_123 : decode cX6_init 123 = .ok (.bipush 30, 2) := by decide +kernel
theorem dX6_init_125 : decode cX6_init 125 = .ok (.iastore, 1) := by decide +kernel
theorem dX6_init_126 : decode cX6_init 126 = .ok (.iinc 1 1, 3) := by decide +kernel
theorem dX6_init_129 : decode cX6_init 129 = .ok (.goto (-25), 3) := by decide +kernel
theorem dX6_init_132 : decode cX6_init 132 = .ok (.iconst 0, 1) := by decide +kernel
theorem dX6_init_133 : decode cX6_init 133 = .ok (.istore_n 1, 1) := by decide +kernel
theorem dX6_init_134 : decode cX6_init 134 = .ok (.iload_n 1, 1) := by decide +kernel
theorem dX6_init_135 : decode cX6_init 135 = .ok (.bipush 8, 2) := by decide +kernel
theorem dX6_init_137 : decode cX6_init 137 = .ok (.if_icmp .ge 16, 3) := by decide +kernel
theorem dX6_init_140 : decode cX6_init 140 = .ok (.aload_n 0, 1) := by decide +kernel
theorem dX6_init_141 : decode cX6_init 141 = .ok (.getfield 13, 3) := by decide +kernel
theorem dX6_init_144 : decode cX6_init 144 = .ok (.iload_n 1, 1) := by decide +kernel
theorem dX6_init_145 : decode cX6_init 145 = .ok (.iconst 5, 1) := by decide +kernel
theorem dX6_init_146 : decode cX6_init 146 = .ok (.iastore, 1) := by decide +kernel
theorem dX6_init_147 : decode cX6_init 147 = .ok (.iinc 1 1, 3) := by decide +kernel
theorem dX6_init_150 : decode cX6_init 150 = .ok (.goto (-16), 3) := by decide +kernel
theorem dX6_init_153 : decode cX6_init 153 = .ok (.return_, 1) := by decide +kernel
theorem dX6_thrown_0 : decode cX6_thrown 0 = .ok (.aload_n 0, 1) := by decide +kernel
theorem dX6_thrown_1 : decode cX6_thrown 1 = .ok (.getfield 44, 3) := by decide +kernel
theorem dX6_thrown_4 : decode cX6_thrown 4 = .ok (.ireturn, 1) := by decide +kernel
theorem dX6_fail_0 : decode cX6_fail 0 = .ok (.aload_n 0, 1) := by decide +kernel
theorem dX6_fail_1 : decode cX6_fail 1 = .ok (.iload_n 1, 1) := by decide +kernel
theorem dX6_fail_2 : decode cX6_fail 2 = .ok (.putfield 44, 3) := by decide +kernel
theorem dX6_fail_5 : decode cX6_fail 5 = .ok (.iconst 0, 1) := by decide +kernel
theorem dX6_fail_6 : decode cX6_fail 6 = .ok (.ireturn, 1) := by decide +kernel
theorem dX6_isIn_0 : decode cX6_isIn 0 = .ok (.iload_n 0, 1) := by decide +kernel
theorem dX6_isIn_1 : decode cX6_isIn 1 = .ok (.iload_n 1, 1) := by decide +kernel
theorem dX6_isIn_2 : decode cX6_isIn 2 = .ok (.if_icmp .lt 12, 3) := by decide +kernel
theorem dX6_isIn_5 : decode cX6_isIn 5 = .ok (.iload_n 0, 1) := by decide +kernel
theorem dX6_isIn_6 : decode cX6_isIn 6 = .ok (.iload_n 2, 1) := by decide +kernel
theorem dX6_isIn_7 : decode cX6_isIn 7 = .ok (.if_icmp .gt 7, 3) := by decide +kernel
theorem dX6_isIn_10 : decode cX6_isIn 10 = .ok (.iconst 1, 1) := by decide +kernel
theorem dX6_isIn_11 : decode cX6_isIn 11 = .ok (.goto 4, 3) := by decide +kernel
theorem dX6_isIn_14 : decode cX6_isIn 14 = .ok (.iconst 0, 1) := by decide +kernel
theorem dX6_isIn_15 : decode cX6_isIn 15 = .ok (.ireturn, 1) := by decide +kernel
theorem dX6_isCell_0 : decode cX6_isCell 0 = .ok (.iload_n 0, 1) := by decide +kernel
theorem dX6_isCell_1 : decode cX6_isCell 1 = .ok (.iconst 0, 1) := by decide +kernel
theorem dX6_isCell_2 : decode cX6_isCell 2 = .ok (.bipush 15, 2) := by decide +kernel
theorem dX6_isCell_4 : decode cX6_isCell 4 = .ok (.invokestatic 48, 3) := by decide +kernel
theorem dX6_isCell_7 : decode cX6_isCell 7 = .ok (.ifCond .eq 17, 3) := by decide +kernel
theorem dX6_isCell_10 : decode cX6_isCell 10 = .ok (.iload_n 1, 1) := by decide +kernel
theorem dX6_isCell_11 : decode cX6_isCell 11 = .ok (.iconst 0, 1) := by decide +kernel
theorem dX6_isCell_12 : decode cX6_isCell 12 = .ok (.bipush 9, 2) := by decide +kernel
theorem dX6_isCell_14 : decode cX6_isCell 14 = .ok (.invokestatic 48, 3) := by decide +kernel
theorem dX6_isCell_17 : decode cX6_isCell 17 = .ok (.ifCond .eq 7, 3) := by decide +kernel
theorem dX6_isCell_20 : decode cX6_isCell 20 = .ok (.iconst 1, 1) := by decide +kernel
theorem dX6_isCell_21 : decode cX6_isCell 21 = .ok (.goto 4, 3) := by decide +kernel
theorem dX6_isCell_24 : decode cX6_isCell 24 = .ok (.iconst 0, 1) := by decide +kernel
theorem dX6_isCell_25 : decode cX6_isCell 25 = .ok (.ireturn, 1) := by decide +kernel
theorem dX6_isPost_0 : decode cX6_isPost 0 = .ok (.iload_n 1, 1) := by decide +kernel
theorem dX6_isPost_1 : decode cX6_isPost 1 = .ok (.iconst 0, 1) := by decide +kernel
theorem dX6_isPost_2 : decode cX6_isPost 2 = .ok (.aload_n 0, 1) := by decide +kernel
theorem dX6_isPost_3 : decode cX6_isPost 3 = .ok (.getfield 52, 3) := by decide +kernel
theorem dX6_isPost_6 : decode cX6_isPost 6 = .ok (.iconst 1, 1) := by decide +kernel
theorem dX6_isPost_7 : decode cX6_isPost 7 = .ok (.isub, 1) := by decide +kernel
theorem dX6_isPost_8 : decode cX6_isPost 8 = .ok (.invokestatic 48, 3) := by decide +kernel
theorem dX6_isPost_11 : decode cX6_isPost 11 = .ok (.ireturn, 1) := by decide +kernel
theorem dX6_isSleigh_0 : decode cX6_isSleigh 0 = .ok (.iload_n 1, 1) := by decide +kernel
theorem dX6_isSleigh_1 : decode cX6_isSleigh 1 = .ok (.iconst 0, 1) := by decide +kernel
theorem dX6_isSleigh_2 : decode cX6_isSleigh 2 = .ok (.aload_n 0, 1) := by decide +kernel
theorem dX6_isSleigh_3 : decode cX6_isSleigh 3 = .ok (.getfield 55, 3) := by decide +kernel
theorem dX6_isSleigh_6 : decode cX6_isSleigh 6 = .ok (.iconst 1, 1) := by decide +kernel
theorem dX6_isSleigh_7 : decode cX6_isSleigh 7 = .ok (.isub, 1) := by decide +kernel
theorem dX6_isSleigh_8 : decode cX6_isSleigh 8 = .ok (.invokestatic 48, 3) := by decide +kernel
theorem dX6_isSleigh_11 : decode cX6_isSleigh 11 = .ok (.ireturn, 1) := by decide +kernel
theorem dX6_sl_0 : decode cX6_sl 0 = .ok (.aload_n 0, 1) := by decide +kernel
theorem dX6_sl_1 : decode cX6_sl 1 = .ok (.getfield 28, 3) := by decide +kernel
theorem dX6_sl_4 : decode cX6_sl 4 = .ok (.bipush 7, 2) := by decide +kernel
theorem dX6_sl_6 : decode cX6_sl 6 = .ok (.iload_n 1, 1) := by decide +kernel
theorem dX6_sl_7 : decode cX6_sl 7 = .ok (.imul, 1) := by decide +kernel
theorem dX6_sl_8 : decode cX6_sl 8 = .ok (.iload_n 2, 1) := by decide +kernel
theorem dX6_sl_9 : decode cX6_sl 9 = .ok (.iadd, 1) := by decide +kernel
theorem dX6_sl_10 : decode cX6_sl 10 = .ok (.iaload, 1) := by decide +kernel
theorem dX6_sl_11 : decode cX6_sl 11 = .ok (.ireturn, 1) := by decide +kernel
theorem dX6_set_0 : decode cX6_set 0 = .ok (.aload_n 0, 1) := by decide +kernel
theorem dX6_set_1 : decode cX6_set 1 = .ok (.getfield 28, 3) := by decide +kernel
theorem dX6_set_4 : decode cX6_set 4 = .ok (.bipush 7, 2) := by decide +kernel
theorem dX6_set_6 : decode cX6_set 6 = .ok (.iload_n 1, 1) := by decide +kernel
theorem dX6_set_7 : decode cX6_set 7 = .ok (.imul, 1) := by decide +kernel
theorem dX6_set_8 : decode cX6_set 8 = .ok (.iload_n 2, 1) := by decide +kernel
theorem dX6_set_9 : decode cX6_set 9 = .ok (.iadd, 1) := by decide +kernel
theorem dX6_set_10 : decode cX6_set 10 = .ok (.iload_n 3, 1) := by decide +kernel
theorem dX6_set_11 : decode cX6_set 11 = .ok (.iastore, 1) := by decide +kernel
theorem dX6_set_12 : decode cX6_set 12 = .ok (.return_, 1) := by decide +kernel
theorem dX6_ba_0 : decode cX6_ba 0 = .ok (.aload_n 0, 1) := by decide +kernel
theorem dX6_ba_1 : decode cX6_ba 1 = .ok (.getfield 31, 3) := by decide +kernel
theorem dX6_ba_4 : decode cX6_ba 4 = .ok (.iconst 5, 1) := by decide +kernel
theorem dX6_ba_5 : decode cX6_ba 5 = .ok (.iload_n 1, 1) := by decide +kernel
theorem dX6_ba_6 : decode cX6_ba 6 = .ok (.imul, 1) := by decide +kernel
theorem dX6_ba_7 : decode cX6_ba 7 = .ok (.iload_n 2, 1) := by decide +kernel
theorem dX6_ba_8 : decode cX6_ba 8 = .ok (.iadd, 1) := by decide +kernel
theorem dX6_ba_9 : decode cX6_ba 9 = .ok (.iaload, 1) := by decide +kernel
theorem dX6_ba_10 : decode cX6_ba 10 = .ok (.ireturn, 1) := by decide +kernel
theorem dX6_setBa_0 : decode cX6_setBa 0 = .ok (.aload_n 0, 1) := by decide +kernel
theorem dX6_setBa_1 : decode cX6_setBa 1 = .ok (.getfield 31, 3) := by decide +kernel
theorem dX6_setBa_4 : decode cX6_setBa 4 = .ok (.iconst 5, 1) := by decide +kernel
theorem dX6_setBa_5 : decode cX6_setBa 5 = .ok (.iload_n 1, 1) := by decide +kernel
theorem dX6_setBa_6 : decode cX6_setBa 6 = .ok (.imul, 1) := by decide +kernel
theorem dX6_setBa_7 : decode cX6_setBa 7 = .ok (.iconst 2, 1) := by decide +kernel
theorem dX6_setBa_8 : decode cX6_setBa 8 = .ok (.iadd, 1) := by decide +kernel
theorem dX6_setBa_9 : decode cX6_setBa 9 = .ok (.iload_n 2, 1) := by decide +kernel
theorem dX6_setBa_10 : decode cX6_setBa 10 = .ok (.iastore, 1) := by decide +kernel
theorem dX6_setBa_11 : decode cX6_setBa 11 = .ok (.aload_n 0, 1) := by decide +kernel
theorem dX6_setBa_12 : decode cX6_setBa 12 = .ok (.getfield 31, 3) := by decide +kernel
theorem dX6_setBa_15 : decode cX6_setBa 15 = .ok (.iconst 5, 1) := by decide +kernel
theorem dX6_setBa_16 : decode cX6_setBa 16 = .ok (.iload_n 1, 1) := by decide +kernel
theorem dX6_setBa_17 : decode cX6_setBa 17 = .ok (.imul, 1) := by decide +kernel
theorem dX6_setBa_18 : decode cX6_setBa 18 = .ok (.iconst 3, 1) := by decide +kernel
theorem dX6_setBa_19 : decode cX6_setBa 19 = .ok (.iadd, 1) := by decide +kernel
theorem dX6_setBa_20 : decode cX6_setBa 20 = .ok (.iload_n 3, 1) := by decide +kernel
theorem dX6_setBa_21 : decode cX6_setBa 21 = .ok (.iastore, 1) := by decide +kernel
theorem dX6_setBa_22 : decode cX6_setBa 22 = .ok (.return_, 1) := by decide +kernel
theorem dX6_beside_0 : decode cX6_beside 0 = .ok (.iload_n 0, 1) := by decide +kernel
theorem dX6_beside_1 : decode cX6_beside 1 = .ok (.bipush 16, 2) := by decide +kernel
theorem dX6_beside_3 : decode cX6_beside 3 = .ok (.irem, 1) := by decide +kernel
theorem dX6_beside_4 : decode cX6_beside 4 = .ok (.iload_n 1, 1) := by decide +kernel
theorem dX6_beside_5 : decode cX6_beside 5 = .ok (.iconst 1, 1) := by decide +kernel
theorem dX6_beside_6 : decode cX6_beside 6 = .ok (.if_icmp .ne 7, 3) := by decide +kernel
theorem dX6_beside_9 : decode cX6_beside 9 = .ok (.iconst (-1), 1) := by decide +kernel
theorem dX6_beside_10 : decode cX6_beside 10 = .ok (.goto 13, 3) := by decide +kernel
theorem dX6_beside_13 : decode cX6_beside 13 = .ok (.iload_n 1, 1) := by decide +kernel
theorem dX6_beside_14 : decode cX6_beside 14 = .ok (.iconst 2, 1) := by decide +kernel
theorem dX6_beside_15 : decode cX6_beside 15 = .ok (.if_icmp .ne 7, 3) := by decide +kernel
theorem dX6_beside_18 : decode cX6_beside 18 = .ok (.iconst 1, 1) := by decide +kernel
theorem dX6_beside_19 : decode cX6_beside 19 = .ok (.goto 4, 3) := by decide +kernel
theorem dX6_beside_22 : decode cX6_beside 22 = .ok (.iconst 0, 1) := by decide +kernel
theorem dX6_beside_23 : decode cX6_beside 23 = .ok (.iadd, 1) := by decide +kernel
theorem dX6_beside_24 : decode cX6_beside 24 = .ok (.istore_n 2, 1) := by decide +kernel
theorem dX6_beside_25 : decode cX6_beside 25 = .ok (.iload_n 0, 1) := by decide +kernel
theorem dX6_beside_26 : decode cX6_beside 26 = .ok (.bipush 16, 2) := by decide +kernel
theorem dX6_beside_28 : decode cX6_beside 28 = .ok (.idiv, 1) := by decide +kernel
theorem dX6_beside_29 : decode cX6_beside 29 = .ok (.iload_n 1, 1) := by decide +kernel
theorem dX6_beside_30 : decode cX6_beside 30 = .ok (.ifCond .ne 7, 3) := by decide +kernel
theorem dX6_beside_33 : decode cX6_beside 33 = .ok (.iconst (-1), 1) := by decide +kernel
theorem dX6_beside_34 : decode cX6_beside 34 = .ok (.goto 13, 3) := by decide +kernel
theorem dX6_beside_37 : decode cX6_beside 37 = .ok (.iload_n 1, 1) := by decide +kernel
theorem dX6_beside_38 : decode cX6_beside 38 = .ok (.iconst 3, 1) := by decide +kernel
theorem dX6_beside_39 : decode cX6_beside 39 = .ok (.if_icmp .ne 7, 3) := by decide +kernel
theorem dX6_beside_42 : decode cX6_beside 42 = .ok (.iconst 1, 1) := by decide +kernel
theorem dX6_beside_43 : decode cX6_beside 43 = .ok (.goto 4, 3) := by decide +kernel
theorem dX6_beside_46 : decode cX6_beside 46 = .ok (.iconst 0, 1) := by decide +kernel
theorem dX6_beside_47 : decode cX6_beside 47 = .ok (.iadd, 1) := by decide +kernel
theorem dX6_beside_48 : decode cX6_beside 48 = .ok (.istore_n 3, 1) := by decide +kernel
theorem dX6_beside_49 : decode cX6_beside 49 = .ok (.iload_n 2, 1) := by decide +kernel
theorem dX6_beside_50 : decode cX6_beside 50 = .ok (.iload_n 3, 1) := by decide +kernel
theorem dX6_beside_51 : decode cX6_beside 51 = .ok (.invokestatic 58, 3) := by decide +kernel
theorem dX6_beside_54 : decode cX6_beside 54 = .ok (.ifCond .eq 12, 3) := by decide +kernel
theorem dX6_beside_57 : decode cX6_beside 57 = .ok (.iload_n 2, 1) := by decide +kernel
theorem dX6_beside_58 : decode cX6_beside 58 = .ok (.bipush 16, 2) := by decide +kernel
theorem dX6_beside_60 : decode cX6_beside 60 = .ok (.iload_n 3, 1) := by decide +kernel
theorem dX6_beside_61 : decode cX6_beside 61 = .ok (.imul, 1) := by decide +kernel
theorem dX6_beside_62 : decode cX6_beside 62 = .ok (.iadd, 1) := by decide +kernel
theorem dX6_beside_63 : decode cX6_beside 63 = .ok (.goto 4, 3) := by decide +kernel
theorem dX6_beside_66 : decode cX6_beside 66 = .ok (.iconst (-1), 1) := by decide +kernel
theorem dX6_beside_67 : decode cX6_beside 67 = .ok (.ireturn, 1) := by decide +kernel
theorem dX6_sleighsAt_0 : decode cX6_sleighsAt 0 = .ok (.iconst 0, 1) := by decide +kernel
theorem dX6_sleighsAt_1 : decode cX6_sleighsAt 1 = .ok (.istore_n 2, 1) := by decide +kernel
theorem dX6_sleighsAt_2 : decode cX6_sleighsAt 2 = .ok (.iconst 0, 1) := by decide +kernel
theorem dX6_sleighsAt_3 : decode cX6_sleighsAt 3 = .ok (.istore_n 3, 1) := by decide +kernel
theorem dX6_sleighsAt_4 : decode cX6_sleighsAt 4 = .ok (.iload_n 3, 1) := by decide +kernel
theorem dX6_sleighsAt_5 : decode cX6_sleighsAt 5 = .ok (.aload_n 0, 1) := by decide +kernel
theorem dX6_sleighsAt_6 : decode cX6_sleighsAt 6 = .ok (.getfield 55, 3) := by decide +kernel
theorem dX6_sleighsAt_9 : decode cX6_sleighsAt 9 = .ok (.if_icmp .ge 37, 3) := by decide +kernel
theorem dX6_sleighsAt_12 : decode cX6_sleighsAt 12 = .ok (.iload_n 2, 1) := by decide +kernel
theorem dX6_sleighsAt_13 : decode cX6_sleighsAt 13 = .ok (.aload_n 0, 1) := by decide +kernel
theorem dX6_sleighsAt_14 : decode cX6_sleighsAt 14 = .ok (.iload_n 3, 1) := by decide +kernel
theorem dX6_sleighsAt_15 : decode cX6_sleighsAt 15 = .ok (.iconst 2, 1) := by decide +kernel
theorem dX6_sleighsAt_16 : decode cX6_sleighsAt 16 = .ok (.invokevirtual 62, 3) := by decide +kernel
theorem dX6_sleighsAt_19 : decode cX6_sleighsAt 19 = .ok (.iconst 2, 1) := by decide +kernel
theorem dX6_sleighsAt_20 : decode cX6_sleighsAt 20 = .ok (.if_icmp .eq 17, 3) := by decide +kernel
theorem dX6_sleighsAt_23 : decode cX6_sleighsAt 23 = .ok (.aload_n 0, 1) := by decide +kernel
theorem dX6_sleighsAt_24 : decode cX6_sleighsAt 24 = .ok (.iload_n 3, 1) := by decide +kernel
theorem dX6_sleighsAt_25 : decode cX6_sleighsAt 25 = .ok (.iconst 3, 1) := by decide +kernel
theorem dX6_sleighsAt_26 : decode cX6_sleighsAt 26 = .ok (.invokevirtual 62, 3) := by decide +kernel
theorem dX6_sleighsAt_29 : decode cX6_sleighsAt 29 = .ok (.iload_n 1, 1) := by decide +kernel
theorem dX6_sleighsAt_30 : decode cX6_sleighsAt 30 = .ok (.if_icmp .ne 7, 3) := by decide +kernel
theorem dX6_sleighsAt_33 : decode cX6_sleighsAt 33 = .ok (.iconst 1, 1) := by decide +kernel
theorem dX6_sleighsAt_34 : decode cX6_sleighsAt 34 = .ok (.goto 4, 3) := by decide +kernel
theorem dX6_sleighsAt_37 : decode cX6_sleighsAt 37 = .ok (.iconst 0, 1) := by decide +kernel
theorem dX6_sleighsAt_38 : decode cX6_sleighsAt 38 = .ok (.iadd, 1) := by decide +kernel
theorem dX6_sleighsAt_39 : decode cX6_sleighsAt 39 = .ok (.istore_n 2, 1) := by decide +kernel
theorem dX6_sleighsAt_40 : decode cX6_sleighsAt 40 = .ok (.iinc 3 1, 3) := by decide +kernel
theorem dX6_sleighsAt_43 : decode cX6_sleighsAt 43 = .ok (.goto (-39), 3) := by decide +kernel
theorem dX6_sleighsAt_46 : decode cX6_sleighsAt 46 = .ok (.iload_n 2, 1) := by decide +kernel
theorem dX6_sleighsAt_47 : decode cX6_sleighsAt 47 = .ok (.ireturn, 1) := by decide +kernel
theorem dX6_postAt_0 : decode cX6_postAt 0 = .ok (.iconst 0, 1) := by decide +kernel
theorem dX6_postAt_1 : decode cX6_postAt 1 = .ok (.istore_n 2, 1) := by decide +kernel
theorem dX6_postAt_2 : decode cX6_postAt 2 = .ok (.iload_n 2, 1) := by decide +kernel
theorem dX6_postAt_3 : decode cX6_postAt 3 = .ok (.aload_n 0, 1) := by decide +kernel
theorem dX6_postAt_4 : decode cX6_postAt 4 = .ok (.getfield 52, 3) := by decide +kernel
theorem dX6_postAt_7 : decode cX6_postAt 7 = .ok (.if_icmp .ge 21, 3) := by decide +kernel
theorem dX6_postAt_10 : decode cX6_postAt 10 = .ok (.aload_n 0, 1) := by decide +kernel
theorem dX6_postAt_11 : decode cX6_postAt 11 = .ok (.getfield 16, 3) := by decide +kernel
theorem dX6_postAt_14 : decode cX6_postAt 14 = .ok (.iload_n 2, 1) := by decide +kernel
theorem dX6_postAt_15 : decode cX6_postAt 15 = .ok (.iaload, 1) := by decide +kernel
theorem dX6_postAt_16 : decode cX6_postAt 16 = .ok (.iload_n 1, 1) := by decide +kernel
theorem dX6_postAt_17 : decode cX6_postAt 17 = .ok (.if_icmp .ne 5, 3) := by decide +kernel
theorem dX6_postAt_20 : decode cX6_postAt 20 = .ok (.iload_n 2, 1) := by decide +kernel
theorem dX6_postAt_21 : decode cX6_postAt 21 = .ok (.ireturn, 1) := by decide +kernel
theorem dX6_postAt_22 : decode cX6_postAt 22 = .ok (.iinc 2 1, 3) := by decide +kernel
theorem dX6_postAt_25 : decode cX6_postAt 25 = .ok (.goto (-23), 3) := by decide +kernel
theorem dX6_postAt_28 : decode cX6_postAt 28 = .ok (.iconst (-1), 1) := by decide +kernel
theorem dX6_postAt_29 : decode cX6_postAt 29 = .ok (.ireturn, 1) := by decide +kernel
theorem dX6_make_0 : decode cX6_make 0 = .ok (.aload_n 0, 1) := by decide +kernel
theorem dX6_make_1 : decode cX6_make 1 = .ok (.getfield 19, 3) := by decide +kernel
theorem dX6_make_4 : decode cX6_make 4 = .ok (.iload_n 1, 1) := by decide +kernel
theorem dX6_make_5 : decode cX6_make 5 = .ok (.iload_n 2, 1) := by decide +kernel
theorem dX6_make_6 : decode cX6_make 6 = .ok (.iastore, 1) := by decide +kernel
theorem dX6_make_7 : decode cX6_make 7 = .ok (.aload_n 0, 1) := by decide +kernel
theorem dX6_make_8 : decode cX6_make 8 = .ok (.getfield 22, 3) := by decide +kernel
theorem dX6_make_11 : decode cX6_make 11 = .ok (.iload_n 1, 1) := by decide +kernel
theorem dX6_make_12 : decode cX6_make 12 = .ok (.iconst 0, 1) := by decide +kernel
theorem dX6_make_13 : decode cX6_make 13 = .ok (.iastore, 1) := by decide +kernel
theorem dX6_make_14 : decode cX6_make 14 = .ok (.aload_n 0, 1) := by decide +kernel
theorem dX6_make_15 : decode cX6_make 15 = .ok (.getfield 25, 3) := by decide +kernel
theorem dX6_make_18 : decode cX6_make 18 = .ok (.iload_n 1, 1) := by decide +kernel
theorem dX6_make_19 : decode cX6_make 19 = .ok (.iconst 0, 1) := by decide +kernel
theorem dX6_make_20 : decode cX6_make 20 = .ok (.iastore, 1) := by decide +kernel
theorem dX6_make_21 : decode cX6_make 21 = .ok (.return_, 1) := by decide +kernel
theorem dX6_setIce_0 : decode cX6_setIce 0 = .ok (.aload_n 0, 1) := by decide +kernel
theorem dX6_setIce_1 : decode cX6_setIce 1 = .ok (.iconst 0, 1) := by decide +kernel
theorem dX6_setIce_2 : decode cX6_setIce 2 = .ok (.putfield 44, 3) := by decide +kernel
theorem dX6_setIce_5 : decode cX6_setIce 5 = .ok (.iload_n 1, 1) := by decide +kernel
theorem dX6_setIce_6 : decode cX6_setIce 6 = .ok (.iload_n 2, 1) := by decide +kernel
theorem dX6_setIce_7 : decode cX6_setIce 7 = .ok (.invokestatic 58, 3) := by decide +kernel
theorem dX6_setIce_10 : decode cX6_setIce 10 = .ok (.ifCond .eq 40, 3) := by decide +kernel
theorem dX6_setIce_13 : decode cX6_setIce 13 = .ok (.iload_n 3, 1) := by decide +kernel
theorem dX6_setIce_14 : decode cX6_setIce 14 = .ok (.iconst 1, 1) := by decide +kernel
theorem dX6_setIce_15 : decode cX6_setIce 15 = .ok (.bipush 16, 2) := by decide +kernel
theorem dX6_setIce_17 : decode cX6_setIce 17 = .ok (.iload_n 1, 1) := by decide +kernel
theorem dX6_setIce_18 : decode cX6_setIce 18 = .ok (.isub, 1) := by decide +kernel
theorem dX6_setIce_19 : decode cX6_setIce 19 = .ok (.invokestatic 48, 3) := by decide +kernel
theorem dX6_setIce_22 : decode cX6_setIce 22 = .ok (.ifCond .eq 28, 3) := by decide +kernel
theorem dX6_setIce_25 : decode cX6_setIce 25 = .ok (.iload 4, 2) := by decide +kernel
theorem dX6_setIce_27 : decode cX6_setIce 27 = .ok (.iconst 1, 1) := by decide +kernel
theorem dX6_setIce_28 : decode cX6_setIce 28 = .ok (.bipush 10, 2) := by decide +kernel
theorem dX6_setIce_30 : decode cX6_setIce 30 = .ok (.iload_n 2, 1) := by decide +kernel
theorem dX6_setIce_31 : decode cX6_setIce 31 = .ok (.isub, 1) := by decide +kernel
theorem dX6_setIce_32 : decode cX6_setIce 32 = .ok (.invokestatic 48, 3) := by decide +kernel
theorem dX6_setIce_35 : decode cX6_setIce 35 = .ok (.ifCond .eq 15, 3) := by decide +kernel
theorem dX6_setIce_38 : decode cX6_setIce 38 = .ok (.iload 5, 2) := by decide +kernel
theorem dX6_setIce_40 : decode cX6_setIce 40 = .ok (.iconst (-1), 1) := by decide +kernel
theorem dX6_setIce_41 : decode cX6_setIce 41 = .ok (.sipush 200, 3) := by decide +kernel
theorem dX6_setIce_44 : decode cX6_setIce 44 = .ok (.invokestatic 48, 3) := by decide +kernel
theorem dX6_setIce_47 : decode cX6_setIce 47 = .ok (.ifCond .ne 9, 3) := by decide +kernel
theorem dX6_setIce_50 : decode cX6_setIce 50 = .ok (.aload_n 0, 1) := by decide +kernel
theorem dX6_setIce_51 : decode cX6_setIce 51 = .ok (.iconst 1, 1) := by decide +kernel
theorem dX6_setIce_52 : decode cX6_setIce 52 = .ok (.invokevirtual 66, 3) := by decide +kernel
theorem dX6_setIce_55 : decode cX6_setIce 55 = .ok (.ireturn, 1) := by decide +kernel
theorem dX6_setIce_56 : decode cX6_setIce 56 = .ok (.iconst 1, 1) := by decide +kernel
theorem dX6_setIce_57 : decode cX6_setIce 57 = .ok (.istore 6, 2) := by decide +kernel
theorem dX6_setIce_59 : decode cX6_setIce 59 = .ok (.iconst 0, 1) := by decide +kernel
theorem dX6_setIce_60 : decode cX6_setIce 60 = .ok (.istore 7, 2) := by decide +kernel
theorem dX6_setIce_62 : decode cX6_setIce 62 = .ok (.iload 7, 2) := by decide +kernel
theorem dX6_setIce_64 : decode cX6_setIce 64 = .ok (.iload_n 3, 1) := by decide +kernel
theorem dX6_setIce_65 : decode cX6_setIce 65 = .ok (.iload 4, 2) := by decide +kernel
theorem dX6_setIce_67 : decode cX6_setIce 67 = .ok (.imul, 1) := by decide +kernel
theorem dX6_setIce_68 : decode cX6_setIce 68 = .ok (.if_icmp .ge 58, 3) := by decide +kernel
theorem dX6_setIce_71 : decode cX6_setIce 71 = .ok (.iload_n 1, 1) := by decide +kernel
theorem dX6_setIce_72 : decode cX6_setIce 72 = .ok (.iload 7, 2) := by decide +kernel
theorem dX6_setIce_74 : decode cX6_setIce 74 = .ok (.iload_n 3, 1) := by decide +kernel
theorem dX6_setIce_75 : decode cX6_setIce 75 = .ok (.irem, 1) := by decide +kernel
theorem dX6_setIce_76 : decode cX6_setIce 76 = .ok (.iadd, 1) := by decide +kernel
theorem dX6_setIce_77 : decode cX6_setIce 77 = .ok (.bipush 16, 2) := by decide +kernel
theorem dX6_setIce_79 : decode cX6_setIce 79 = .ok (.iload_n 2, 1) := by decide +kernel
theorem dX6_setIce_80 : decode cX6_setIce 80 = .ok (.iload 7, 2) := by decide +kernel
theorem dX6_setIce_82 : decode cX6_setIce 82 = .ok (.iload_n 3, 1) := by decide +kernel
theorem dX6_setIce_83 : decode cX6_setIce 83 = .ok (.idiv, 1) := by decide +kernel
theorem dX6_setIce_84 : decode cX6_setIce 84 = .ok (.iadd, 1) := by decide +kernel
theorem dX6_setIce_85 : decode cX6_setIce 85 = .ok (.imul, 1) := by decide +kernel
theorem dX6_setIce_86 : decode cX6_setIce 86 = .ok (.iadd, 1) := by decide +kernel
theorem dX6_setIce_87 : decode cX6_setIce 87 = .ok (.istore 8, 2) := by decide +kernel
theorem dX6_setIce_89 : decode cX6_setIce 89 = .ok (.iload 6, 2) := by decide +kernel
theorem dX6_setIce_91 : decode cX6_setIce 91 = .ok (.ifCond .eq 26, 3) := by decide +kernel
theorem dX6_setIce_94 : decode cX6_setIce 94 = .ok (.aload_n 0, 1) := by decide +kernel
theorem dX6_setIce_95 : decode cX6_setIce 95 = .ok (.iload 8, 2) := by decide +kernel
theorem dX6_setIce_97 : decode cX6_setIce 97 = .ok (.invokevirtual 70, 3) := by decide +kernel
theorem dX6_setIce_100 : decode cX6_setIce 100 = .ok (.iconst (-1), 1) := by decide +kernel
theorem dX6_setIce_101 : decode cX6_setIce 101 = .ok (.if_icmp .ne 16, 3) := by decide +kernel
theorem dX6_setIce_104 : decode cX6_setIce 104 = .ok (.aload_n 0, 1) := by decide +kernel
theorem dX6_setIce_105 : decode cX6_setIce 105 = .ok (.iload 8, 2) := by decide +kernel
theorem dX6_setIce_107 : decode cX6_setIce 107 = .ok (.invokevirtual 73, 3) := by decide +kernel
theorem dX6_setIce_110 : decode cX6_setIce 110 = .ok (.ifCond .ne 7, 3) := by decide +kernel
theorem dX6_setIce_113 : decode cX6_setIce 113 = .ok (.iconst 1, 1) := by decide +kernel
theorem dX6_setIce_114 : decode cX6_setIce 114 = .ok (.goto 4, 3) := by decide +kernel
theorem dX6_setIce_117 : decode cX6_setIce 117 = .ok (.iconst 0, 1) := by decide +kernel
theorem dX6_setIce_118 : decode cX6_setIce 118 = .ok (.istore 6, 2) := by decide +kernel
theorem dX6_setIce_120 : decode cX6_setIce 120 = .ok (.iinc 7 1, 3) := by decide +kernel
theorem dX6_setIce_123 : decode cX6_setIce 123 = .ok (.goto (-61), 3) := by decide +kernel
theorem dX6_setIce_126 : decode cX6_setIce 126 = .ok (.iload 5, 2) := by decide +kernel
theorem dX6_setIce_128 : decode cX6_setIce 128 = .ok (.iconst (-1), 1) := by decide +kernel
theorem dX6_setIce_129 : decode cX6_setIce 129 = .ok (.if_icmp .eq 14, 3) := by decide +kernel
theorem dX6_setIce_132 : decode cX6_setIce 132 = .ok (.iload 6, 2) := by decide +kernel
theorem dX6_setIce_134 : decode cX6_setIce 134 = .ok (.ifCond .ne 9, 3) := by decide +kernel
theorem dX6_setIce_137 : decode cX6_setIce 137 = .ok (.aload_n 0, 1) := by decide +kernel
theorem dX6_setIce_138 : decode cX6_setIce 138 = .ok (.iconst 2, 1) := by decide +kernel
theorem dX6_setIce_139 : decode cX6_setIce 139 = .ok (.invokevirtual 66, 3) := by decide +kernel
theorem dX6_setIce_142 : decode cX6_setIce 142 = .ok (.ireturn, 1) := by decide +kernel
theorem dX6_setIce_143 : decode cX6_setIce 143 = .ok (.iconst 0, 1) := by decide +kernel
theorem dX6_setIce_144 : decode cX6_setIce 144 = .ok (.istore 7, 2) := by decide +kernel
theorem dX6_setIce_146 : decode cX6_setIce 146 = .ok (.iload 7, 2) := by decide +kernel
theorem dX6_setIce_148 : decode cX6_setIce 148 = .ok (.iload_n 3, 1) := by decide +kernel
theorem dX6_setIce_149 : decode cX6_setIce 149 = .ok (.iload 4, 2) := by decide +kernel
theorem dX6_setIce_151 : decode cX6_setIce 151 = .ok (.imul, 1) := by decide +kernel
theorem dX6_setIce_152 : decode cX6_setIce 152 = .ok (.if_icmp .ge 31, 3) := by decide +kernel
theorem dX6_setIce_155 : decode cX6_setIce 155 = .ok (.aload_n 0, 1) := by decide +kernel
theorem dX6_setIce_156 : decode cX6_setIce 156 = .ok (.iload_n 1, 1) := by decide +kernel
theorem dX6_setIce_157 : decode cX6_setIce 157 = .ok (.iload 7, 2) := by decide +kernel
theorem dX6_setIce_159 : decode cX6_setIce 159 = .ok (.iload_n 3, 1) := by decide +kernel
theorem dX6_setIce_160 : decode cX6_setIce 160 = .ok (.irem, 1) := by decide +kernel
theorem dX6_setIce_161 : decode cX6_setIce 161 = .ok (.iadd, 1) := by decide +kernel
theorem dX6_setIce_162 : decode cX6_setIce 162 = .ok (.bipush 16, 2) := by decide +kernel
theorem dX6_setIce_164 : decode cX6_setIce 164 = .ok (.iload_n 2, 1) := by decide +kernel
theorem dX6_setIce_165 : decode cX6_setIce 165 = .ok (.iload 7, 2) := by decide +kernel
theorem dX6_setIce_167 : decode cX6_setIce 167 = .ok (.iload_n 3, 1) := by decide +kernel
theorem dX6_setIce_168 : decode cX6_setIce 168 = .ok (.idiv, 1) := by decide +kernel
theorem dX6_setIce_169 : decode cX6_setIce 169 = .ok (.iadd, 1) := by decide +kernel
theorem dX6_setIce_170 : decode cX6_setIce 170 = .ok (.imul, 1) := by decide +kernel
theorem dX6_setIce_171 : decode cX6_setIce 171 = .ok (.iadd, 1) := by decide +kernel
theorem dX6_setIce_172 : decode cX6_setIce 172 = .ok (.iload 5, 2) := by decide +kernel
theorem dX6_setIce_174 : decode cX6_setIce 174 = .ok (.invokevirtual 76, 3) := by decide +kernel
theorem dX6_setIce_177 : decode cX6_setIce 177 = .ok (.iinc 7 1, 3) := by decide +kernel
theorem dX6_setIce_180 : decode cX6_setIce 180 = .ok (.goto (-34), 3) := by decide +kernel
theorem dX6_setIce_183 : decode cX6_setIce 183 = .ok (.iload_n 3, 1) := by decide +kernel
theorem dX6_setIce_184 : decode cX6_setIce 184 = .ok (.iload 4, 2) := by decide +kernel
theorem dX6_setIce_186 : decode cX6_setIce 186 = .ok (.imul, 1) := by decide +kernel
theorem dX6_setIce_187 : decode cX6_setIce 187 = .ok (.ireturn, 1) := by decide +kernel
theorem dX6_setSnow_0 : decode cX6_setSnow 0 = .ok (.aload_n 0, 1) := by decide +kernel
theorem dX6_setSnow_1 : decode cX6_setSnow 1 = .ok (.iconst 0, 1) := by decide +kernel
theorem dX6_setSnow_2 : decode cX6_setSnow 2 = .ok (.putfield 44, 3) := by decide +kernel
theorem dX6_setSnow_5 : decode cX6_setSnow 5 = .ok (.iload_n 1, 1) := by decide +kernel
theorem dX6_setSnow_6 : decode cX6_setSnow 6 = .ok (.iload_n 2, 1) := by decide +kernel
theorem dX6_setSnow_7 : decode cX6_setSnow 7 = .ok (.invokestatic 58, 3) := by decide +kernel
theorem dX6_setSnow_10 : decode cX6_setSnow 10 = .ok (.ifCond .ne 9, 3) := by decide +kernel
theorem dX6_setSnow_13 : decode cX6_setSnow 13 = .ok (.aload_n 0, 1) := by decide +kernel
theorem dX6_setSnow_14 : decode cX6_setSnow 14 = .ok (.iconst 1, 1) := by decide +kernel
theorem dX6_setSnow_15 : decode cX6_setSnow 15 = .ok (.invokevirtual 66, 3) := by decide +kernel
theorem dX6_setSnow_18 : decode cX6_setSnow 18 = .ok (.ireturn, 1) := by decide +kernel
theorem dX6_setSnow_19 : decode cX6_setSnow 19 = .ok (.iload_n 3, 1) := by decide +kernel
theorem dX6_setSnow_20 : decode cX6_setSnow 20 = .ok (.iconst 1, 1) := by decide +kernel
theorem dX6_setSnow_21 : decode cX6_setSnow 21 = .ok (.bipush 9, 2) := by decide +kernel
theorem dX6_setSnow_23 : decode cX6_setSnow 23 = .ok (.invokestatic 48, 3) := by decide +kernel
theorem dX6_setSnow_26 : decode cX6_setSnow 26 = .ok (.ifCond .ne 9, 3) := by decide +kernel
theorem dX6_setSnow_29 : decode cX6_setSnow 29 = .ok (.aload_n 0, 1) := by decide +kernel
theorem dX6_setSnow_30 : decode cX6_setSnow 30 = .ok (.iconst 2, 1) := by decide +kernel
theorem dX6_setSnow_31 : decode cX6_setSnow 31 = .ok (.invokevirtual 66, 3) := by decide +kernel
theorem dX6_setSnow_34 : decode cX6_setSnow 34 = .ok (.ireturn, 1) := by decide +kernel
theorem dX6_setSnow_35 : decode cX6_setSnow 35 = .ok (.aload_n 0, 1) := by decide +kernel
theorem dX6_setSnow_36 : decode cX6_setSnow 36 = .ok (.getfield 9, 3) := by decide +kernel
theorem dX6_setSnow_39 : decode cX6_setSnow 39 = .ok (.iload_n 1, 1) := by decide +kernel
theorem dX6_setSnow_40 : decode cX6_setSnow 40 = .ok (.bipush 16, 2) := by decide +kernel
theorem dX6_setSnow_42 : decode cX6_setSnow 42 = .ok (.iload_n 2, 1) := by decide +kernel
theorem dX6_setSnow_43 : decode cX6_setSnow 43 = .ok (.imul, 1) := by decide +kernel
theorem dX6_setSnow_44 : decode cX6_setSnow 44 = .ok (.iadd, 1) := by decide +kernel
theorem dX6_setSnow_45 : decode cX6_setSnow 45 = .ok (.iaload, 1) := by decide +kernel
theorem dX6_setSnow_46 : decode cX6_setSnow 46 = .ok (.istore 4, 2) := by decide +kernel
theorem dX6_setSnow_48 : decode cX6_setSnow 48 = .ok (.aload_n 0, 1) := by decide +kernel
theorem dX6_setSnow_49 : decode cX6_setSnow 49 = .ok (.getfield 9, 3) := by decide +kernel
theorem dX6_setSnow_52 : decode cX6_setSnow 52 = .ok (.iload_n 1, 1) := by decide +kernel
theorem dX6_setSnow_53 : decode cX6_setSnow 53 = .ok (.bipush 16, 2) := by decide +kernel
theorem dX6_setSnow_55 : decode cX6_setSnow 55 = .ok (.iload_n 2, 1) := by decide +kernel
theorem dX6_setSnow_56 : decode cX6_setSnow 56 = .ok (.imul, 1) := by decide +kernel
theorem dX6_setSnow_57 : decode cX6_setSnow 57 = .ok (.iadd, 1) := by decide +kernel
theorem dX6_setSnow_58 : decode cX6_setSnow 58 = .ok (.iload_n 3, 1) := by decide +kernel
theorem dX6_setSnow_59 : decode cX6_setSnow 59 = .ok (.iastore, 1) := by decide +kernel
theorem dX6_setSnow_60 : decode cX6_setSnow 60 = .ok (.iload 4, 2) := by decide +kernel
theorem dX6_setSnow_62 : decode cX6_setSnow 62 = .ok (.ireturn, 1) := by decide +kernel
theorem dX6_setCold_0 : decode cX6_setCold 0 = .ok (.aload_n 0, 1) := by decide +kernel
theorem dX6_setCold_1 : decode cX6_setCold 1 = .ok (.iconst 0, 1) := by decide +kernel
theorem dX6_setCold_2 : decode cX6_setCold 2 = .ok (.putfield 44, 3) := by decide +kernel
theorem dX6_setCold_5 : decode cX6_setCold 5 = .ok (.iload_n 1, 1) := by decide +kernel
theorem dX6_setCold_6 : decode cX6_setCold 6 = .ok (.iconst 0, 1) := by decide +kernel
theorem dX6_setCold_7 : decode cX6_setCold 7 = .ok (.bipush 7, 2) := by decide +kernel
theorem dX6_setCold_9 : decode cX6_setCold 9 = .ok (.invokestatic 48, 3) := by decide +kernel
theorem dX6_setCold_12 : decode cX6_setCold 12 = .ok (.ifCond .ne 9, 3) := by decide +kernel
theorem dX6_setCold_15 : decode cX6_setCold 15 = .ok (.aload_n 0, 1) := by decide +kernel
theorem dX6_setCold_16 : decode cX6_setCold 16 = .ok (.iconst 1, 1) := by decide +kernel
theorem dX6_setCold_17 : decode cX6_setCold 17 = .ok (.invokevirtual 66, 3) := by decide +kernel
theorem dX6_setCold_20 : decode cX6_setCold 20 = .ok (.ireturn, 1) := by decide +kernel
theorem dX6_setCold_21 : decode cX6_setCold 21 = .ok (.iload_n 2, 1) := by decide +kernel
theorem dX6_setCold_22 : decode cX6_setCold 22 = .ok (.bipush (-9), 2) := by decide +kernel
theorem dX6_setCold_24 : decode cX6_setCold 24 = .ok (.bipush 9, 2) := by decide +kernel
theorem dX6_setCold_26 : decode cX6_setCold 26 = .ok (.invokestatic 48, 3) := by decide +kernel
theorem dX6_setCold_29 : decode cX6_setCold 29 = .ok (.ifCond .ne 9, 3) := by decide +kernel
theorem dX6_setCold_32 : decode cX6_setCold 32 = .ok (.aload_n 0, 1) := by decide +kernel
theorem dX6_setCold_33 : decode cX6_setCold 33 = .ok (.iconst 2, 1) := by decide +kernel
theorem dX6_setCold_34 : decode cX6_setCold 34 = .ok (.invokevirtual 66, 3) := by decide +kernel
theorem dX6_setCold_37 : decode cX6_setCold 37 = .ok (.ireturn, 1) := by decide +kernel
theorem dX6_setCold_38 : decode cX6_setCold 38 = .ok (.aload_n 0, 1) := by decide +kernel
theorem dX6_setCold_39 : decode cX6_setCold 39 = .ok (.getfield 13, 3) := by decide +kernel
theorem dX6_setCold_42 : decode cX6_setCold 42 = .ok (.iload_n 1, 1) := by decide +kernel
theorem dX6_setCold_43 : decode cX6_setCold 43 = .ok (.iaload, 1) := by decide +kernel
theorem dX6_setCold_44 : decode cX6_setCold 44 = .ok (.istore_n 3, 1) := by decide +kernel
theorem dX6_setCold_45 : decode cX6_setCold 45 = .ok (.aload_n 0, 1) := by decide +kernel
theorem dX6_setCold_46 : decode cX6_setCold 46 = .ok (.getfield 13, 3) := by decide +kernel
theorem dX6_setCold_49 : decode cX6_setCold 49 = .ok (.iload_n 1, 1) := by decide +kernel
theorem dX6_setCold_50 : decode cX6_setCold 50 = .ok (.iload_n 2, 1) := by decide +kernel
theorem dX6_setCold_51 : decode cX6_setCold 51 = .ok (.iastore, 1) := by decide +kernel
theorem dX6_setCold_52 : decode cX6_setCold 52 = .ok (.iload_n 3, 1) := by decide +kernel
theorem dX6_setCold_53 : decode cX6_setCold 53 = .ok (.ireturn, 1) := by decide +kernel
theorem dX6_cell_0 : decode cX6_cell 0 = .ok (.aload_n 0, 1) := by decide +kernel
theorem dX6_cell_1 : decode cX6_cell 1 = .ok (.iconst 0, 1) := by decide +kernel
theorem dX6_cell_2 : decode cX6_cell 2 = .ok (.putfield 44, 3) := by decide +kernel
theorem dX6_cell_5 : decode cX6_cell 5 = .ok (.iload_n 1, 1) := by decide +kernel
theorem dX6_cell_6 : decode cX6_cell 6 = .ok (.iload_n 2, 1) := by decide +kernel
theorem dX6_cell_7 : decode cX6_cell 7 = .ok (.invokestatic 58, 3) := by decide +kernel
theorem dX6_cell_10 : decode cX6_cell 10 = .ok (.ifCond .eq 12, 3) := by decide +kernel
theorem dX6_cell_13 : decode cX6_cell 13 = .ok (.iload_n 3, 1) := by decide +kernel
theorem dX6_cell_14 : decode cX6_cell 14 = .ok (.iconst 0, 1) := by decide +kernel
theorem dX6_cell_15 : decode cX6_cell 15 = .ok (.iconst 5, 1) := by decide +kernel
theorem dX6_cell_16 : decode cX6_cell 16 = .ok (.invokestatic 48, 3) := by decide +kernel
theorem dX6_cell_19 : decode cX6_cell 19 = .ok (.ifCond .ne 9, 3) := by decide +kernel
theorem dX6_cell_22 : decode cX6_cell 22 = .ok (.aload_n 0, 1) := by decide +kernel
theorem dX6_cell_23 : decode cX6_cell 23 = .ok (.iconst 1, 1) := by decide +kernel
theorem dX6_cell_24 : decode cX6_cell 24 = .ok (.invokevirtual 66, 3) := by decide +kernel
theorem dX6_cell_27 : decode cX6_cell 27 = .ok (.ireturn, 1) := by decide +kernel
theorem dX6_cell_28 : decode cX6_cell 28 = .ok (.iload_n 1, 1) := by decide +kernel
theorem dX6_cell_29 : decode cX6_cell 29 = .ok (.bipush 16, 2) := by decide +kernel
theorem dX6_cell_31 : decode cX6_cell 31 = .ok (.iload_n 2, 1) := by decide +kernel
theorem dX6_cell_32 : decode cX6_cell 32 = .ok (.imul, 1) := by decide +kernel
theorem dX6_cell_33 : decode cX6_cell 33 = .ok (.iadd, 1) := by decide +kernel
theorem dX6_cell_34 : decode cX6_cell 34 = .ok (.istore 4, 2) := by decide +kernel
theorem dX6_cell_36 : decode cX6_cell 36 = .ok (.bipush 6, 2) := by decide +kernel
theorem dX6_cell_38 : decode cX6_cell 38 = .ok (.newarray .int, 2) := by decide +kernel
theorem dX6_cell_40 : decode cX6_cell 40 = .ok (.dup, 1) := by decide +kernel
theorem dX6_cell_41 : decode cX6_cell 41 = .ok (.iconst 0, 1) := by decide +kernel
theorem dX6_cell_42 : decode cX6_cell 42 = .ok (.aload_n 0, 1) := by decide +kernel
theorem dX6_cell_43 : decode cX6_cell 43 = .ok (.getfield 19, 3) := by decide +kernel
theorem dX6_cell_46 : decode cX6_cell 46 = .ok (.iload 4, 2) := by decide +kernel
theorem dX6_cell_48 : decode cX6_cell 48 = .ok (.iaload, 1) := by decide +kernel
theorem dX6_cell_49 : decode cX6_cell 49 = .ok (.iastore, 1) := by decide +kernel
theorem dX6_cell_50 : decode cX6_cell 50 = .ok (.dup, 1) := by decide +kernel
theorem dX6_cell_51 : decode cX6_cell 51 = .ok (.iconst 1, 1) := by decide +kernel
theorem dX6_cell_52 : decode cX6_cell 52 = .ok (.aload_n 0, 1) := by decide +kernel
theorem dX6_cell_53 : decode cX6_cell 53 = .ok (.getfield 9, 3) := by decide +kernel
theorem dX6_cell_56 : decode cX6_cell 56 = .ok (.iload 4, 2) := by decide +kernel
theorem dX6_cell_58 : decode cX6_cell 58 = .ok (.iaload, 1) := by decide +kernel
theorem dX6_cell_59 : decode cX6_cell 59 = .ok (.iastore, 1) := by decide +kernel
theorem dX6_cell_60 : decode cX6_cell 60 = .ok (.dup, 1) := by decide +kernel
theorem dX6_cell_61 : decode cX6_cell 61 = .ok (.iconst 2, 1) := by decide +kernel
theorem dX6_cell_62 : decode cX6_cell 62 = .ok (.aload_n 0, 1) := by decide +kernel
theorem dX6_cell_63 : decode cX6_cell 63 = .ok (.getfield 22, 3) := by decide +kernel
theorem dX6_cell_66 : decode cX6_cell 66 = .ok (.iload 4, 2) := by decide +kernel
theorem dX6_cell_68 : decode cX6_cell 68 = .ok (.iaload, 1) := by decide +kernel
theorem dX6_cell_69 : decode cX6_cell 69 = .ok (.iastore, 1) := by decide +kernel
theorem dX6_cell_70 : decode cX6_cell 70 = .ok (.dup, 1) := by decide +kernel
theorem dX6_cell_71 : decode cX6_cell 71 = .ok (.iconst 3, 1) := by decide +kernel
theorem dX6_cell_72 : decode cX6_cell 72 = .ok (.aload_n 0, 1) := by decide +kernel
theorem dX6_cell_73 : decode cX6_cell 73 = .ok (.getfield 25, 3) := by decide +kernel
theorem dX6_cell_76 : decode cX6_cell 76 = .ok (.iload 4, 2) := by decide +kernel
theorem dX6_cell_78 : decode cX6_cell 78 = .ok (.iaload, 1) := by decide +kernel
theorem dX6_cell_79 : decode cX6_cell 79 = .ok (.iastore, 1) := by decide +kernel
theorem dX6_cell_80 : decode cX6_cell 80 = .ok (.dup, 1) := by decide +kernel
theorem dX6_cell_81 : decode cX6_cell 81 = .ok (.iconst 4, 1) := by decide +kernel
theorem dX6_cell_82 : decode cX6_cell 82 = .ok (.aload_n 0, 1) := by decide +kernel
theorem dX6_cell_83 : decode cX6_cell 83 = .ok (.iload 4, 2) := by decide +kernel
theorem dX6_cell_85 : decode cX6_cell 85 = .ok (.invokevirtual 70, 3) := by decide +kernel
theorem dX6_cell_88 : decode cX6_cell 88 = .ok (.iastore, 1) := by decide +kernel
theorem dX6_cell_89 : decode cX6_cell 89 = .ok (.dup, 1) := by decide +kernel
theorem dX6_cell_90 : decode cX6_cell 90 = .ok (.iconst 5, 1) := by decide +kernel
theorem dX6_cell_91 : decode cX6_cell 91 = .ok (.aload_n 0, 1) := by decide +kernel
theorem dX6_cell_92 : decode cX6_cell 92 = .ok (.iload 4, 2) := by decide +kernel
theorem dX6_cell_94 : decode cX6_cell 94 = .ok (.invokevirtual 73, 3) := by decide +kernel
theorem dX6_cell_97 : decode cX6_cell 97 = .ok (.iastore, 1) := by decide +kernel
theorem dX6_cell_98 : decode cX6_cell 98 = .ok (.astore 5, 2) := by decide +kernel
theorem dX6_cell_100 : decode cX6_cell 100 = .ok (.aload 5, 2) := by decide +kernel
theorem dX6_cell_102 : decode cX6_cell 102 = .ok (.iload_n 3, 1) := by decide +kernel
theorem dX6_cell_103 : decode cX6_cell 103 = .ok (.iaload, 1) := by decide +kernel
theorem dX6_cell_104 : decode cX6_cell 104 = .ok (.ireturn, 1) := by decide +kernel
theorem dX6_addPost_0 : decode cX6_addPost 0 = .ok (.aload_n 0, 1) := by decide +kernel
theorem dX6_addPost_1 : decode cX6_addPost 1 = .ok (.iconst 0, 1) := by decide +kernel
theorem dX6_addPost_2 : decode cX6_addPost 2 = .ok (.putfield 44, 3) := by decide +kernel
theorem dX6_addPost_5 : decode cX6_addPost 5 = .ok (.iload_n 1, 1) := by decide +kernel
theorem dX6_addPost_6 : decode cX6_addPost 6 = .ok (.iload_n 2, 1) := by decide +kernel
theorem dX6_addPost_7 : decode cX6_addPost 7 = .ok (.invokestatic 58, 3) := by decide +kernel
theorem dX6_addPost_10 : decode cX6_addPost 10 = .ok (.ifCond .ne 9, 3) := by decide +kernel
theorem dX6_addPost_13 : decode cX6_addPost 13 = .ok (.aload_n 0, 1) := by decide +kernel
theorem dX6_addPost_14 : decode cX6_addPost 14 = .ok (.iconst 1, 1) := by decide +kernel
theorem dX6_addPost_15 : decode cX6_addPost 15 = .ok (.invokevirtual 66, 3) := by decide +kernel
theorem dX6_addPost_18 : decode cX6_addPost 18 = .ok (.ireturn, 1) := by decide +kernel
theorem dX6_addPost_19 : decode cX6_addPost 19 = .ok (.aload_n 0, 1) := by decide +kernel
theorem dX6_addPost_20 : decode cX6_addPost 20 = .ok (.getfield 52, 3) := by decide +kernel
theorem dX6_addPost_23 : decode cX6_addPost 23 = .ok (.bipush 8, 2) := by decide +kernel
theorem dX6_addPost_25 : decode cX6_addPost 25 = .ok (.if_icmp .eq 17, 3) := by decide +kernel
theorem dX6_addPost_28 : decode cX6_addPost 28 = .ok (.aload_n 0, 1) := by decide +kernel
theorem dX6_addPost_29 : decode cX6_addPost 29 = .ok (.iload_n 1, 1) := by decide +kernel
theorem dX6_addPost_30 : decode cX6_addPost 30 = .ok (.bipush 16, 2) := by decide +kernel
theorem dX6_addPost_32 : decode cX6_addPost 32 = .ok (.iload_n 2, 1) := by decide +kernel
theorem dX6_addPost_33 : decode cX6_addPost 33 = .ok (.imul, 1) := by decide +kernel
theorem dX6_addPost_34 : decode cX6_addPost 34 = .ok (.iadd, 1) := by decide +kernel
theorem dX6_addPost_35 : decode cX6_addPost 35 = .ok (.invokevirtual 70, 3) := by decide +kernel
theorem dX6_addPost_38 : decode cX6_addPost 38 = .ok (.iconst (-1), 1) := by decide +kernel
theorem dX6_addPost_39 : decode cX6_addPost 39 = .ok (.if_icmp .eq 9, 3) := by decide +kernel
theorem dX6_addPost_42 : decode cX6_addPost 42 = .ok (.aload_n 0, 1) := by decide +kernel
theorem dX6_addPost_43 : decode cX6_addPost 43 = .ok (.iconst 2, 1) := by decide +kernel
theorem dX6_addPost_44 : decode cX6_addPost 44 = .ok (.invokevirtual 66, 3) := by decide +kernel
theorem dX6_addPost_47 : decode cX6_addPost 47 = .ok (.ireturn, 1) := by decide +kernel
theorem dX6_addPost_48 : decode cX6_addPost 48 = .ok (.aload_n 0, 1) := by decide +kernel
theorem dX6_addPost_49 : decode cX6_addPost 49 = .ok (.getfield 16, 3) := by decide +kernel
theorem dX6_addPost_52 : decode cX6_addPost 52 = .ok (.aload_n 0, 1) := by decide +kernel
theorem dX6_addPost_53 : decode cX6_addPost 53 = .ok (.getfield 52, 3) := by decide +kernel
theorem dX6_addPost_56 : decode cX6_addPost 56 = .ok (.iload_n 1, 1) := by decide +kernel
theorem dX6_addPost_57 : decode cX6_addPost 57 = .ok (.bipush 16, 2) := by decide +kernel
theorem dX6_addPost_59 : decode cX6_addPost 59 = .ok (.iload_n 2, 1) := by decide +kernel
theorem dX6_addPost_60 : decode cX6_addPost 60 = .ok (.imul, 1) := by decide +kernel
theorem dX6_addPost_61 : decode cX6_addPost 61 = .ok (.iadd, 1) := by decide +kernel
theorem dX6_addPost_62 : decode cX6_addPost 62 = .ok (.iastore, 1) := by decide +kernel
theorem dX6_addPost_63 : decode cX6_addPost 63 = .ok (.aload_n 0, 1) := by decide +kernel
theorem dX6_addPost_64 : decode cX6_addPost 64 = .ok (.aload_n 0, 1) := by decide +kernel
theorem dX6_addPost_65 : decode cX6_addPost 65 = .ok (.getfield 16, 3) := by decide +kernel
theorem dX6_addPost_68 : decode cX6_addPost 68 = .ok (.aload_n 0, 1) := by decide +kernel
theorem dX6_addPost_69 : decode cX6_addPost 69 = .ok (.getfield 52, 3) := by decide +kernel
theorem dX6_addPost_72 : decode cX6_addPost 72 = .ok (.iaload, 1) := by decide +kernel
theorem dX6_addPost_73 : decode cX6_addPost 73 = .ok (.iconst (-1), 1) := by decide +kernel
theorem dX6_addPost_74 : decode cX6_addPost 74 = .ok (.invokevirtual 76, 3) := by decide +kernel
theorem dX6_addPost_77 : decode cX6_addPost 77 = .ok (.aload_n 0, 1) := by decide +kernel
theorem dX6_addPost_78 : decode cX6_addPost 78 = .ok (.dup, 1) := by decide +kernel
theorem dX6_addPost_79 : decode cX6_addPost 79 = .ok (.getfield 52, 3) := by decide +kernel
theorem dX6_addPost_82 : decode cX6_addPost 82 = .ok (.iconst 1, 1) := by decide +kernel
theorem dX6_addPost_83 : decode cX6_addPost 83 = .ok (.iadd, 1) := by decide +kernel
theorem dX6_addPost_84 : decode cX6_addPost 84 = .ok (.putfield 52, 3) := by decide +kernel
theorem dX6_addPost_87 : decode cX6_addPost 87 = .ok (.aload_n 0, 1) := by decide +kernel
theorem dX6_addPost_88 : decode cX6_addPost 88 = .ok (.getfield 52, 3) := by decide +kernel
theorem dX6_addPost_91 : decode cX6_addPost 91 = .ok (.iconst 1, 1) := by decide +kernel
theorem dX6_addPost_92 : decode cX6_addPost 92 = .ok (.isub, 1) := by decide +kernel
theorem dX6_addPost_93 : decode cX6_addPost 93 = .ok (.ireturn, 1) := by decide +kernel
theorem dX6_addSleigh_0 : decode cX6_addSleigh 0 = .ok (.aload_n 0, 1) := by decide +kernel
theorem dX6_addSleigh_1 : decode cX6_addSleigh 1 = .ok (.iconst 0, 1) := by decide +kernel
theorem dX6_addSleigh_2 : decode cX6_addSleigh 2 = .ok (.putfield 44, 3) := by decide +kernel
theorem dX6_addSleigh_5 : decode cX6_addSleigh 5 = .ok (.aload_n 0, 1) := by decide +kernel
theorem dX6_addSleigh_6 : decode cX6_addSleigh 6 = .ok (.iload_n 1, 1) := by decide +kernel
theorem dX6_addSleigh_7 : decode cX6_addSleigh 7 = .ok (.invokevirtual 80, 3) := by decide +kernel
theorem dX6_addSleigh_10 : decode cX6_addSleigh 10 = .ok (.ifCond .ne 9, 3) := by decide +kernel
theorem dX6_addSleigh_13 : decode cX6_addSleigh 13 = .ok (.aload_n 0, 1) := by decide +kernel
theorem dX6_addSleigh_14 : decode cX6_addSleigh 14 = .ok (.iconst 1, 1) := by decide +kernel
theorem dX6_addSleigh_15 : decode cX6_addSleigh 15 = .ok (.invokevirtual 66, 3) := by decide +kernel
theorem dX6_addSleigh_18 : decode cX6_addSleigh 18 = .ok (.ireturn, 1) := by decide +kernel
theorem dX6_addSleigh_19 : decode cX6_addSleigh 19 = .ok (.iload_n 2, 1) := by decide +kernel
theorem dX6_addSleigh_20 : decode cX6_addSleigh 20 = .ok (.iconst 1, 1) := by decide +kernel
theorem dX6_addSleigh_21 : decode cX6_addSleigh 21 = .ok (.bipush 6, 2) := by decide +kernel
theorem dX6_addSleigh_23 : decode cX6_addSleigh 23 = .ok (.invokestatic 48, 3) := by decide +kernel
theorem dX6_addSleigh_26 : decode cX6_addSleigh 26 = .ok (.ifCond .ne 9, 3) := by decide +kernel
theorem dX6_addSleigh_29 : decode cX6_addSleigh 29 = .ok (.aload_n 0, 1) := by decide +kernel
theorem dX6_addSleigh_30 : decode cX6_addSleigh 30 = .ok (.iconst 2, 1) := by decide +kernel
theorem dX6_addSleigh_31 : decode cX6_addSleigh 31 = .ok (.invokevirtual 66, 3) := by decide +kernel
theorem dX6_addSleigh_34 : decode cX6_addSleigh 34 = .ok (.ireturn, 1) := by decide +kernel
theorem dX6_addSleigh_35 : decode cX6_addSleigh 35 = .ok (.aload_n 0, 1) := by decide +kernel
theorem dX6_addSleigh_36 : decode cX6_addSleigh 36 = .ok (.getfield 55, 3) := by decide +kernel
theorem dX6_addSleigh_39 : decode cX6_addSleigh 39 = .ok (.iconst 5, 1) := by decide +kernel
theorem dX6_addSleigh_40 : decode cX6_addSleigh 40 = .ok (.if_icmp .ne 9, 3) := by decide +kernel
theorem dX6_addSleigh_43 : decode cX6_addSleigh 43 = .ok (.aload_n 0, 1) := by decide +kernel
theorem dX6_addSleigh_44 : decode cX6_addSleigh 44 = .ok (.iconst 3, 1) := by decide +kernel
theorem dX6_addSleigh_45 : decode cX6_addSleigh 45 = .ok (.invokevirtual 66, 3) := by decide +kernel
theorem dX6_addSleigh_48 : decode cX6_addSleigh 48 = .ok (.ireturn, 1) := by decide +kernel
theorem dX6_addSleigh_49 : decode cX6_addSleigh 49 = .ok (.bipush 7, 2) := by decide +kernel
theorem dX6_addSleigh_51 : decode cX6_addSleigh 51 = .ok (.newarray .int, 2) := by decide +kernel
theorem dX6_addSleigh_53 : decode cX6_addSleigh 53 = .ok (.dup, 1) := by decide +kernel
theorem dX6_addSleigh_54 : decode cX6_addSleigh 54 = .ok (.iconst 0, 1) := by decide +kernel
theorem dX6_addSleigh_55 : decode cX6_addSleigh 55 = .ok (.iload_n 2, 1) := by decide +kernel
theorem dX6_addSleigh_56 : decode cX6_addSleigh 56 = .ok (.iastore, 1) := by decide +kernel
theorem dX6_addSleigh_57 : decode cX6_addSleigh 57 = .ok (.dup, 1) := by decide +kernel
theorem dX6_addSleigh_58 : decode cX6_addSleigh 58 = .ok (.iconst 1, 1) := by decide +kernel
theorem dX6_addSleigh_59 : decode cX6_addSleigh 59 = .ok (.iconst 0, 1) := by decide +kernel
theorem dX6_addSleigh_60 : decode cX6_addSleigh 60 = .ok (.iastore, 1) := by decide +kernel
theorem dX6_addSleigh_61 : decode cX6_addSleigh 61 = .ok (.dup, 1) := by decide +kernel
theorem dX6_addSleigh_62 : decode cX6_addSleigh 62 = .ok (.iconst 2, 1) := by decide +kernel
theorem dX6_addSleigh_63 : decode cX6_addSleigh 63 = .ok (.iconst 0, 1) := by decide +kernel
theorem dX6_addSleigh_64 : decode cX6_addSleigh 64 = .ok (.iastore, 1) := by decide +kernel
theorem dX6_addSleigh_65 : decode cX6_addSleigh 65 = .ok (.dup, 1) := by decide +kernel
theorem dX6_addSleigh_66 : decode cX6_addSleigh 66 = .ok (.iconst 3, 1) := by decide +kernel
theorem dX6_addSleigh_67 : decode cX6_addSleigh 67 = .ok (.aload_n 0, 1) := by decide +kernel
theorem dX6_addSleigh_68 : decode cX6_addSleigh 68 = .ok (.getfield 16, 3) := by decide +kernel
theorem dX6_addSleigh_71 : decode cX6_addSleigh 71 = .ok (.iload_n 1, 1) := by decide +kernel
theorem dX6_addSleigh_72 : decode cX6_addSleigh 72 = .ok (.iaload, 1) := by decide +kernel
theorem dX6_addSleigh_73 : decode cX6_addSleigh 73 = .ok (.iastore, 1) := by decide +kernel
theorem dX6_addSleigh_74 : decode cX6_addSleigh 74 = .ok (.dup, 1) := by decide +kernel
theorem dX6_addSleigh_75 : decode cX6_addSleigh 75 = .ok (.iconst 4, 1) := by decide +kernel
theorem dX6_addSleigh_76 : decode cX6_addSleigh 76 = .ok (.iload_n 1, 1) := by decide +kernel
theorem dX6_addSleigh_77 : decode cX6_addSleigh 77 = .ok (.iastore, 1) := by decide +kernel
theorem dX6_addSleigh_78 : decode cX6_addSleigh 78 = .ok (.dup, 1) := by decide +kernel
theorem dX6_addSleigh_79 : decode cX6_addSleigh 79 = .ok (.iconst 5, 1) := by decide +kernel
theorem dX6_addSleigh_80 : decode cX6_addSleigh 80 = .ok (.iconst (-1), 1) := by decide +kernel
theorem dX6_addSleigh_81 : decode cX6_addSleigh 81 = .ok (.iastore, 1) := by decide +kernel
theorem dX6_addSleigh_82 : decode cX6_addSleigh 82 = .ok (.dup, 1) := by decide +kernel
theorem dX6_addSleigh_83 : decode cX6_addSleigh 83 = .ok (.bipush 6, 2) := by decide +kernel
theorem dX6_addSleigh_85 : decode cX6_addSleigh 85 = .ok (.iconst 0, 1) := by decide +kernel
theorem dX6_addSleigh_86 : decode cX6_addSleigh 86 = .ok (.iastore, 1) := by decide +kernel
theorem dX6_addSleigh_87 : decode cX6_addSleigh 87 = .ok (.astore_n 3, 1) := by decide +kernel
theorem dX6_addSleigh_88 : decode cX6_addSleigh 88 = .ok (.aload_n 3, 1) := by decide +kernel
theorem dX6_addSleigh_89 : decode cX6_addSleigh 89 = .ok (.iconst 0, 1) := by decide +kernel
theorem dX6_addSleigh_90 : decode cX6_addSleigh 90 = .ok (.aload_n 0, 1) := by decide +kernel
theorem dX6_addSleigh_91 : decode cX6_addSleigh 91 = .ok (.getfield 28, 3) := by decide +kernel
theorem dX6_addSleigh_94 : decode cX6_addSleigh 94 = .ok (.bipush 7, 2) := by decide +kernel
theorem dX6_addSleigh_96 : decode cX6_addSleigh 96 = .ok (.aload_n 0, 1) := by decide +kernel
theorem dX6_addSleigh_97 : decode cX6_addSleigh 97 = .ok (.getfield 55, 3) := by decide +kernel
theorem dX6_addSleigh_100 : decode cX6_addSleigh 100 = .ok (.imul, 1) := by decide +kernel
theorem dX6_addSleigh_101 : decode cX6_addSleigh 101 = .ok (.bipush 7, 2) := by decide +kernel
theorem dX6_addSleigh_103 : decode cX6_addSleigh 103 = .ok (.invokestatic 84, 3) := by decide +kernel
theorem dX6_addSleigh_106 : decode cX6_addSleigh 106 = .ok (.aload_n 0, 1) := by decide +kernel
theorem dX6_addSleigh_107 : decode cX6_addSleigh 107 = .ok (.dup, 1) := by decide +kernel
theorem dX6_addSleigh_108 : decode cX6_addSleigh 108 = .ok (.getfield 55, 3) := by decide +kernel
theorem dX6_addSleigh_111 : decode cX6_addSleigh 111 = .ok (.iconst 1, 1) := by decide +kernel
theorem dX6_addSleigh_112 : decode cX6_addSleigh 112 = .ok (.iadd, 1) := by decide +kernel
theorem dX6_addSleigh_113 : decode cX6_addSleigh 113 = .ok (.putfield 55, 3) := by decide +kernel
theorem dX6_addSleigh_116 : decode cX6_addSleigh 116 = .ok (.aload_n 0, 1) := by decide +kernel
theorem dX6_addSleigh_117 : decode cX6_addSleigh 117 = .ok (.getfield 55, 3) := by decide +kernel
theorem dX6_addSleigh_120 : decode cX6_addSleigh 120 = .ok (.iconst 1, 1) := by decide +kernel
theorem dX6_addSleigh_121 : decode cX6_addSleigh 121 = .ok (.isub, 1) := by decide +kernel
theorem dX6_addSleigh_122 : decode cX6_addSleigh 122 = .ok (.ireturn, 1) := by decide +kernel
theorem dX6_addBag_0 : decode cX6_addBag 0 = .ok (.aload_n 0, 1) := by decide +kernel
theorem dX6_addBag_1 : decode cX6_addBag 1 = .ok (.iconst 0, 1) := by decide +kernel
theorem dX6_addBag_2 : decode cX6_addBag 2 = .ok (.putfield 44, 3) := by decide +kernel
theorem dX6_addBag_5 : decode cX6_addBag 5 = .ok (.aload_n 0, 1) := by decide +kernel
theorem dX6_addBag_6 : decode cX6_addBag 6 = .ok (.iload_n 1, 1) := by decide +kernel
theorem dX6_addBag_7 : decode cX6_addBag 7 = .ok (.invokevirtual 80, 3) := by decide +kernel
theorem dX6_addBag_10 : decode cX6_addBag 10 = .ok (.ifCond .eq 11, 3) := by decide +kernel
theorem dX6_addBag_13 : decode cX6_addBag 13 = .ok (.aload_n 0, 1) := by decide +kernel
theorem dX6_addBag_14 : decode cX6_addBag 14 = .ok (.iload_n 2, 1) := by decide +kernel
theorem dX6_addBag_15 : decode cX6_addBag 15 = .ok (.invokevirtual 80, 3) := by decide +kernel
theorem dX6_addBag_18 : decode cX6_addBag 18 = .ok (.ifCond .ne 9, 3) := by decide +kernel
theorem dX6_addBag_21 : decode cX6_addBag 21 = .ok (.aload_n 0, 1) := by decide +kernel
theorem dX6_addBag_22 : decode cX6_addBag 22 = .ok (.iconst 1, 1) := by decide +kernel
theorem dX6_addBag_23 : decode cX6_addBag 23 = .ok (.invokevirtual 66, 3) := by decide +kernel
theorem dX6_addBag_26 : decode cX6_addBag 26 = .ok (.ireturn, 1) := by decide +kernel
theorem dX6_addBag_27 : decode cX6_addBag 27 = .ok (.iload_n 1, 1) := by decide +kernel
theorem dX6_addBag_28 : decode cX6_addBag 28 = .ok (.iload_n 2, 1) := by decide +kernel
theorem dX6_addBag_29 : decode cX6_addBag 29 = .ok (.if_icmp .eq 13, 3) := by decide +kernel
theorem dX6_addBag_32 : decode cX6_addBag 32 = .ok (.iload_n 3, 1) := by decide +kernel
theorem dX6_addBag_33 : decode cX6_addBag 33 = .ok (.iconst 1, 1) := by decide +kernel
theorem dX6_addBag_34 : decode cX6_addBag 34 = .ok (.bipush 30, 2) := by decide +kernel
theorem dX6_addBag_36 : decode cX6_addBag 36 = .ok (.invokestatic 48, 3) := by decide +kernel
theorem dX6_addBag_39 : decode cX6_addBag 39 = .ok (.ifCond .ne 9, 3) := by decide +kernel
theorem dX6_addBag_42 : decode cX6_addBag 42 = .ok (.aload_n 0, 1) := by decide +kernel
theorem dX6_addBag_43 : decode cX6_addBag 43 = .ok (.iconst 2, 1) := by decide +kernel
theorem dX6_addBag_44 : decode cX6_addBag 44 = .ok (.invokevirtual 66, 3) := by decide +kernel
theorem dX6_addBag_47 : decode cX6_addBag 47 = .ok (.ireturn, 1) := by decide +kernel
theorem dX6_addBag_48 : decode cX6_addBag 48 = .ok (.aload_n 0, 1) := by decide +kernel
theorem dX6_addBag_49 : decode cX6_addBag 49 = .ok (.getfield 90, 3) := by decide +kernel
theorem dX6_addBag_52 : decode cX6_addBag 52 = .ok (.bipush 40, 2) := by decide +kernel
theorem dX6_addBag_54 : decode cX6_addBag 54 = .ok (.if_icmp .ne 9, 3) := by decide +kernel
theorem dX6_addBag_57 : decode cX6_addBag 57 = .ok (.aload_n 0, 1) := by decide +kernel
theorem dX6_addBag_58 : decode cX6_addBag 58 = .ok (.iconst 3, 1) := by decide +kernel
theorem dX6_addBag_59 : decode cX6_addBag 59 = .ok (.invokevirtual 66, 3) := by decide +kernel
theorem dX6_addBag_62 : decode cX6_addBag 62 = .ok (.ireturn, 1) := by decide +kernel
theorem dX6_addBag_63 : decode cX6_addBag 63 = .ok (.iconst 5, 1) := by decide +kernel
theorem dX6_addBag_64 : decode cX6_addBag 64 = .ok (.newarray .int, 2) := by decide +kernel
theorem dX6_addBag_66 : decode cX6_addBag 66 = .ok (.dup, 1) := by decide +kernel
theorem dX6_addBag_67 : decode cX6_addBag 67 = .ok (.iconst 0, 1) := by decide +kernel
theorem dX6_addBag_68 : decode cX6_addBag 68 = .ok (.iload_n 3, 1) := by decide +kernel
theorem dX6_addBag_69 : decode cX6_addBag 69 = .ok (.iastore, 1) := by decide +kernel
theorem dX6_addBag_70 : decode cX6_addBag 70 = .ok (.dup, 1) := by decide +kernel
theorem dX6_addBag_71 : decode cX6_addBag 71 = .ok (.iconst 1, 1) := by decide +kernel
theorem dX6_addBag_72 : decode cX6_addBag 72 = .ok (.iload_n 2, 1) := by decide +kernel
theorem dX6_addBag_73 : decode cX6_addBag 73 = .ok (.iastore, 1) := by decide +kernel
theorem dX6_addBag_74 : decode cX6_addBag 74 = .ok (.dup, 1) := by decide +kernel
theorem dX6_addBag_75 : decode cX6_addBag 75 = .ok (.iconst 2, 1) := by decide +kernel
theorem dX6_addBag_76 : decode cX6_addBag 76 = .ok (.iconst 0, 1) := by decide +kernel
theorem dX6_addBag_77 : decode cX6_addBag 77 = .ok (.iastore, 1) := by decide +kernel
theorem dX6_addBag_78 : decode cX6_addBag 78 = .ok (.dup, 1) := by decide +kernel
theorem dX6_addBag_79 : decode cX6_addBag 79 = .ok (.iconst 3, 1) := by decide +kernel
theorem dX6_addBag_80 : decode cX6_addBag 80 = .ok (.iload_n 1, 1) := by decide +kernel
theorem dX6_addBag_81 : decode cX6_addBag 81 = .ok (.iastore, 1) := by decide +kernel
theorem dX6_addBag_82 : decode cX6_addBag 82 = .ok (.dup, 1) := by decide +kernel
theorem dX6_addBag_83 : decode cX6_addBag 83 = .ok (.iconst 4, 1) := by decide +kernel
theorem dX6_addBag_84 : decode cX6_addBag 84 = .ok (.iconst (-1), 1) := by decide +kernel
theorem dX6_addBag_85 : decode cX6_addBag 85 = .ok (.iastore, 1) := by decide +kernel
theorem dX6_addBag_86 : decode cX6_addBag 86 = .ok (.astore 4, 2) := by decide +kernel
theorem dX6_addBag_88 : decode cX6_addBag 88 = .ok (.aload 4, 2) := by decide +kernel
theorem dX6_addBag_90 : decode cX6_addBag 90 = .ok (.iconst 0, 1) := by decide +kernel
theorem dX6_addBag_91 : decode cX6_addBag 91 = .ok (.aload_n 0, 1) := by decide +kernel
theorem dX6_addBag_92 : decode cX6_addBag 92 = .ok (.getfield 31, 3) := by decide +kernel
theorem dX6_addBag_95 : decode cX6_addBag 95 = .ok (.iconst 5, 1) := by decide +kernel
theorem dX6_addBag_96 : decode cX6_addBag 96 = .ok (.aload_n 0, 1) := by decide +kernel
theorem dX6_addBag_97 : decode cX6_addBag 97 = .ok (.getfield 90, 3) := by decide +kernel
theorem dX6_addBag_100 : decode cX6_addBag 100 = .ok (.imul, 1) := by decide +kernel
theorem dX6_addBag_101 : decode cX6_addBag 101 = .ok (.iconst 5, 1) := by decide +kernel
theorem dX6_addBag_102 : decode cX6_addBag 102 = .ok (.invokestatic 84, 3) := by decide +kernel
theorem dX6_addBag_105 : decode cX6_addBag 105 = .ok (.aload_n 0, 1) := by decide +kernel
theorem dX6_addBag_106 : decode cX6_addBag 106 = .ok (.dup, 1) := by decide +kernel
theorem dX6_addBag_107 : decode cX6_addBag 107 = .ok (.getfield 90, 3) := by decide +kernel
theorem dX6_addBag_110 : decode cX6_addBag 110 = .ok (.iconst 1, 1) := by decide +kernel
theorem dX6_addBag_111 : decode cX6_addBag 111 = .ok (.iadd, 1) := by decide +kernel
theorem dX6_addBag_112 : decode cX6_addBag 112 = .ok (.putfield 90, 3) := by decide +kernel
theorem dX6_addBag_115 : decode cX6_addBag 115 = .ok (.aload_n 0, 1) := by decide +kernel
theorem dX6_addBag_116 : decode cX6_addBag 116 = .ok (.getfield 90, 3) := by decide +kernel
theorem dX6_addBag_119 : decode cX6_addBag 119 = .ok (.iconst 1, 1) := by decide +kernel
theorem dX6_addBag_120 : decode cX6_addBag 120 = .ok (.isub, 1) := by decide +kernel
theorem dX6_addBag_121 : decode cX6_addBag 121 = .ok (.ireturn, 1) := by decide +kernel
theorem dX6_isOn_0 : decode cX6_isOn 0 = .ok (.aload_n 0, 1) := by decide +kernel
theorem dX6_isOn_1 : decode cX6_isOn 1 = .ok (.iload_n 1, 1) := by decide +kernel
theorem dX6_isOn_2 : decode cX6_isOn 2 = .ok (.iconst 2, 1) := by decide +kernel
theorem dX6_isOn_3 : decode cX6_isOn 3 = .ok (.invokevirtual 93, 3) := by decide +kernel
theorem dX6_isOn_6 : decode cX6_isOn 6 = .ok (.iconst 1, 1) := by decide +kernel
theorem dX6_isOn_7 : decode cX6_isOn 7 = .ok (.if_icmp .ne 17, 3) := by decide +kernel
theorem dX6_isOn_10 : decode cX6_isOn 10 = .ok (.aload_n 0, 1) := by decide +kernel
theorem dX6_isOn_11 : decode cX6_isOn 11 = .ok (.iload_n 1, 1) := by decide +kernel
theorem dX6_isOn_12 : decode cX6_isOn 12 = .ok (.iconst 3, 1) := by decide +kernel
theorem dX6_isOn_13 : decode cX6_isOn 13 = .ok (.invokevirtual 93, 3) := by decide +kernel
theorem dX6_isOn_16 : decode cX6_isOn 16 = .ok (.iload_n 2, 1) := by decide +kernel
theorem dX6_isOn_17 : decode cX6_isOn 17 = .ok (.if_icmp .ne 7, 3) := by decide +kernel
theorem dX6_isOn_20 : decode cX6_isOn 20 = .ok (.iconst 1, 1) := by decide +kernel
theorem dX6_isOn_21 : decode cX6_isOn 21 = .ok (.goto 4, 3) := by decide +kernel
theorem dX6_isOn_24 : decode cX6_isOn 24 = .ok (.iconst 0, 1) := by decide +kernel
theorem dX6_isOn_25 : decode cX6_isOn 25 = .ok (.ireturn, 1) := by decide +kernel
theorem dX6_weight_0 : decode cX6_weight 0 = .ok (.bipush 40, 2) := by decide +kernel
theorem dX6_weight_2 : decode cX6_weight 2 = .ok (.bipush 30, 2) := by decide +kernel
theorem dX6_weight_4 : decode cX6_weight 4 = .ok (.aload_n 0, 1) := by decide +kernel
theorem dX6_weight_5 : decode cX6_weight 5 = .ok (.iload_n 1, 1) := by decide +kernel
theorem dX6_weight_6 : decode cX6_weight 6 = .ok (.iconst 0, 1) := by decide +kernel
theorem dX6_weight_7 : decode cX6_weight 7 = .ok (.invokevirtual 62, 3) := by decide +kernel
theorem dX6_weight_10 : decode cX6_weight 10 = .ok (.imul, 1) := by decide +kernel
theorem dX6_weight_11 : decode cX6_weight 11 = .ok (.iadd, 1) := by decide +kernel
theorem dX6_weight_12 : decode cX6_weight 12 = .ok (.istore_n 2, 1) := by decide +kernel
theorem dX6_weight_13 : decode cX6_weight 13 = .ok (.iconst 0, 1) := by decide +kernel
theorem dX6_weight_14 : decode cX6_weight 14 = .ok (.istore_n 3, 1) := by decide +kernel
theorem dX6_weight_15 : decode cX6_weight 15 = .ok (.iload_n 3, 1) := by decide +kernel
theorem dX6_weight_16 : decode cX6_weight 16 = .ok (.aload_n 0, 1) := by decide +kernel
theorem dX6_weight_17 : decode cX6_weight 17 = .ok (.getfield 90, 3) := by decide +kernel
theorem dX6_weight_20 : decode cX6_weight 20 = .ok (.if_icmp .ge 31, 3) := by decide +kernel
theorem dX6_weight_23 : decode cX6_weight 23 = .ok (.iload_n 2, 1) := by decide +kernel
theorem dX6_weight_24 : decode cX6_weight 24 = .ok (.aload_n 0, 1) := by decide +kernel
theorem dX6_weight_25 : decode cX6_weight 25 = .ok (.iload_n 3, 1) := by decide +kernel
theorem dX6_weight_26 : decode cX6_weight 26 = .ok (.iload_n 1, 1) := by decide +kernel
theorem dX6_weight_27 : decode cX6_weight 27 = .ok (.invokevirtual 96, 3) := by decide +kernel
theorem dX6_weight_30 : decode cX6_weight 30 = .ok (.ifCond .eq 12, 3) := by decide +kernel
theorem dX6_weight_33 : decode cX6_weight 33 = .ok (.aload_n 0, 1) := by decide +kernel
theorem dX6_weight_34 : decode cX6_weight 34 = .ok (.iload_n 3, 1) := by decide +kernel
theorem dX6_weight_35 : decode cX6_weight 35 = .ok (.iconst 0, 1) := by decide +kernel
theorem dX6_weight_36 : decode cX6_weight 36 = .ok (.invokevirtual 93, 3) := by decide +kernel
theorem dX6_weight_39 : decode cX6_weight 39 = .ok (.goto 4, 3) := by decide +kernel
theorem dX6_weight_42 : decode cX6_weight 42 = .ok (.iconst 0, 1) := by decide +kernel
theorem dX6_weight_43 : decode cX6_weight 43 = .ok (.iadd, 1) := by decide +kernel
theorem dX6_weight_44 : decode cX6_weight 44 = .ok (.istore_n 2, 1) := by decide +kernel
theorem dX6_weight_45 : decode cX6_weight 45 = .ok (.iinc 3 1, 3) := by decide +kernel
theorem dX6_weight_48 : decode cX6_weight 48 = .ok (.goto (-33), 3) := by decide +kernel
theorem dX6_weight_51 : decode cX6_weight 51 = .ok (.iload_n 2, 1) := by decide +kernel
theorem dX6_weight_52 : decode cX6_weight 52 = .ok (.ireturn, 1) := by decide +kernel
theorem dX6_load_0 : decode cX6_load 0 = .ok (.aload_n 0, 1) := by decide +kernel
theorem dX6_load_1 : decode cX6_load 1 = .ok (.iconst 0, 1) := by decide +kernel
theorem dX6_load_2 : decode cX6_load 2 = .ok (.putfield 44, 3) := by decide +kernel
theorem dX6_load_5 : decode cX6_load 5 = .ok (.aload_n 0, 1) := by decide +kernel
theorem dX6_load_6 : decode cX6_load 6 = .ok (.iload_n 1, 1) := by decide +kernel
theorem dX6_load_7 : decode cX6_load 7 = .ok (.invokevirtual 99, 3) := by decide +kernel
theorem dX6_load_10 : decode cX6_load 10 = .ok (.ifCond .eq 17, 3) := by decide +kernel
theorem dX6_load_13 : decode cX6_load 13 = .ok (.iload_n 2, 1) := by decide +kernel
theorem dX6_load_14 : decode cX6_load 14 = .ok (.iconst 0, 1) := by decide +kernel
theorem dX6_load_15 : decode cX6_load 15 = .ok (.aload_n 0, 1) := by decide +kernel
theorem dX6_load_16 : decode cX6_load 16 = .ok (.getfield 90, 3) := by decide +kernel
theorem dX6_load_19 : decode cX6_load 19 = .ok (.iconst 1, 1) := by decide +kernel
theorem dX6_load_20 : decode cX6_load 20 = .ok (.isub, 1) := by decide +kernel
theorem dX6_load_21 : decode cX6_load 21 = .ok (.invokestatic 48, 3) := by decide +kernel
theorem dX6_load_24 : decode cX6_load 24 = .ok (.ifCond .ne 9, 3) := by decide +kernel
theorem dX6_load_27 : decode cX6_load 27 = .ok (.aload_n 0, 1) := by decide +kernel
theorem dX6_load_28 : decode cX6_load 28 = .ok (.iconst 1, 1) := by decide +kernel
theorem dX6_load_29 : decode cX6_load 29 = .ok (.invokevirtual 66, 3) := by decide +kernel
theorem dX6_load_32 : decode cX6_load 32 = .ok (.ireturn, 1) := by decide +kernel
theorem dX6_load_33 : decode cX6_load 33 = .ok (.aload_n 0, 1) := by decide +kernel
theorem dX6_load_34 : decode cX6_load 34 = .ok (.iload_n 2, 1) := by decide +kernel
theorem dX6_load_35 : decode cX6_load 35 = .ok (.iconst 2, 1) := by decide +kernel
theorem dX6_load_36 : decode cX6_load 36 = .ok (.invokevirtual 93, 3) := by decide +kernel
theorem dX6_load_39 : decode cX6_load 39 = .ok (.ifCond .ne 27, 3) := by decide +kernel
theorem dX6_load_42 : decode cX6_load 42 = .ok (.aload_n 0, 1) := by decide +kernel
theorem dX6_load_43 : decode cX6_load 43 = .ok (.iload_n 1, 1) := by decide +kernel
theorem dX6_load_44 : decode cX6_load 44 = .ok (.iconst 2, 1) := by decide +kernel
theorem dX6_load_45 : decode cX6_load 45 = .ok (.invokevirtual 62, 3) := by decide +kernel
theorem dX6_load_48 : decode cX6_load 48 = .ok (.ifCond .ne 18, 3) := by decide +kernel
theorem dX6_load_51 : decode cX6_load 51 = .ok (.aload_n 0, 1) := by decide +kernel
theorem dX6_load_52 : decode cX6_load 52 = .ok (.iload_n 1, 1) := by decide +kernel
theorem dX6_load_53 : decode cX6_load 53 = .ok (.iconst 4, 1) := by decide +kernel
theorem dX6_load_54 : decode cX6_load 54 = .ok (.invokevirtual 62, 3) := by decide +kernel
theorem dX6_load_57 : decode cX6_load 57 = .ok (.aload_n 0, 1) := by decide +kernel
theorem dX6_load_58 : decode cX6_load 58 = .ok (.iload_n 2, 1) := by decide +kernel
theorem dX6_load_59 : decode cX6_load 59 = .ok (.iconst 3, 1) := by decide +kernel
theorem dX6_load_60 : decode cX6_load 60 = .ok (.invokevirtual 93, 3) := by decide +kernel
theorem dX6_load_63 : decode cX6_load 63 = .ok (.if_icmp .eq 9, 3) := by decide +kernel
theorem dX6_load_66 : decode cX6_load 66 = .ok (.aload_n 0, 1) := by decide +kernel
theorem dX6_load_67 : decode cX6_load 67 = .ok (.iconst 2, 1) := by decide +kernel
theorem dX6_load_68 : decode cX6_load 68 = .ok (.invokevirtual 66, 3) := by decide +kernel
theorem dX6_load_71 : decode cX6_load 71 = .ok (.ireturn, 1) := by decide +kernel
theorem dX6_load_72 : decode cX6_load 72 = .ok (.aload_n 0, 1) := by decide +kernel
theorem dX6_load_73 : decode cX6_load 73 = .ok (.iload_n 2, 1) := by decide +kernel
theorem dX6_load_74 : decode cX6_load 74 = .ok (.iconst 1, 1) := by decide +kernel
theorem dX6_load_75 : decode cX6_load 75 = .ok (.iload_n 1, 1) := by decide +kernel
theorem dX6_load_76 : decode cX6_load 76 = .ok (.invokevirtual 102, 3) := by decide +kernel
theorem dX6_load_79 : decode cX6_load 79 = .ok (.aload_n 0, 1) := by decide +kernel
theorem dX6_load_80 : decode cX6_load 80 = .ok (.iload_n 1, 1) := by decide +kernel
theorem dX6_load_81 : decode cX6_load 81 = .ok (.invokevirtual 106, 3) := by decide +kernel
theorem dX6_load_84 : decode cX6_load 84 = .ok (.ireturn, 1) := by decide +kernel
theorem dX6_needs_0 : decode cX6_needs 0 = .ok (.bipush 8, 2) := by decide +kernel
theorem dX6_needs_2 : decode cX6_needs 2 = .ok (.iload_n 2, 1) := by decide +kernel
theorem dX6_needs_3 : decode cX6_needs 3 = .ok (.bipush 12, 2) := by decide +kernel
theorem dX6_needs_5 : decode cX6_needs 5 = .ok (.idiv, 1) := by decide +kernel
theorem dX6_needs_6 : decode cX6_needs 6 = .ok (.iadd, 1) := by decide +kernel
theorem dX6_needs_7 : decode cX6_needs 7 = .ok (.aload_n 0, 1) := by decide +kernel
theorem dX6_needs_8 : decode cX6_needs 8 = .ok (.getfield 25, 3) := by decide +kernel
theorem dX6_needs_11 : decode cX6_needs 11 = .ok (.iload_n 1, 1) := by decide +kernel
theorem dX6_needs_12 : decode cX6_needs 12 = .ok (.iaload, 1) := by decide +kernel
theorem dX6_needs_13 : decode cX6_needs 13 = .ok (.iconst 1, 1) := by decide +kernel
theorem dX6_needs_14 : decode cX6_needs 14 = .ok (.if_icmp .ne 7, 3) := by decide +kernel
theorem dX6_needs_17 : decode cX6_needs 17 = .ok (.iconst 2, 1) := by decide +kernel
theorem dX6_needs_18 : decode cX6_needs 18 = .ok (.goto 4, 3) := by decide +kernel
theorem dX6_needs_21 : decode cX6_needs 21 = .ok (.iconst 1, 1) := by decide +kernel
theorem dX6_needs_22 : decode cX6_needs 22 = .ok (.imul, 1) := by decide +kernel
theorem dX6_needs_23 : decode cX6_needs 23 = .ok (.ireturn, 1) := by decide +kernel
theorem dX6_bearsIt_0 : decode cX6_bearsIt 0 = .ok (.aload_n 0, 1) := by decide +kernel
theorem dX6_bearsIt_1 : decode cX6_bearsIt 1 = .ok (.getfield 19, 3) := by decide +kernel
theorem dX6_bearsIt_4 : decode cX6_bearsIt 4 = .ok (.iload_n 1, 1) := by decide +kernel
theorem dX6_bearsIt_5 : decode cX6_bearsIt 5 = .ok (.iaload, 1) := by decide +kernel
theorem dX6_bearsIt_6 : decode cX6_bearsIt 6 = .ok (.iconst (-1), 1) := by decide +kernel
theorem dX6_bearsIt_7 : decode cX6_bearsIt 7 = .ok (.if_icmp .eq 18, 3) := by decide +kernel
theorem dX6_bearsIt_10 : decode cX6_bearsIt 10 = .ok (.aload_n 0, 1) := by decide +kernel
theorem dX6_bearsIt_11 : decode cX6_bearsIt 11 = .ok (.getfield 19, 3) := by decide +kernel
theorem dX6_bearsIt_14 : decode cX6_bearsIt 14 = .ok (.iload_n 1, 1) := by decide +kernel
theorem dX6_bearsIt_15 : decode cX6_bearsIt 15 = .ok (.iaload, 1) := by decide +kernel
theorem dX6_bearsIt_16 : decode cX6_bearsIt 16 = .ok (.aload_n 0, 1) := by decide +kernel
theorem dX6_bearsIt_17 : decode cX6_bearsIt 17 = .ok (.iload_n 1, 1) := by decide +kernel
theorem dX6_bearsIt_18 : decode cX6_bearsIt 18 = .ok (.iload_n 2, 1) := by decide +kernel
theorem dX6_bearsIt_19 : decode cX6_bearsIt 19 = .ok (.invokevirtual 109, 3) := by decide +kernel
theorem dX6_bearsIt_22 : decode cX6_bearsIt 22 = .ok (.if_icmp .lt 7, 3) := by decide +kernel
theorem dX6_bearsIt_25 : decode cX6_bearsIt 25 = .ok (.iconst 1, 1) := by decide +kernel
theorem dX6_bearsIt_26 : decode cX6_bearsIt 26 = .ok (.goto 4, 3) := by decide +kernel
theorem dX6_bearsIt_29 : decode cX6_bearsIt 29 = .ok (.iconst 0, 1) := by decide +kernel
theorem dX6_bearsIt_30 : decode cX6_bearsIt 30 = .ok (.ireturn, 1) := by decide +kernel
theorem dX6_pace_0 : decode cX6_pace 0 = .ok (.aload_n 0, 1) := by decide +kernel
theorem dX6_pace_1 : decode cX6_pace 1 = .ok (.getfield 9, 3) := by decide +kernel
theorem dX6_pace_4 : decode cX6_pace 4 = .ok (.iload_n 1, 1) := by decide +kernel
theorem dX6_pace_5 : decode cX6_pace 5 = .ok (.iaload, 1) := by decide +kernel
theorem dX6_pace_6 : decode cX6_pace 6 = .ok (.iload_n 2, 1) := by decide +kernel
theorem dX6_pace_7 : decode cX6_pace 7 = .ok (.bipush 60, 2) := by decide +kernel
theorem dX6_pace_9 : decode cX6_pace 9 = .ok (.iload_n 3, 1) := by decide +kernel
theorem dX6_pace_10 : decode cX6_pace 10 = .ok (.imul, 1) := by decide +kernel
theorem dX6_pace_11 : decode cX6_pace 11 = .ok (.idiv, 1) := by decide +kernel
theorem dX6_pace_12 : decode cX6_pace 12 = .ok (.iadd, 1) := by decide +kernel
theorem dX6_pace_13 : decode cX6_pace 13 = .ok (.iload 4, 2) := by decide +kernel
theorem dX6_pace_15 : decode cX6_pace 15 = .ok (.bipush 50, 2) := by decide +kernel
theorem dX6_pace_17 : decode cX6_pace 17 = .ok (.if_icmp .lt 7, 3) := by decide +kernel
theorem dX6_pace_20 : decode cX6_pace 20 = .ok (.iconst 1, 1) := by decide +kernel
theorem dX6_pace_21 : decode cX6_pace 21 = .ok (.goto 4, 3) := by decide +kernel
theorem dX6_pace_24 : decode cX6_pace 24 = .ok (.iconst 0, 1) := by decide +kernel
theorem dX6_pace_25 : decode cX6_pace 25 = .ok (.iadd, 1) := by decide +kernel
theorem dX6_pace_26 : decode cX6_pace 26 = .ok (.ireturn, 1) := by decide +kernel
theorem dX6_find_0 : decode cX6_find 0 = .ok (.iconst 0, 1) := by decide +kernel
theorem dX6_find_1 : decode cX6_find 1 = .ok (.istore 5, 2) := by decide +kernel
theorem dX6_find_3 : decode cX6_find 3 = .ok (.iload 5, 2) := by decide +kernel
theorem dX6_find_5 : decode cX6_find 5 = .ok (.sipush 160, 3) := by decide +kernel
theorem dX6_find_8 : decode cX6_find 8 = .ok (.if_icmp .ge 28, 3) := by decide +kernel
theorem dX6_find_11 : decode cX6_find 11 = .ok (.aload_n 0, 1) := by decide +kernel
theorem dX6_find_12 : decode cX6_find 12 = .ok (.getfield 37, 3) := by decide +kernel
theorem dX6_find_15 : decode cX6_find 15 = .ok (.iload 5, 2) := by decide +kernel
theorem dX6_find_17 : decode cX6_find 17 = .ok (.iload 5, 2) := by decide +kernel
theorem dX6_find_19 : decode cX6_find 19 = .ok (.iload_n 1, 1) := by decide +kernel
theorem dX6_find_20 : decode cX6_find 20 = .ok (.if_icmp .ne 7, 3) := by decide +kernel
theorem dX6_find_23 : decode cX6_find 23 = .ok (.iconst 0, 1) := by decide +kernel
theorem dX6_find_24 : decode cX6_find 24 = .ok (.goto 5, 3) := by decide +kernel
theorem dX6_find_27 : decode cX6_find 27 = .ok (.ldc 112, 2) := by decide +kernel
theorem dX6_find_29 : decode cX6_find 29 = .ok (.iastore, 1) := by decide +kernel
theorem dX6_find_30 : decode cX6_find 30 = .ok (.iinc 5 1, 3) := by decide +kernel
theorem dX6_find_33 : decode cX6_find 33 = .ok (.goto (-30), 3) := by decide +kernel
theorem dX6_find_36 : decode cX6_find 36 = .ok (.iconst 1, 1) := by decide +kernel
theorem dX6_find_37 : decode cX6_find 37 = .ok (.istore 5, 2) := by decide +kernel
theorem dX6_find_39 : decode cX6_find 39 = .ok (.iload 5, 2) := by decide +kernel
theorem dX6_find_41 : decode cX6_find 41 = .ok (.ifCond .eq 161, 3) := by decide +kernel
theorem dX6_find_44 : decode cX6_find 44 = .ok (.iconst 0, 1) := by decide +kernel
theorem dX6_find_45 : decode cX6_find 45 = .ok (.istore 5, 2) := by decide +kernel
theorem dX6_find_47 : decode cX6_find 47 = .ok (.iconst 0, 1) := by decide +kernel
theorem dX6_find_48 : decode cX6_find 48 = .ok (.istore 6, 2) := by decide +kernel
theorem dX6_find_50 : decode cX6_find 50 = .ok (.iload 6, 2) := by decide +kernel
theorem dX6_find_52 : decode cX6_find 52 = .ok (.sipush 320, 3) := by decide +kernel
theorem dX6_find_55 : decode cX6_find 55 = .ok (.if_icmp .ge 144, 3) := by decide +kernel
theorem dX6_find_58 : decode cX6_find 58 = .ok (.iload 6, 2) := by decide +kernel
theorem dX6_find_60 : decode cX6_find 60 = .ok (.sipush 160, 3) := by decide +kernel
theorem dX6_find_63 : decode cX6_find 63 = .ok (.if_icmp .ge 8, 3) := by decide +kernel
theorem dX6_find_66 : decode cX6_find 66 = .ok (.iload 6, 2) := by decide +kernel
theorem dX6_find_68 : decode cX6_find 68 = .ok (.goto 9, 3) := by decide +kernel
theorem dX6_find_71 : decode cX6_find 71 = .ok (.sipush 319, 3) := by decide +kernel
theorem dX6_find_74 : decode cX6_find 74 = .ok (.iload 6, 2) := by decide +kernel
theorem dX6_find_76 : decode cX6_find 76 = .ok (.isub, 1) := by decide +kernel
theorem dX6_find_77 : decode cX6_find 77 = .ok (.istore 7, 2) := by decide +kernel
theorem dX6_find_79 : decode cX6_find 79 = .ok (.aload_n 0, 1) := by decide +kernel
theorem dX6_find_80 : decode cX6_find 80 = .ok (.getfield 37, 3) := by decide +kernel
theorem dX6_find_83 : decode cX6_find 83 = .ok (.iload 7, 2) := by decide +kernel
theorem dX6_find_85 : decode cX6_find 85 = .ok (.iaload, 1) := by decide +kernel
theorem dX6_find_86 : decode cX6_find 86 = .ok (.ldc 112, 2) := by decide +kernel
theorem dX6_find_88 : decode cX6_find 88 = .ok (.if_icmp .eq 105, 3) := by decide +kernel
theorem dX6_find_91 : decode cX6_find 91 = .ok (.aload_n 0, 1) := by decide +kernel
theorem dX6_find_92 : decode cX6_find 92 = .ok (.iload 7, 2) := by decide +kernel
theorem dX6_find_94 : decode cX6_find 94 = .ok (.iload_n 2, 1) := by decide +kernel
theorem dX6_find_95 : decode cX6_find 95 = .ok (.invokevirtual 113, 3) := by decide +kernel
theorem dX6_find_98 : decode cX6_find 98 = .ok (.ifCond .ne 6, 3) := by decide +kernel
theorem dX6_find_101 : decode cX6_find 101 = .ok (.goto 92, 3) := by decide +kernel
theorem dX6_find_104 : decode cX6_find 104 = .ok (.iconst 0, 1) := by decide +kernel
theorem dX6_find_105 : decode cX6_find 105 = .ok (.istore 8, 2) := by decide +kernel
theorem dX6_find_107 : decode cX6_find 107 = .ok (.iload 8, 2) := by decide +kernel
theorem dX6_find_109 : decode cX6_find 109 = .ok (.iconst 4, 1) := by decide +kernel
theorem dX6_find_110 : decode cX6_find 110 = .ok (.if_icmp .ge 83, 3) := by decide +kernel
theorem dX6_find_113 : decode cX6_find 113 = .ok (.iload 7, 2) := by decide +kernel
theorem dX6_find_115 : decode cX6_find 115 = .ok (.iload 8, 2) := by decide +kernel
theorem dX6_find_117 : decode cX6_find 117 = .ok (.invokestatic 116, 3) := by decide +kernel
theorem dX6_find_120 : decode cX6_find 120 = .ok (.istore 9, 2) := by decide +kernel
theorem dX6_find_122 : decode cX6_find 122 = .ok (.iload 9, 2) := by decide +kernel
theorem dX6_find_124 : decode cX6_find 124 = .ok (.iconst (-1), 1) := by decide +kernel
theorem dX6_find_125 : decode cX6_find 125 = .ok (.if_icmp .eq 62, 3) := by decide +kernel
theorem dX6_find_128 : decode cX6_find 128 = .ok (.aload_n 0, 1) := by decide +kernel
theorem dX6_find_129 : decode cX6_find 129 = .ok (.getfield 37, 3) := by decide +kernel
theorem dX6_find_132 : decode cX6_find 132 = .ok (.iload 7, 2) := by decide +kernel
theorem dX6_find_134 : decode cX6_find 134 = .ok (.iaload, 1) := by decide +kernel
theorem dX6_find_135 : decode cX6_find 135 = .ok (.aload_n 0, 1) := by decide +kernel
theorem dX6_find_136 : decode cX6_find 136 = .ok (.iload 7, 2) := by decide +kernel
theorem dX6_find_138 : decode cX6_find 138 = .ok (.iload_n 2, 1) := by decide +kernel
theorem dX6_find_139 : decode cX6_find 139 = .ok (.iload_n 3, 1) := by decide +kernel
theorem dX6_find_140 : decode cX6_find 140 = .ok (.iload 4, 2) := by decide +kernel
theorem dX6_find_142 : decode cX6_find 142 = .ok (.invokevirtual 119, 3) := by decide +kernel
theorem dX6_find_145 : decode cX6_find 145 = .ok (.iadd, 1) := by decide +kernel
theorem dX6_find_146 : decode cX6_find 146 = .ok (.aload_n 0, 1) := by decide +kernel
theorem dX6_find_147 : decode cX6_find 147 = .ok (.getfield 37, 3) := by decide +kernel
theorem dX6_find_150 : decode cX6_find 150 = .ok (.iload 9, 2) := by decide +kernel
theorem dX6_find_152 : decode cX6_find 152 = .ok (.iaload, 1) := by decide +kernel
theorem dX6_find_153 : decode cX6_find 153 = .ok (.if_icmp .lt 6, 3) := by decide +kernel
theorem dX6_find_156 : decode cX6_find 156 = .ok (.goto 31, 3) := by decide +kernel
theorem dX6_find_159 : decode cX6_find 159 = .ok (.aload_n 0, 1) := by decide +kernel
theorem dX6_find_160 : decode cX6_find 160 = .ok (.getfield 37, 3) := by decide +kernel
theorem dX6_find_163 : decode cX6_find 163 = .ok (.iload 9, 2) := by decide +kernel
theorem dX6_find_165 : decode cX6_find 165 = .ok (.aload_n 0, 1) := by decide +kernel
theorem dX6_find_166 : decode cX6_find 166 = .ok (.getfield 37, 3) := by decide +kernel
theorem dX6_find_169 : decode cX6_find 169 = .ok (.iload 7, 2) := by decide +kernel
theorem dX6_find_171 : decode cX6_find 171 = .ok (.iaload, 1) := by decide +kernel
theorem dX6_find_172 : decode cX6_find 172 = .ok (.aload_n 0, 1) := by decide +kernel
theorem dX6_find_173 : decode cX6_find 173 = .ok (.iload 7, 2) := by decide +kernel
theorem dX6_find_175 : decode cX6_find 175 = .ok (.iload_n 2, 1) := by decide +kernel
theorem dX6_find_176 : decode cX6_find 176 = .ok (.iload_n 3, 1) := by decide +kernel
theorem dX6_find_177 : decode cX6_find 177 = .ok (.iload 4, 2) := by decide +kernel
theorem dX6_find_179 : decode cX6_find 179 = .ok (.invokevirtual 119, 3) := by decide +kernel
theorem dX6_find_182 : decode cX6_find 182 = .ok (.iadd, 1) := by decide +kernel
theorem dX6_find_183 : decode cX6_find 183 = .ok (.iastore, 1) := by decide +kernel
theorem dX6_find_184 : decode cX6_find 184 = .ok (.iconst 1, 1) := by decide +kernel
theorem dX6_find_185 : decode cX6_find 185 = .ok (.istore 5, 2) := by decide +kernel
theorem dX6_find_187 : decode cX6_find 187 = .ok (.iinc 8 1, 3) := by decide +kernel
theorem dX6_find_190 : decode cX6_find 190 = .ok (.goto (-83), 3) := by decide +kernel
theorem dX6_find_193 : decode cX6_find 193 = .ok (.iinc 6 1, 3) := by decide +kernel
theorem dX6_find_196 : decode cX6_find 196 = .ok (.goto (-146), 3) := by decide +kernel
theorem dX6_find_199 : decode cX6_find 199 = .ok (.goto (-160), 3) := by decide +kernel
theorem dX6_find_202 : decode cX6_find 202 = .ok (.return_, 1) := by decide +kernel
theorem dX6_findFor_0 : decode cX6_findFor 0 = .ok (.aload_n 0, 1) := by decide +kernel
theorem dX6_findFor_1 : decode cX6_findFor 1 = .ok (.aload_n 0, 1) := by decide +kernel
theorem dX6_findFor_2 : decode cX6_findFor 2 = .ok (.getfield 16, 3) := by decide +kernel
theorem dX6_findFor_5 : decode cX6_findFor 5 = .ok (.aload_n 0, 1) := by decide +kernel
theorem dX6_findFor_6 : decode cX6_findFor 6 = .ok (.iload_n 1, 1) := by decide +kernel
theorem dX6_findFor_7 : decode cX6_findFor 7 = .ok (.iconst 4, 1) := by decide +kernel
theorem dX6_findFor_8 : decode cX6_findFor 8 = .ok (.invokevirtual 62, 3) := by decide +kernel
theorem dX6_findFor_11 : decode cX6_findFor 11 = .ok (.iaload, 1) := by decide +kernel
theorem dX6_findFor_12 : decode cX6_findFor 12 = .ok (.aload_n 0, 1) := by decide +kernel
theorem dX6_findFor_13 : decode cX6_findFor 13 = .ok (.iload_n 1, 1) := by decide +kernel
theorem dX6_findFor_14 : decode cX6_findFor 14 = .ok (.invokevirtual 106, 3) := by decide +kernel
theorem dX6_findFor_17 : decode cX6_findFor 17 = .ok (.aload_n 0, 1) := by decide +kernel
theorem dX6_findFor_18 : decode cX6_findFor 18 = .ok (.iload_n 1, 1) := by decide +kernel
theorem dX6_findFor_19 : decode cX6_findFor 19 = .ok (.iconst 0, 1) := by decide +kernel
theorem dX6_findFor_20 : decode cX6_findFor 20 = .ok (.invokevirtual 62, 3) := by decide +kernel
theorem dX6_findFor_23 : decode cX6_findFor 23 = .ok (.aload_n 0, 1) := by decide +kernel
theorem dX6_findFor_24 : decode cX6_findFor 24 = .ok (.iload_n 1, 1) := by decide +kernel
theorem dX6_findFor_25 : decode cX6_findFor 25 = .ok (.iconst 1, 1) := by decide +kernel
theorem dX6_findFor_26 : decode cX6_findFor 26 = .ok (.invokevirtual 62, 3) := by decide +kernel
theorem dX6_findFor_29 : decode cX6_findFor 29 = .ok (.invokevirtual 123, 3) := by decide +kernel
theorem dX6_findFor_32 : decode cX6_findFor 32 = .ok (.aload_n 0, 1) := by decide +kernel
theorem dX6_findFor_33 : decode cX6_findFor 33 = .ok (.getfield 37, 3) := by decide +kernel
theorem dX6_findFor_36 : decode cX6_findFor 36 = .ok (.aload_n 0, 1) := by decide +kernel
theorem dX6_findFor_37 : decode cX6_findFor 37 = .ok (.iload_n 1, 1) := by decide +kernel
theorem dX6_findFor_38 : decode cX6_findFor 38 = .ok (.iconst 3, 1) := by decide +kernel
theorem dX6_findFor_39 : decode cX6_findFor 39 = .ok (.invokevirtual 62, 3) := by decide +kernel
theorem dX6_findFor_42 : decode cX6_findFor 42 = .ok (.iaload, 1) := by decide +kernel
theorem dX6_findFor_43 : decode cX6_findFor 43 = .ok (.ldc 112, 2) := by decide +kernel
theorem dX6_findFor_45 : decode cX6_findFor 45 = .ok (.if_icmp .ne 7, 3) := by decide +kernel
theorem dX6_findFor_48 : decode cX6_findFor 48 = .ok (.iconst (-1), 1) := by decide +kernel
theorem dX6_findFor_49 : decode cX6_findFor 49 = .ok (.goto 14, 3) := by decide +kernel
theorem dX6_findFor_52 : decode cX6_findFor 52 = .ok (.aload_n 0, 1) := by decide +kernel
theorem dX6_findFor_53 : decode cX6_findFor 53 = .ok (.getfield 37, 3) := by decide +kernel
theorem dX6_findFor_56 : decode cX6_findFor 56 = .ok (.aload_n 0, 1) := by decide +kernel
theorem dX6_findFor_57 : decode cX6_findFor 57 = .ok (.iload_n 1, 1) := by decide +kernel
theorem dX6_findFor_58 : decode cX6_findFor 58 = .ok (.iconst 3, 1) := by decide +kernel
theorem dX6_findFor_59 : decode cX6_findFor 59 = .ok (.invokevirtual 62, 3) := by decide +kernel
theorem dX6_findFor_62 : decode cX6_findFor 62 = .ok (.iaload, 1) := by decide +kernel
theorem dX6_findFor_63 : decode cX6_findFor 63 = .ok (.ireturn, 1) := by decide +kernel
theorem dX6_send_0 : decode cX6_send 0 = .ok (.aload_n 0, 1) := by decide +kernel
theorem dX6_send_1 : decode cX6_send 1 = .ok (.iconst 0, 1) := by decide +kernel
theorem dX6_send_2 : decode cX6_send 2 = .ok (.putfield 44, 3) := by decide +kernel
theorem dX6_send_5 : decode cX6_send 5 = .ok (.aload_n 0, 1) := by decide +kernel
theorem dX6_send_6 : decode cX6_send 6 = .ok (.iload_n 1, 1) := by decide +kernel
theorem dX6_send_7 : decode cX6_send 7 = .ok (.invokevirtual 99, 3) := by decide +kernel
theorem dX6_send_10 : decode cX6_send 10 = .ok (.ifCond .eq 11, 3) := by decide +kernel
theorem dX6_send_13 : decode cX6_send 13 = .ok (.aload_n 0, 1) := by decide +kernel
theorem dX6_send_14 : decode cX6_send 14 = .ok (.iload_n 2, 1) := by decide +kernel
theorem dX6_send_15 : decode cX6_send 15 = .ok (.invokevirtual 80, 3) := by decide +kernel
theorem dX6_send_18 : decode cX6_send 18 = .ok (.ifCond .ne 9, 3) := by decide +kernel
theorem dX6_send_21 : decode cX6_send 21 = .ok (.aload_n 0, 1) := by decide +kernel
theorem dX6_send_22 : decode cX6_send 22 = .ok (.iconst 1, 1) := by decide +kernel
theorem dX6_send_23 : decode cX6_send 23 = .ok (.invokevirtual 66, 3) := by decide +kernel
theorem dX6_send_26 : decode cX6_send 26 = .ok (.ireturn, 1) := by decide +kernel
theorem dX6_send_27 : decode cX6_send 27 = .ok (.aload_n 0, 1) := by decide +kernel
theorem dX6_send_28 : decode cX6_send 28 = .ok (.iload_n 1, 1) := by decide +kernel
theorem dX6_send_29 : decode cX6_send 29 = .ok (.iconst 2, 1) := by decide +kernel
theorem dX6_send_30 : decode cX6_send 30 = .ok (.invokevirtual 62, 3) := by decide +kernel
theorem dX6_send_33 : decode cX6_send 33 = .ok (.ifCond .ne 19, 3) := by decide +kernel
theorem dX6_send_36 : decode cX6_send 36 = .ok (.aload_n 0, 1) := by decide +kernel
theorem dX6_send_37 : decode cX6_send 37 = .ok (.iload_n 1, 1) := by decide +kernel
theorem dX6_send_38 : decode cX6_send 38 = .ok (.iconst 4, 1) := by decide +kernel
theorem dX6_send_39 : decode cX6_send 39 = .ok (.invokevirtual 62, 3) := by decide +kernel
theorem dX6_send_42 : decode cX6_send 42 = .ok (.iload_n 2, 1) := by decide +kernel
theorem dX6_send_43 : decode cX6_send 43 = .ok (.if_icmp .ne 9, 3) := by decide +kernel
theorem dX6_send_46 : decode cX6_send 46 = .ok (.aload_n 0, 1) := by decide +kernel
theorem dX6_send_47 : decode cX6_send 47 = .ok (.iconst 2, 1) := by decide +kernel
theorem dX6_send_48 : decode cX6_send 48 = .ok (.invokevirtual 66, 3) := by decide +kernel
theorem dX6_send_51 : decode cX6_send 51 = .ok (.ireturn, 1) := by decide +kernel
theorem dX6_send_52 : decode cX6_send 52 = .ok (.aload_n 0, 1) := by decide +kernel
theorem dX6_send_53 : decode cX6_send 53 = .ok (.iload_n 1, 1) := by decide +kernel
theorem dX6_send_54 : decode cX6_send 54 = .ok (.iconst 2, 1) := by decide +kernel
theorem dX6_send_55 : decode cX6_send 55 = .ok (.invokevirtual 62, 3) := by decide +kernel
theorem dX6_send_58 : decode cX6_send 58 = .ok (.ifCond .eq 9, 3) := by decide +kernel
theorem dX6_send_61 : decode cX6_send 61 = .ok (.aload_n 0, 1) := by decide +kernel
theorem dX6_send_62 : decode cX6_send 62 = .ok (.iconst 3, 1) := by decide +kernel
theorem dX6_send_63 : decode cX6_send 63 = .ok (.invokevirtual 66, 3) := by decide +kernel
theorem dX6_send_66 : decode cX6_send 66 = .ok (.ireturn, 1) := by decide +kernel
theorem dX6_send_67 : decode cX6_send 67 = .ok (.aload_n 0, 1) := by decide +kernel
theorem dX6_send_68 : decode cX6_send 68 = .ok (.iload_n 1, 1) := by decide +kernel
theorem dX6_send_69 : decode cX6_send 69 = .ok (.iconst 2, 1) := by decide +kernel
theorem dX6_send_70 : decode cX6_send 70 = .ok (.iconst 1, 1) := by decide +kernel
theorem dX6_send_71 : decode cX6_send 71 = .ok (.invokevirtual 127, 3) := by decide +kernel
theorem dX6_send_74 : decode cX6_send 74 = .ok (.aload_n 0, 1) := by decide +kernel
theorem dX6_send_75 : decode cX6_send 75 = .ok (.iload_n 1, 1) := by decide +kernel
theorem dX6_send_76 : decode cX6_send 76 = .ok (.iconst 4, 1) := by decide +kernel
theorem dX6_send_77 : decode cX6_send 77 = .ok (.iload_n 2, 1) := by decide +kernel
theorem dX6_send_78 : decode cX6_send 78 = .ok (.invokevirtual 127, 3) := by decide +kernel
theorem dX6_send_81 : decode cX6_send 81 = .ok (.aload_n 0, 1) := by decide +kernel
theorem dX6_send_82 : decode cX6_send 82 = .ok (.iload_n 1, 1) := by decide +kernel
theorem dX6_send_83 : decode cX6_send 83 = .ok (.invokevirtual 130, 3) := by decide +kernel
theorem dX6_send_86 : decode cX6_send 86 = .ok (.ireturn, 1) := by decide +kernel
theorem dX6_sleighTold_0 : decode cX6_sleighTold 0 = .ok (.iconst 0, 1) := by decide +kernel
theorem dX6_sleighTold_1 : decode cX6_sleighTold 1 = .ok (.istore_n 3, 1) := by decide +kernel
theorem dX6_sleighTold_2 : decode cX6_sleighTold 2 = .ok (.iload_n 2, 1) := by decide +kernel
theorem dX6_sleighTold_3 : decode cX6_sleighTold 3 = .ok (.tableswitch 87 0 7 #[45, 52, 58, 58, 58, 58, 67, 75], 45) := by decide +kernel
theorem dX6_sleighTold_48 : decode cX6_sleighTold 48 = .ok (.aload_n 0, 1) := by decide +kernel
theorem dX6_sleighTold_49 : decode cX6_sleighTold 49 = .ok (.iload_n 1, 1) := by decide +kernel
theorem dX6_sleighTold_50 : decode cX6_sleighTold 50 = .ok (.iconst 0, 1) := by decide +kernel
theorem dX6_sleighTold_51 : decode cX6_sleighTold 51 = .ok (.invokevirtual 62, 3) := by decide +kernel
theorem dX6_sleighTold_54 : decode cX6_sleighTold 54 = .ok (.ireturn, 1) := by decide +kernel
theorem dX6_sleighTold_55 : decode cX6_sleighTold 55 = .ok (.aload_n 0, 1) := by decide +kernel
theorem dX6_sleighTold_56 : decode cX6_sleighTold 56 = .ok (.iload_n 1, 1) := by decide +kernel
theorem dX6_sleighTold_57 : decode cX6_sleighTold 57 = .ok (.invokevirtual 106, 3) := by decide +kernel
theorem dX6_sleighTold_60 : decode cX6_sleighTold 60 = .ok (.ireturn, 1) := by decide +kernel
theorem dX6_sleighTold_61 : decode cX6_sleighTold 61 = .ok (.aload_n 0, 1) := by decide +kernel
theorem dX6_sleighTold_62 : decode cX6_sleighTold 62 = .ok (.iload_n 1, 1) := by decide +kernel
theorem dX6_sleighTold_63 : decode cX6_sleighTold 63 = .ok (.iload_n 2, 1) := by decide +kernel
theorem dX6_sleighTold_64 : decode cX6_sleighTold 64 = .ok (.iconst 1, 1) := by decide +kernel
theorem dX6_sleighTold_65 : decode cX6_sleighTold 65 = .ok (.isub, 1) := by decide +kernel
theorem dX6_sleighTold_66 : decode cX6_sleighTold 66 = .ok (.invokevirtual 62, 3) := by decide +kernel
theorem dX6_sleighTold_69 : decode cX6_sleighTold 69 = .ok (.ireturn, 1) := by decide +kernel
theorem dX6_sleighTold_70 : decode cX6_sleighTold 70 = .ok (.aload_n 0, 1) := by decide +kernel
theorem dX6_sleighTold_71 : decode cX6_sleighTold 71 = .ok (.iload_n 1, 1) := by decide +kernel
theorem dX6_sleighTold_72 : decode cX6_sleighTold 72 = .ok (.bipush 6, 2) := by decide +kernel
theorem dX6_sleighTold_74 : decode cX6_sleighTold 74 = .ok (.invokevirtual 62, 3) := by decide +kernel
theorem dX6_sleighTold_77 : decode cX6_sleighTold 77 = .ok (.ireturn, 1) := by decide +kernel
theorem dX6_sleighTold_78 : decode cX6_sleighTold 78 = .ok (.bipush 8, 2) := by decide +kernel
theorem dX6_sleighTold_80 : decode cX6_sleighTold 80 = .ok (.aload_n 0, 1) := by decide +kernel
theorem dX6_sleighTold_81 : decode cX6_sleighTold 81 = .ok (.iload_n 1, 1) := by decide +kernel
theorem dX6_sleighTold_82 : decode cX6_sleighTold 82 = .ok (.invokevirtual 106, 3) := by decide +kernel
theorem dX6_sleighTold_85 : decode cX6_sleighTold 85 = .ok (.bipush 12, 2) := by decide +kernel
theorem dX6_sleighTold_87 : decode cX6_sleighTold 87 = .ok (.idiv, 1) := by decide +kernel
theorem dX6_sleighTold_88 : decode cX6_sleighTold 88 = .ok (.iadd, 1) := by decide +kernel
theorem dX6_sleighTold_89 : decode cX6_sleighTold 89 = .ok (.ireturn, 1) := by decide +kernel
theorem dX6_sleighTold_90 : decode cX6_sleighTold 90 = .ok (.iconst 0, 1) := by decide +kernel
theorem dX6_sleighTold_91 : decode cX6_sleighTold 91 = .ok (.istore 4, 2) := by decide +kernel
theorem dX6_sleighTold_93 : decode cX6_sleighTold 93 = .ok (.iload 4, 2) := by decide +kernel
theorem dX6_sleighTold_95 : decode cX6_sleighTold 95 = .ok (.aload_n 0, 1) := by decide +kernel
theorem dX6_sleighTold_96 : decode cX6_sleighTold 96 = .ok (.getfield 90, 3) := by decide +kernel
theorem dX6_sleighTold_99 : decode cX6_sleighTold 99 = .ok (.if_icmp .ge 27, 3) := by decide +kernel
theorem dX6_sleighTold_102 : decode cX6_sleighTold 102 = .ok (.iload_n 3, 1) := by decide +kernel
theorem dX6_sleighTold_103 : decode cX6_sleighTold 103 = .ok (.aload_n 0, 1) := by decide +kernel
theorem dX6_sleighTold_104 : decode cX6_sleighTold 104 = .ok (.iload 4, 2) := by decide +kernel
theorem dX6_sleighTold_106 : decode cX6_sleighTold 106 = .ok (.iload_n 1, 1) := by decide +kernel
theorem dX6_sleighTold_107 : decode cX6_sleighTold 107 = .ok (.invokevirtual 96, 3) := by decide +kernel
theorem dX6_sleighTold_110 : decode cX6_sleighTold 110 = .ok (.ifCond .eq 7, 3) := by decide +kernel
theorem dX6_sleighTold_113 : decode cX6_sleighTold 113 = .ok (.iconst 1, 1) := by decide +kernel
theorem dX6_sleighTold_114 : decode cX6_sleighTold 114 = .ok (.goto 4, 3) := by decide +kernel
theorem dX6_sleighTold_117 : decode cX6_sleighTold 117 = .ok (.iconst 0, 1) := by decide +kernel
theorem dX6_sleighTold_118 : decode cX6_sleighTold 118 = .ok (.iadd, 1) := by decide +kernel
theorem dX6_sleighTold_119 : decode cX6_sleighTold 119 = .ok (.istore_n 3, 1) := by decide +kernel
theorem dX6_sleighTold_120 : decode cX6_sleighTold 120 = .ok (.iinc 4 1, 3) := by decide +kernel
theorem dX6_sleighTold_123 : decode cX6_sleighTold 123 = .ok (.goto (-30), 3) := by decide +kernel
theorem dX6_sleighTold_126 : decode cX6_sleighTold 126 = .ok (.iload_n 3, 1) := by decide +kernel
theorem dX6_sleighTold_127 : decode cX6_sleighTold 127 = .ok (.ireturn, 1) := by decide +kernel
theorem dX6_sleigh_0 : decode cX6_sleigh 0 = .ok (.aload_n 0, 1) := by decide +kernel
theorem dX6_sleigh_1 : decode cX6_sleigh 1 = .ok (.iconst 0, 1) := by decide +kernel
theorem dX6_sleigh_2 : decode cX6_sleigh 2 = .ok (.putfield 44, 3) := by decide +kernel
theorem dX6_sleigh_5 : decode cX6_sleigh 5 = .ok (.aload_n 0, 1) := by decide +kernel
theorem dX6_sleigh_6 : decode cX6_sleigh 6 = .ok (.iload_n 1, 1) := by decide +kernel
theorem dX6_sleigh_7 : decode cX6_sleigh 7 = .ok (.invokevirtual 99, 3) := by decide +kernel
theorem dX6_sleigh_10 : decode cX6_sleigh 10 = .ok (.ifCond .eq 22, 3) := by decide +kernel
theorem dX6_sleigh_13 : decode cX6_sleigh 13 = .ok (.iload_n 2, 1) := by decide +kernel
theorem dX6_sleigh_14 : decode cX6_sleigh 14 = .ok (.iconst 0, 1) := by decide +kernel
theorem dX6_sleigh_15 : decode cX6_sleigh 15 = .ok (.bipush 8, 2) := by decide +kernel
theorem dX6_sleigh_17 : decode cX6_sleigh 17 = .ok (.invokestatic 48, 3) := by decide +kernel
theorem dX6_sleigh_20 : decode cX6_sleigh 20 = .ok (.ifCond .eq 12, 3) := by decide +kernel
theorem dX6_sleigh_23 : decode cX6_sleigh 23 = .ok (.aload_n 0, 1) := by decide +kernel
theorem dX6_sleigh_24 : decode cX6_sleigh 24 = .ok (.iload_n 1, 1) := by decide +kernel
theorem dX6_sleigh_25 : decode cX6_sleigh 25 = .ok (.iload_n 2, 1) := by decide +kernel
theorem dX6_sleigh_26 : decode cX6_sleigh 26 = .ok (.invokevirtual 133, 3) := by decide +kernel
theorem dX6_sleigh_29 : decode cX6_sleigh 29 = .ok (.goto 8, 3) := by decide +kernel
theorem dX6_sleigh_32 : decode cX6_sleigh 32 = .ok (.aload_n 0, 1) := by decide +kernel
theorem dX6_sleigh_33 : decode cX6_sleigh 33 = .ok (.iconst 1, 1) := by decide +kernel
theorem dX6_sleigh_34 : decode cX6_sleigh 34 = .ok (.invokevirtual 66, 3) := by decide +kernel
theorem dX6_sleigh_37 : decode cX6_sleigh 37 = .ok (.ireturn, 1) := by decide +kernel
theorem dX6_bag_0 : decode cX6_bag 0 = .ok (.aload_n 0, 1) := by decide +kernel
theorem dX6_bag_1 : decode cX6_bag 1 = .ok (.iconst 0, 1) := by decide +kernel
theorem dX6_bag_2 : decode cX6_bag 2 = .ok (.putfield 44, 3) := by decide +kernel
theorem dX6_bag_5 : decode cX6_bag 5 = .ok (.iload_n 1, 1) := by decide +kernel
theorem dX6_bag_6 : decode cX6_bag 6 = .ok (.iconst 0, 1) := by decide +kernel
theorem dX6_bag_7 : decode cX6_bag 7 = .ok (.aload_n 0, 1) := by decide +kernel
theorem dX6_bag_8 : decode cX6_bag 8 = .ok (.getfield 90, 3) := by decide +kernel
theorem dX6_bag_11 : decode cX6_bag 11 = .ok (.iconst 1, 1) := by decide +kernel
theorem dX6_bag_12 : decode cX6_bag 12 = .ok (.isub, 1) := by decide +kernel
theorem dX6_bag_13 : decode cX6_bag 13 = .ok (.invokestatic 48, 3) := by decide +kernel
theorem dX6_bag_16 : decode cX6_bag 16 = .ok (.ifCond .eq 21, 3) := by decide +kernel
theorem dX6_bag_19 : decode cX6_bag 19 = .ok (.iload_n 2, 1) := by decide +kernel
theorem dX6_bag_20 : decode cX6_bag 20 = .ok (.iconst 0, 1) := by decide +kernel
theorem dX6_bag_21 : decode cX6_bag 21 = .ok (.iconst 4, 1) := by decide +kernel
theorem dX6_bag_22 : decode cX6_bag 22 = .ok (.invokestatic 48, 3) := by decide +kernel
theorem dX6_bag_25 : decode cX6_bag 25 = .ok (.ifCond .eq 12, 3) := by decide +kernel
theorem dX6_bag_28 : decode cX6_bag 28 = .ok (.aload_n 0, 1) := by decide +kernel
theorem dX6_bag_29 : decode cX6_bag 29 = .ok (.iload_n 1, 1) := by decide +kernel
theorem dX6_bag_30 : decode cX6_bag 30 = .ok (.iload_n 2, 1) := by decide +kernel
theorem dX6_bag_31 : decode cX6_bag 31 = .ok (.invokevirtual 93, 3) := by decide +kernel
theorem dX6_bag_34 : decode cX6_bag 34 = .ok (.goto 8, 3) := by decide +kernel
theorem dX6_bag_37 : decode cX6_bag 37 = .ok (.aload_n 0, 1) := by decide +kernel
theorem dX6_bag_38 : decode cX6_bag 38 = .ok (.iconst 1, 1) := by decide +kernel
theorem dX6_bag_39 : decode cX6_bag 39 = .ok (.invokevirtual 66, 3) := by decide +kernel
theorem dX6_bag_42 : decode cX6_bag 42 = .ok (.ireturn, 1) := by decide +kernel
theorem dX6_isBesideCrack_0 : decode cX6_isBesideCrack 0 = .ok (.iconst 0, 1) := by decide +kernel
theorem dX6_isBesideCrack_1 : decode cX6_isBesideCrack 1 = .ok (.istore_n 2, 1) := by decide +kernel
theorem dX6_isBesideCrack_2 : decode cX6_isBesideCrack 2 = .ok (.iload_n 2, 1) := by decide +kernel
theorem dX6_isBesideCrack_3 : decode cX6_isBesideCrack 3 = .ok (.iconst 4, 1) := by decide +kernel
theorem dX6_isBesideCrack_4 : decode cX6_isBesideCrack 4 = .ok (.if_icmp .ge 33, 3) := by decide +kernel
theorem dX6_isBesideCrack_7 : decode cX6_isBesideCrack 7 = .ok (.iload_n 1, 1) := by decide +kernel
theorem dX6_isBesideCrack_8 : decode cX6_isBesideCrack 8 = .ok (.iload_n 2, 1) := by decide +kernel
theorem dX6_isBesideCrack_9 : decode cX6_isBesideCrack 9 = .ok (.invokestatic 116, 3) := by decide +kernel
theorem dX6_isBesideCrack_12 : decode cX6_isBesideCrack 12 = .ok (.iconst (-1), 1) := by decide +kernel
theorem dX6_isBesideCrack_13 : decode cX6_isBesideCrack 13 = .ok (.if_icmp .eq 18, 3) := by decide +kernel
theorem dX6_isBesideCrack_16 : decode cX6_isBesideCrack 16 = .ok (.aload_n 0, 1) := by decide +kernel
theorem dX6_isBesideCrack_17 : decode cX6_isBesideCrack 17 = .ok (.getfield 40, 3) := by decide +kernel
theorem dX6_isBesideCrack_20 : decode cX6_isBesideCrack 20 = .ok (.iload_n 1, 1) := by decide +kernel
theorem dX6_isBesideCrack_21 : decode cX6_isBesideCrack 21 = .ok (.iload_n 2, 1) := by decide +kernel
theorem dX6_isBesideCrack_22 : decode cX6_isBesideCrack 22 = .ok (.invokestatic 116, 3) := by decide +kernel
theorem dX6_isBesideCrack_25 : decode cX6_isBesideCrack 25 = .ok (.baload, 1) := by decide +kernel
theorem dX6_isBesideCrack_26 : decode cX6_isBesideCrack 26 = .ok (.ifCond .eq 5, 3) := by decide +kernel
theorem dX6_isBesideCrack_29 : decode cX6_isBesideCrack 29 = .ok (.iconst 1, 1) := by decide +kernel
theorem dX6_isBesideCrack_30 : decode cX6_isBesideCrack 30 = .ok (.ireturn, 1) := by decide +kernel
theorem dX6_isBesideCrack_31 : decode cX6_isBesideCrack 31 = .ok (.iinc 2 1, 3) := by decide +kernel
theorem dX6_isBesideCrack_34 : decode cX6_isBesideCrack 34 = .ok (.goto (-32), 3) := by decide +kernel
theorem dX6_isBesideCrack_37 : decode cX6_isBesideCrack 37 = .ok (.iconst 0, 1) := by decide +kernel
theorem dX6_isBesideCrack_38 : decode cX6_isBesideCrack 38 = .ok (.ireturn, 1) := by decide +kernel
theorem dX6_frost_0 : decode cX6_frost 0 = .ok (.iconst 0, 1) := by decide +kernel
theorem dX6_frost_1 : decode cX6_frost 1 = .ok (.istore_n 2, 1) := by decide +kernel
theorem dX6_frost_2 : decode cX6_frost 2 = .ok (.iload_n 2, 1) := by decide +kernel
theorem dX6_frost_3 : decode cX6_frost 3 = .ok (.sipush 160, 3) := by decide +kernel
theorem dX6_frost_6 : decode cX6_frost 6 = .ok (.if_icmp .ge 30, 3) := by decide +kernel
theorem dX6_frost_9 : decode cX6_frost 9 = .ok (.aload_n 0, 1) := by decide +kernel
theorem dX6_frost_10 : decode cX6_frost 10 = .ok (.getfield 40, 3) := by decide +kernel
theorem dX6_frost_13 : decode cX6_frost 13 = .ok (.iload_n 2, 1) := by decide +kernel
theorem dX6_frost_14 : decode cX6_frost 14 = .ok (.aload_n 0, 1) := by decide +kernel
theorem dX6_frost_15 : decode cX6_frost 15 = .ok (.getfield 25, 3) := by decide +kernel
theorem dX6_frost_18 : decode cX6_frost 18 = .ok (.iload_n 2, 1) := by decide +kernel
theorem dX6_frost_19 : decode cX6_frost 19 = .ok (.iaload, 1) := by decide +kernel
theorem dX6_frost_20 : decode cX6_frost 20 = .ok (.iconst 1, 1) := by decide +kernel
theorem dX6_frost_21 : decode cX6_frost 21 = .ok (.if_icmp .ne 7, 3) := by decide +kernel
theorem dX6_frost_24 : decode cX6_frost 24 = .ok (.iconst 1, 1) := by decide +kernel
theorem dX6_frost_25 : decode cX6_frost 25 = .ok (.goto 4, 3) := by decide +kernel
theorem dX6_frost_28 : decode cX6_frost 28 = .ok (.iconst 0, 1) := by decide +kernel
theorem dX6_frost_29 : decode cX6_frost 29 = .ok (.bastore, 1) := by decide +kernel
theorem dX6_frost_30 : decode cX6_frost 30 = .ok (.iinc 2 1, 3) := by decide +kernel
theorem dX6_frost_33 : decode cX6_frost 33 = .ok (.goto (-31), 3) := by decide +kernel
theorem dX6_frost_36 : decode cX6_frost 36 = .ok (.iconst 0, 1) := by decide +kernel
theorem dX6_frost_37 : decode cX6_frost 37 = .ok (.istore_n 2, 1) := by decide +kernel
theorem dX6_frost_38 : decode cX6_frost 38 = .ok (.iload_n 2, 1) := by decide +kernel
theorem dX6_frost_39 : decode cX6_frost 39 = .ok (.sipush 160, 3) := by decide +kernel
theorem dX6_frost_42 : decode cX6_frost 42 = .ok (.if_icmp .ge 131, 3) := by decide +kernel
theorem dX6_frost_45 : decode cX6_frost 45 = .ok (.aload_n 0, 1) := by decide +kernel
theorem dX6_frost_46 : decode cX6_frost 46 = .ok (.getfield 19, 3) := by decide +kernel
theorem dX6_frost_49 : decode cX6_frost 49 = .ok (.iload_n 2, 1) := by decide +kernel
theorem dX6_frost_50 : decode cX6_frost 50 = .ok (.iaload, 1) := by decide +kernel
theorem dX6_frost_51 : decode cX6_frost 51 = .ok (.iconst (-1), 1) := by decide +kernel
theorem dX6_frost_52 : decode cX6_frost 52 = .ok (.if_icmp .ne 6, 3) := by decide +kernel
theorem dX6_frost_55 : decode cX6_frost 55 = .ok (.goto 112, 3) := by decide +kernel
theorem dX6_frost_58 : decode cX6_frost 58 = .ok (.iload_n 1, 1) := by decide +kernel
theorem dX6_frost_59 : decode cX6_frost 59 = .ok (.ifCond .le 60, 3) := by decide +kernel
theorem dX6_frost_62 : decode cX6_frost 62 = .ok (.aload_n 0, 1) := by decide +kernel
theorem dX6_frost_63 : decode cX6_frost 63 = .ok (.getfield 19, 3) := by decide +kernel
theorem dX6_frost_66 : decode cX6_frost 66 = .ok (.iload_n 2, 1) := by decide +kernel
theorem dX6_frost_67 : decode cX6_frost 67 = .ok (.sipush 200, 3) := by decide +kernel
theorem dX6_frost_70 : decode cX6_frost 70 = .ok (.aload_n 0, 1) := by decide +kernel
theorem dX6_frost_71 : decode cX6_frost 71 = .ok (.getfield 19, 3) := by decide +kernel
theorem dX6_frost_74 : decode cX6_frost 74 = .ok (.iload_n 2, 1) := by decide +kernel
theorem dX6_frost_75 : decode cX6_frost 75 = .ok (.iaload, 1) := by decide +kernel
theorem dX6_frost_76 : decode cX6_frost 76 = .ok (.iload_n 1, 1) := by decide +kernel
theorem dX6_frost_77 : decode cX6_frost 77 = .ok (.bipush 12, 2) := by decide +kernel
theorem dX6_frost_79 : decode cX6_frost 79 = .ok (.imul, 1) := by decide +kernel
theorem dX6_frost_80 : decode cX6_frost 80 = .ok (.bipush 6, 2) := by decide +kernel
theorem dX6_frost_82 : decode cX6_frost 82 = .ok (.aload_n 0, 1) := by decide +kernel
theorem dX6_frost_83 : decode cX6_frost 83 = .ok (.getfield 19, 3) := by decide +kernel
theorem dX6_frost_86 : decode cX6_frost 86 = .ok (.iload_n 2, 1) := by decide +kernel
theorem dX6_frost_87 : decode cX6_frost 87 = .ok (.iaload, 1) := by decide +kernel
theorem dX6_frost_88 : decode cX6_frost 88 = .ok (.bipush 10, 2) := by decide +kernel
theorem dX6_frost_90 : decode cX6_frost 90 = .ok (.idiv, 1) := by decide +kernel
theorem dX6_frost_91 : decode cX6_frost 91 = .ok (.iadd, 1) := by decide +kernel
theorem dX6_frost_92 : decode cX6_frost 92 = .ok (.idiv, 1) := by decide +kernel
theorem dX6_frost_93 : decode cX6_frost 93 = .ok (.iadd, 1) := by decide +kernel
theorem dX6_frost_94 : decode cX6_frost 94 = .ok (.invokestatic 136, 3) := by decide +kernel
theorem dX6_frost_97 : decode cX6_frost 97 = .ok (.iastore, 1) := by decide +kernel
theorem dX6_frost_98 : decode cX6_frost 98 = .ok (.aload_n 0, 1) := by decide +kernel
theorem dX6_frost_99 : decode cX6_frost 99 = .ok (.getfield 22, 3) := by decide +kernel
theorem dX6_frost_102 : decode cX6_frost 102 = .ok (.iload_n 2, 1) := by decide +kernel
theorem dX6_frost_103 : decode cX6_frost 103 = .ok (.iconst 0, 1) := by decide +kernel
theorem dX6_frost_104 : decode cX6_frost 104 = .ok (.aload_n 0, 1) := by decide +kernel
theorem dX6_frost_105 : decode cX6_frost 105 = .ok (.getfield 22, 3) := by decide +kernel
theorem dX6_frost_108 : decode cX6_frost 108 = .ok (.iload_n 2, 1) := by decide +kernel
theorem dX6_frost_109 : decode cX6_frost 109 = .ok (.iaload, 1) := by decide +kernel
theorem dX6_frost_110 : decode cX6_frost 110 = .ok (.iconst 2, 1) := by decide +kernel
theorem dX6_frost_111 : decode cX6_frost 111 = .ok (.isub, 1) := by decide +kernel
theorem dX6_frost_112 : decode cX6_frost 112 = .ok (.invokestatic 141, 3) := by decide +kernel
theorem dX6_frost_115 : decode cX6_frost 115 = .ok (.iastore, 1) := by decide +kernel
theorem dX6_frost_116 : decode cX6_frost 116 = .ok (.goto 51, 3) := by decide +kernel
theorem dX6_frost_119 : decode cX6_frost 119 = .ok (.iload_n 1, 1) := by decide +kernel
theorem dX6_frost_120 : decode cX6_frost 120 = .ok (.ifCond .ge 47, 3) := by decide +kernel
theorem dX6_frost_123 : decode cX6_frost 123 = .ok (.aload_n 0, 1) := by decide +kernel
theorem dX6_frost_124 : decode cX6_frost 124 = .ok (.getfield 19, 3) := by decide +kernel
theorem dX6_frost_127 : decode cX6_frost 127 = .ok (.iload_n 2, 1) := by decide +kernel
theorem dX6_frost_128 : decode cX6_frost 128 = .ok (.iconst 0, 1) := by decide +kernel
theorem dX6_frost_129 : decode cX6_frost 129 = .ok (.aload_n 0, 1) := by decide +kernel
theorem dX6_frost_130 : decode cX6_frost 130 = .ok (.getfield 19, 3) := by decide +kernel
theorem dX6_frost_133 : decode cX6_frost 133 = .ok (.iload_n 2, 1) := by decide +kernel
theorem dX6_frost_134 : decode cX6_frost 134 = .ok (.iaload, 1) := by decide +kernel
theorem dX6_frost_135 : decode cX6_frost 135 = .ok (.iconst 3, 1) := by decide +kernel
theorem dX6_frost_136 : decode cX6_frost 136 = .ok (.iload_n 1, 1) := by decide +kernel
theorem dX6_frost_137 : decode cX6_frost 137 = .ok (.imul, 1) := by decide +kernel
theorem dX6_frost_138 : decode cX6_frost 138 = .ok (.iadd, 1) := by decide +kernel
theorem dX6_frost_139 : decode cX6_frost 139 = .ok (.invokestatic 141, 3) := by decide +kernel
theorem dX6_frost_142 : decode cX6_frost 142 = .ok (.iastore, 1) := by decide +kernel
theorem dX6_frost_143 : decode cX6_frost 143 = .ok (.aload_n 0, 1) := by decide +kernel
theorem dX6_frost_144 : decode cX6_frost 144 = .ok (.getfield 22, 3) := by decide +kernel
theorem dX6_frost_147 : decode cX6_frost 147 = .ok (.iload_n 2, 1) := by decide +kernel
theorem dX6_frost_148 : decode cX6_frost 148 = .ok (.iaload, 1) := by decide +kernel
theorem dX6_frost_149 : decode cX6_frost 149 = .ok (.ifCond .le 18, 3) := by decide +kernel
theorem dX6_frost_152 : decode cX6_frost 152 = .ok (.aload_n 0, 1) := by decide +kernel
theorem dX6_frost_153 : decode cX6_frost 153 = .ok (.iload_n 2, 1) := by decide +kernel
theorem dX6_frost_154 : decode cX6_frost 154 = .ok (.invokevirtual 144, 3) := by decide +kernel
theorem dX6_frost_157 : decode cX6_frost 157 = .ok (.ifCond .eq 10, 3) := by decide +kernel
theorem dX6_frost_160 : decode cX6_frost 160 = .ok (.aload_n 0, 1) := by decide +kernel
theorem dX6_frost_161 : decode cX6_frost 161 = .ok (.getfield 25, 3) := by decide +kernel
theorem dX6_frost_164 : decode cX6_frost 164 = .ok (.iload_n 2, 1) := by decide +kernel
theorem dX6_frost_165 : decode cX6_frost 165 = .ok (.iconst 1, 1) := by decide +kernel
theorem dX6_frost_166 : decode cX6_frost 166 = .ok (.iastore, 1) := by decide +kernel
theorem dX6_frost_167 : decode cX6_frost 167 = .ok (.iinc 2 1, 3) := by decide +kernel
theorem dX6_frost_170 : decode cX6_frost 170 = .ok (.goto (-132), 3) := by decide +kernel
theorem dX6_frost_173 : decode cX6_frost 173 = .ok (.return_, 1) := by decide +kernel
theorem dX6_sink_0 : decode cX6_sink 0 = .ok (.aload_n 0, 1) := by decide +kernel
theorem dX6_sink_1 : decode cX6_sink 1 = .ok (.iload_n 1, 1) := by decide +kernel
theorem dX6_sink_2 : decode cX6_sink 2 = .ok (.iconst 2, 1) := by decide +kernel
theorem dX6_sink_3 : decode cX6_sink 3 = .ok (.iconst 2, 1) := by decide +kernel
theorem dX6_sink_4 : decode cX6_sink 4 = .ok (.invokevirtual 127, 3) := by decide +kernel
theorem dX6_sink_7 : decode cX6_sink 7 = .ok (.aload_n 0, 1) := by decide +kernel
theorem dX6_sink_8 : decode cX6_sink 8 = .ok (.iload_n 1, 1) := by decide +kernel
theorem dX6_sink_9 : decode cX6_sink 9 = .ok (.iconst 4, 1) := by decide +kernel
theorem dX6_sink_10 : decode cX6_sink 10 = .ok (.iconst (-1), 1) := by decide +kernel
theorem dX6_sink_11 : decode cX6_sink 11 = .ok (.invokevirtual 127, 3) := by decide +kernel
theorem dX6_sink_14 : decode cX6_sink 14 = .ok (.aload_n 0, 1) := by decide +kernel
theorem dX6_sink_15 : decode cX6_sink 15 = .ok (.iload_n 1, 1) := by decide +kernel
theorem dX6_sink_16 : decode cX6_sink 16 = .ok (.bipush 6, 2) := by decide +kernel
theorem dX6_sink_18 : decode cX6_sink 18 = .ok (.iconst 0, 1) := by decide +kernel
theorem dX6_sink_19 : decode cX6_sink 19 = .ok (.invokevirtual 127, 3) := by decide +kernel
theorem dX6_sink_22 : decode cX6_sink 22 = .ok (.iconst 0, 1) := by decide +kernel
theorem dX6_sink_23 : decode cX6_sink 23 = .ok (.istore_n 2, 1) := by decide +kernel
theorem dX6_sink_24 : decode cX6_sink 24 = .ok (.iload_n 2, 1) := by decide +kernel
theorem dX6_sink_25 : decode cX6_sink 25 = .ok (.aload_n 0, 1) := by decide +kernel
theorem dX6_sink_26 : decode cX6_sink 26 = .ok (.getfield 90, 3) := by decide +kernel
theorem dX6_sink_29 : decode cX6_sink 29 = .ok (.if_icmp .ge 25, 3) := by decide +kernel
theorem dX6_sink_32 : decode cX6_sink 32 = .ok (.aload_n 0, 1) := by decide +kernel
theorem dX6_sink_33 : decode cX6_sink 33 = .ok (.iload_n 2, 1) := by decide +kernel
theorem dX6_sink_34 : decode cX6_sink 34 = .ok (.iload_n 1, 1) := by decide +kernel
theorem dX6_sink_35 : decode cX6_sink 35 = .ok (.invokevirtual 96, 3) := by decide +kernel
theorem dX6_sink_38 : decode cX6_sink 38 = .ok (.ifCond .eq 10, 3) := by decide +kernel
theorem dX6_sink_41 : decode cX6_sink 41 = .ok (.aload_n 0, 1) := by decide +kernel
theorem dX6_sink_42 : decode cX6_sink 42 = .ok (.iload_n 2, 1) := by decide +kernel
theorem dX6_sink_43 : decode cX6_sink 43 = .ok (.iconst 3, 1) := by decide +kernel
theorem dX6_sink_44 : decode cX6_sink 44 = .ok (.iconst (-1), 1) := by decide +kernel
theorem dX6_sink_45 : decode cX6_sink 45 = .ok (.invokevirtual 102, 3) := by decide +kernel
theorem dX6_sink_48 : decode cX6_sink 48 = .ok (.iinc 2 1, 3) := by decide +kernel
theorem dX6_sink_51 : decode cX6_sink 51 = .ok (.goto (-27), 3) := by decide +kernel
theorem dX6_sink_54 : decode cX6_sink 54 = .ok (.return_, 1) := by decide +kernel
theorem dX6_goOn_0 : decode cX6_goOn 0 = .ok (.aload_n 0, 1) := by decide +kernel
theorem dX6_goOn_1 : decode cX6_goOn 1 = .ok (.iload_n 1, 1) := by decide +kernel
theorem dX6_goOn_2 : decode cX6_goOn 2 = .ok (.iconst 2, 1) := by decide +kernel
theorem dX6_goOn_3 : decode cX6_goOn 3 = .ok (.invokevirtual 62, 3) := by decide +kernel
theorem dX6_goOn_6 : decode cX6_goOn 6 = .ok (.iconst 1, 1) := by decide +kernel
theorem dX6_goOn_7 : decode cX6_goOn 7 = .ok (.if_icmp .ne 13, 3) := by decide +kernel
theorem dX6_goOn_10 : decode cX6_goOn 10 = .ok (.aload_n 0, 1) := by decide +kernel
theorem dX6_goOn_11 : decode cX6_goOn 11 = .ok (.iload_n 1, 1) := by decide +kernel
theorem dX6_goOn_12 : decode cX6_goOn 12 = .ok (.bipush 6, 2) := by decide +kernel
theorem dX6_goOn_14 : decode cX6_goOn 14 = .ok (.invokevirtual 62, 3) := by decide +kernel
theorem dX6_goOn_17 : decode cX6_goOn 17 = .ok (.ifCond .ne 5, 3) := by decide +kernel
theorem dX6_goOn_20 : decode cX6_goOn 20 = .ok (.iconst 0, 1) := by decide +kernel
theorem dX6_goOn_21 : decode cX6_goOn 21 = .ok (.ireturn, 1) := by decide +kernel
theorem dX6_goOn_22 : decode cX6_goOn 22 = .ok (.aload_n 0, 1) := by decide +kernel
theorem dX6_goOn_23 : decode cX6_goOn 23 = .ok (.iload_n 1, 1) := by decide +kernel
theorem dX6_goOn_24 : decode cX6_goOn 24 = .ok (.bipush 6, 2) := by decide +kernel
theorem dX6_goOn_26 : decode cX6_goOn 26 = .ok (.aload_n 0, 1) := by decide +kernel
theorem dX6_goOn_27 : decode cX6_goOn 27 = .ok (.iload_n 1, 1) := by decide +kernel
theorem dX6_goOn_28 : decode cX6_goOn 28 = .ok (.bipush 6, 2) := by decide +kernel
theorem dX6_goOn_30 : decode cX6_goOn 30 = .ok (.invokevirtual 62, 3) := by decide +kernel
theorem dX6_goOn_33 : decode cX6_goOn 33 = .ok (.iconst 1, 1) := by decide +kernel
theorem dX6_goOn_34 : decode cX6_goOn 34 = .ok (.isub, 1) := by decide +kernel
theorem dX6_goOn_35 : decode cX6_goOn 35 = .ok (.invokevirtual 127, 3) := by decide +kernel
theorem dX6_goOn_38 : decode cX6_goOn 38 = .ok (.aload_n 0, 1) := by decide +kernel
theorem dX6_goOn_39 : decode cX6_goOn 39 = .ok (.iload_n 1, 1) := by decide +kernel
theorem dX6_goOn_40 : decode cX6_goOn 40 = .ok (.bipush 6, 2) := by decide +kernel
theorem dX6_goOn_42 : decode cX6_goOn 42 = .ok (.invokevirtual 62, 3) := by decide +kernel
theorem dX6_goOn_45 : decode cX6_goOn 45 = .ok (.ifCond .le 5, 3) := by decide +kernel
theorem dX6_goOn_48 : decode cX6_goOn 48 = .ok (.iconst 0, 1) := by decide +kernel
theorem dX6_goOn_49 : decode cX6_goOn 49 = .ok (.ireturn, 1) := by decide +kernel
theorem dX6_goOn_50 : decode cX6_goOn 50 = .ok (.aload_n 0, 1) := by decide +kernel
theorem dX6_goOn_51 : decode cX6_goOn 51 = .ok (.iload_n 1, 1) := by decide +kernel
theorem dX6_goOn_52 : decode cX6_goOn 52 = .ok (.iconst 3, 1) := by decide +kernel
theorem dX6_goOn_53 : decode cX6_goOn 53 = .ok (.aload_n 0, 1) := by decide +kernel
theorem dX6_goOn_54 : decode cX6_goOn 54 = .ok (.iload_n 1, 1) := by decide +kernel
theorem dX6_goOn_55 : decode cX6_goOn 55 = .ok (.iconst 5, 1) := by decide +kernel
theorem dX6_goOn_56 : decode cX6_goOn 56 = .ok (.invokevirtual 62, 3) := by decide +kernel
theorem dX6_goOn_59 : decode cX6_goOn 59 = .ok (.invokevirtual 127, 3) := by decide +kernel
theorem dX6_goOn_62 : decode cX6_goOn 62 = .ok (.aload_n 0, 1) := by decide +kernel
theorem dX6_goOn_63 : decode cX6_goOn 63 = .ok (.iload_n 1, 1) := by decide +kernel
theorem dX6_goOn_64 : decode cX6_goOn 64 = .ok (.iconst 1, 1) := by decide +kernel
theorem dX6_goOn_65 : decode cX6_goOn 65 = .ok (.bipush 100, 2) := by decide +kernel
theorem dX6_goOn_67 : decode cX6_goOn 67 = .ok (.aload_n 0, 1) := by decide +kernel
theorem dX6_goOn_68 : decode cX6_goOn 68 = .ok (.iload_n 1, 1) := by decide +kernel
theorem dX6_goOn_69 : decode cX6_goOn 69 = .ok (.iconst 1, 1) := by decide +kernel
theorem dX6_goOn_70 : decode cX6_goOn 70 = .ok (.invokevirtual 62, 3) := by decide +kernel
theorem dX6_goOn_73 : decode cX6_goOn 73 = .ok (.iconst 1, 1) := by decide +kernel
theorem dX6_goOn_74 : decode cX6_goOn 74 = .ok (.iadd, 1) := by decide +kernel
theorem dX6_goOn_75 : decode cX6_goOn 75 = .ok (.invokestatic 136, 3) := by decide +kernel
theorem dX6_goOn_78 : decode cX6_goOn 78 = .ok (.invokevirtual 127, 3) := by decide +kernel
theorem dX6_goOn_81 : decode cX6_goOn 81 = .ok (.aload_n 0, 1) := by decide +kernel
theorem dX6_goOn_82 : decode cX6_goOn 82 = .ok (.iload_n 1, 1) := by decide +kernel
theorem dX6_goOn_83 : decode cX6_goOn 83 = .ok (.iconst 4, 1) := by decide +kernel
theorem dX6_goOn_84 : decode cX6_goOn 84 = .ok (.invokevirtual 62, 3) := by decide +kernel
theorem dX6_goOn_87 : decode cX6_goOn 87 = .ok (.istore_n 2, 1) := by decide +kernel
theorem dX6_goOn_88 : decode cX6_goOn 88 = .ok (.aload_n 0, 1) := by decide +kernel
theorem dX6_goOn_89 : decode cX6_goOn 89 = .ok (.iload_n 1, 1) := by decide +kernel
theorem dX6_goOn_90 : decode cX6_goOn 90 = .ok (.iconst 3, 1) := by decide +kernel
theorem dX6_goOn_91 : decode cX6_goOn 91 = .ok (.invokevirtual 62, 3) := by decide +kernel
theorem dX6_goOn_94 : decode cX6_goOn 94 = .ok (.aload_n 0, 1) := by decide +kernel
theorem dX6_goOn_95 : decode cX6_goOn 95 = .ok (.getfield 16, 3) := by decide +kernel
theorem dX6_goOn_98 : decode cX6_goOn 98 = .ok (.iload_n 2, 1) := by decide +kernel
theorem dX6_goOn_99 : decode cX6_goOn 99 = .ok (.iaload, 1) := by decide +kernel
theorem dX6_goOn_100 : decode cX6_goOn 100 = .ok (.if_icmp .eq 5, 3) := by decide +kernel
theorem dX6_goOn_103 : decode cX6_goOn 103 = .ok (.iconst 0, 1) := by decide +kernel
theorem dX6_goOn_104 : decode cX6_goOn 104 = .ok (.ireturn, 1) := by decide +kernel
theorem dX6_goOn_105 : decode cX6_goOn 105 = .ok (.aload_n 0, 1) := by decide +kernel
theorem dX6_goOn_106 : decode cX6_goOn 106 = .ok (.iload_n 1, 1) := by decide +kernel
theorem dX6_goOn_107 : decode cX6_goOn 107 = .ok (.iconst 2, 1) := by decide +kernel
theorem dX6_goOn_108 : decode cX6_goOn 108 = .ok (.iconst 0, 1) := by decide +kernel
theorem dX6_goOn_109 : decode cX6_goOn 109 = .ok (.invokevirtual 127, 3) := by decide +kernel
theorem dX6_goOn_112 : decode cX6_goOn 112 = .ok (.iconst 0, 1) := by decide +kernel
theorem dX6_goOn_113 : decode cX6_goOn 113 = .ok (.istore_n 3, 1) := by decide +kernel
theorem dX6_goOn_114 : decode cX6_goOn 114 = .ok (.iconst 0, 1) := by decide +kernel
theorem dX6_goOn_115 : decode cX6_goOn 115 = .ok (.istore 4, 2) := by decide +kernel
theorem dX6_goOn_117 : decode cX6_goOn 117 = .ok (.iload 4, 2) := by decide +kernel
theorem dX6_goOn_119 : decode cX6_goOn 119 = .ok (.aload_n 0, 1) := by decide +kernel
theorem dX6_goOn_120 : decode cX6_goOn 120 = .ok (.getfield 90, 3) := by decide +kernel
theorem dX6_goOn_123 : decode cX6_goOn 123 = .ok (.if_icmp .ge 85, 3) := by decide +kernel
theorem dX6_goOn_126 : decode cX6_goOn 126 = .ok (.aload_n 0, 1) := by decide +kernel
theorem dX6_goOn_127 : decode cX6_goOn 127 = .ok (.iload 4, 2) := by decide +kernel
theorem dX6_goOn_129 : decode cX6_goOn 129 = .ok (.iload_n 1, 1) := by decide +kernel
theorem dX6_goOn_130 : decode cX6_goOn 130 = .ok (.invokevirtual 96, 3) := by decide +kernel
theorem dX6_goOn_133 : decode cX6_goOn 133 = .ok (.ifCond .ne 6, 3) := by decide +kernel
theorem dX6_goOn_136 : decode cX6_goOn 136 = .ok (.goto 66, 3) := by decide +kernel
theorem dX6_goOn_139 : decode cX6_goOn 139 = .ok (.aload_n 0, 1) := by decide +kernel
theorem dX6_goOn_140 : decode cX6_goOn 140 = .ok (.iload 4, 2) := by decide +kernel
theorem dX6_goOn_142 : decode cX6_goOn 142 = .ok (.iconst 1, 1) := by decide +kernel
theorem dX6_goOn_143 : decode cX6_goOn 143 = .ok (.invokevirtual 93, 3) := by decide +kernel
theorem dX6_goOn_146 : decode cX6_goOn 146 = .ok (.iload_n 2, 1) := by decide +kernel
theorem dX6_goOn_147 : decode cX6_goOn 147 = .ok (.if_icmp .ne 7, 3) := by decide +kernel
theorem dX6_goOn_150 : decode cX6_goOn 150 = .ok (.iconst 1, 1) := by decide +kernel
theorem dX6_goOn_151 : decode cX6_goOn 151 = .ok (.goto 4, 3) := by decide +kernel
theorem dX6_goOn_154 : decode cX6_goOn 154 = .ok (.iconst 0, 1) := by decide +kernel
theorem dX6_goOn_155 : decode cX6_goOn 155 = .ok (.istore 5, 2) := by decide +kernel
theorem dX6_goOn_157 : decode cX6_goOn 157 = .ok (.aload_n 0, 1) := by decide +kernel
theorem dX6_goOn_158 : decode cX6_goOn 158 = .ok (.iload 4, 2) := by decide +kernel
theorem dX6_goOn_160 : decode cX6_goOn 160 = .ok (.iload 5, 2) := by decide +kernel
theorem dX6_goOn_162 : decode cX6_goOn 162 = .ok (.ifCond .eq 7, 3) := by decide +kernel
theorem dX6_goOn_165 : decode cX6_goOn 165 = .ok (.iconst 2, 1) := by decide +kernel
theorem dX6_goOn_166 : decode cX6_goOn 166 = .ok (.goto 4, 3) := by decide +kernel
theorem dX6_goOn_169 : decode cX6_goOn 169 = .ok (.iconst 0, 1) := by decide +kernel
theorem dX6_goOn_170 : decode cX6_goOn 170 = .ok (.iload_n 2, 1) := by decide +kernel
theorem dX6_goOn_171 : decode cX6_goOn 171 = .ok (.invokevirtual 102, 3) := by decide +kernel
theorem dX6_goOn_174 : decode cX6_goOn 174 = .ok (.iload 5, 2) := by decide +kernel
theorem dX6_goOn_176 : decode cX6_goOn 176 = .ok (.ifCond .ne 6, 3) := by decide +kernel
theorem dX6_goOn_179 : decode cX6_goOn 179 = .ok (.goto 23, 3) := by decide +kernel
theorem dX6_goOn_182 : decode cX6_goOn 182 = .ok (.aload_n 0, 1) := by decide +kernel
theorem dX6_goOn_183 : decode cX6_goOn 183 = .ok (.getfield 31, 3) := by decide +kernel
theorem dX6_goOn_186 : decode cX6_goOn 186 = .ok (.iconst 5, 1) := by decide +kernel
theorem dX6_goOn_187 : decode cX6_goOn 187 = .ok (.iload 4, 2) := by decide +kernel
theorem dX6_goOn_189 : decode cX6_goOn 189 = .ok (.imul, 1) := by decide +kernel
theorem dX6_goOn_190 : decode cX6_goOn 190 = .ok (.iconst 4, 1) := by decide +kernel
theorem dX6_goOn_191 : decode cX6_goOn 191 = .ok (.iadd, 1) := by decide +kernel
theorem dX6_goOn_192 : decode cX6_goOn 192 = .ok (.aload_n 0, 1) := by decide +kernel
theorem dX6_goOn_193 : decode cX6_goOn 193 = .ok (.getfield 34, 3) := by decide +kernel
theorem dX6_goOn_196 : decode cX6_goOn 196 = .ok (.iconst 0, 1) := by decide +kernel
theorem dX6_goOn_197 : decode cX6_goOn 197 = .ok (.iaload, 1) := by decide +kernel
theorem dX6_goOn_198 : decode cX6_goOn 198 = .ok (.iastore, 1) := by decide +kernel
theorem dX6_goOn_199 : decode cX6_goOn 199 = .ok (.iinc 3 1, 3) := by decide +kernel
theorem dX6_goOn_202 : decode cX6_goOn 202 = .ok (.iinc 4 1, 3) := by decide +kernel
theorem dX6_goOn_205 : decode cX6_goOn 205 = .ok (.goto (-88), 3) := by decide +kernel
theorem dX6_goOn_208 : decode cX6_goOn 208 = .ok (.iload_n 3, 1) := by decide +kernel
theorem dX6_goOn_209 : decode cX6_goOn 209 = .ok (.ireturn, 1) := by decide +kernel
theorem dX6_setOut_0 : decode cX6_setOut 0 = .ok (.aload_n 0, 1) := by decide +kernel
theorem dX6_setOut_1 : decode cX6_setOut 1 = .ok (.iload_n 1, 1) := by decide +kernel
theorem dX6_setOut_2 : decode cX6_setOut 2 = .ok (.iconst 2, 1) := by decide +kernel
theorem dX6_setOut_3 : decode cX6_setOut 3 = .ok (.invokevirtual 62, 3) := by decide +kernel
theorem dX6_setOut_6 : decode cX6_setOut 6 = .ok (.iconst 1, 1) := by decide +kernel
theorem dX6_setOut_7 : decode cX6_setOut 7 = .ok (.if_icmp .ne 22, 3) := by decide +kernel
theorem dX6_setOut_10 : decode cX6_setOut 10 = .ok (.aload_n 0, 1) := by decide +kernel
theorem dX6_setOut_11 : decode cX6_setOut 11 = .ok (.iload_n 1, 1) := by decide +kernel
theorem dX6_setOut_12 : decode cX6_setOut 12 = .ok (.bipush 6, 2) := by decide +kernel
theorem dX6_setOut_14 : decode cX6_setOut 14 = .ok (.invokevirtual 62, 3) := by decide +kernel
theorem dX6_setOut_17 : decode cX6_setOut 17 = .ok (.ifCond .gt 12, 3) := by decide +kernel
theorem dX6_setOut_20 : decode cX6_setOut 20 = .ok (.aload_n 0, 1) := by decide +kernel
theorem dX6_setOut_21 : decode cX6_setOut 21 = .ok (.iload_n 1, 1) := by decide +kernel
theorem dX6_setOut_22 : decode cX6_setOut 22 = .ok (.invokevirtual 130, 3) := by decide +kernel
theorem dX6_setOut_25 : decode cX6_setOut 25 = .ok (.iconst (-1), 1) := by decide +kernel
theorem dX6_setOut_26 : decode cX6_setOut 26 = .ok (.if_icmp .ne 4, 3) := by decide +kernel
theorem dX6_setOut_29 : decode cX6_setOut 29 = .ok (.return_, 1) := by decide +kernel
theorem dX6_setOut_30 : decode cX6_setOut 30 = .ok (.aload_n 0, 1) := by decide +kernel
theorem dX6_setOut_31 : decode cX6_setOut 31 = .ok (.iload_n 1, 1) := by decide +kernel
theorem dX6_setOut_32 : decode cX6_setOut 32 = .ok (.iconst 3, 1) := by decide +kernel
theorem dX6_setOut_33 : decode cX6_setOut 33 = .ok (.invokevirtual 62, 3) := by decide +kernel
theorem dX6_setOut_36 : decode cX6_setOut 36 = .ok (.istore_n 2, 1) := by decide +kernel
theorem dX6_setOut_37 : decode cX6_setOut 37 = .ok (.aload_n 0, 1) := by decide +kernel
theorem dX6_setOut_38 : decode cX6_setOut 38 = .ok (.iload_n 1, 1) := by decide +kernel
theorem dX6_setOut_39 : decode cX6_setOut 39 = .ok (.invokevirtual 106, 3) := by decide +kernel
theorem dX6_setOut_42 : decode cX6_setOut 42 = .ok (.istore_n 3, 1) := by decide +kernel
theorem dX6_setOut_43 : decode cX6_setOut 43 = .ok (.iconst 3, 1) := by decide +kernel
theorem dX6_setOut_44 : decode cX6_setOut 44 = .ok (.istore 4, 2) := by decide +kernel
theorem dX6_setOut_46 : decode cX6_setOut 46 = .ok (.iload 4, 2) := by decide +kernel
theorem dX6_setOut_48 : decode cX6_setOut 48 = .ok (.ifCond .lt 80, 3) := by decide +kernel
theorem dX6_setOut_51 : decode cX6_setOut 51 = .ok (.iload_n 2, 1) := by decide +kernel
theorem dX6_setOut_52 : decode cX6_setOut 52 = .ok (.iload 4, 2) := by decide +kernel
theorem dX6_setOut_54 : decode cX6_setOut 54 = .ok (.invokestatic 116, 3) := by decide +kernel
theorem dX6_setOut_57 : decode cX6_setOut 57 = .ok (.istore 5, 2) := by decide +kernel
theorem dX6_setOut_59 : decode cX6_setOut 59 = .ok (.iload 5, 2) := by decide +kernel
theorem dX6_setOut_61 : decode cX6_setOut 61 = .ok (.iconst (-1), 1) := by decide +kernel
theorem dX6_setOut_62 : decode cX6_setOut 62 = .ok (.if_icmp .eq 60, 3) := by decide +kernel
theorem dX6_setOut_65 : decode cX6_setOut 65 = .ok (.aload_n 0, 1) := by decide +kernel
theorem dX6_setOut_66 : decode cX6_setOut 66 = .ok (.iload 5, 2) := by decide +kernel
theorem dX6_setOut_68 : decode cX6_setOut 68 = .ok (.iload_n 3, 1) := by decide +kernel
theorem dX6_setOut_69 : decode cX6_setOut 69 = .ok (.invokevirtual 113, 3) := by decide +kernel
theorem dX6_setOut_72 : decode cX6_setOut 72 = .ok (.ifCond .eq 50, 3) := by decide +kernel
theorem dX6_setOut_75 : decode cX6_setOut 75 = .ok (.aload_n 0, 1) := by decide +kernel
theorem dX6_setOut_76 : decode cX6_setOut 76 = .ok (.getfield 37, 3) := by decide +kernel
theorem dX6_setOut_79 : decode cX6_setOut 79 = .ok (.iload 5, 2) := by decide +kernel
theorem dX6_setOut_81 : decode cX6_setOut 81 = .ok (.iaload, 1) := by decide +kernel
theorem dX6_setOut_82 : decode cX6_setOut 82 = .ok (.aload_n 0, 1) := by decide +kernel
theorem dX6_setOut_83 : decode cX6_setOut 83 = .ok (.iload 5, 2) := by decide +kernel
theorem dX6_setOut_85 : decode cX6_setOut 85 = .ok (.iload_n 3, 1) := by decide +kernel
theorem dX6_setOut_86 : decode cX6_setOut 86 = .ok (.aload_n 0, 1) := by decide +kernel
theorem dX6_setOut_87 : decode cX6_setOut 87 = .ok (.iload_n 1, 1) := by decide +kernel
theorem dX6_setOut_88 : decode cX6_setOut 88 = .ok (.iconst 0, 1) := by decide +kernel
theorem dX6_setOut_89 : decode cX6_setOut 89 = .ok (.invokevirtual 62, 3) := by decide +kernel
theorem dX6_setOut_92 : decode cX6_setOut 92 = .ok (.aload_n 0, 1) := by decide +kernel
theorem dX6_setOut_93 : decode cX6_setOut 93 = .ok (.iload_n 1, 1) := by decide +kernel
theorem dX6_setOut_94 : decode cX6_setOut 94 = .ok (.iconst 1, 1) := by decide +kernel
theorem dX6_setOut_95 : decode cX6_setOut 95 = .ok (.invokevirtual 62, 3) := by decide +kernel
theorem dX6_setOut_98 : decode cX6_setOut 98 = .ok (.invokevirtual 119, 3) := by decide +kernel
theorem dX6_setOut_101 : decode cX6_setOut 101 = .ok (.iadd, 1) := by decide +kernel
theorem dX6_setOut_102 : decode cX6_setOut 102 = .ok (.aload_n 0, 1) := by decide +kernel
theorem dX6_setOut_103 : decode cX6_setOut 103 = .ok (.getfield 37, 3) := by decide +kernel
theorem dX6_setOut_106 : decode cX6_setOut 106 = .ok (.iload_n 2, 1) := by decide +kernel
theorem dX6_setOut_107 : decode cX6_setOut 107 = .ok (.iaload, 1) := by decide +kernel
theorem dX6_setOut_108 : decode cX6_setOut 108 = .ok (.if_icmp .eq 6, 3) := by decide +kernel
theorem dX6_setOut_111 : decode cX6_setOut 111 = .ok (.goto 11, 3) := by decide +kernel
theorem dX6_setOut_114 : decode cX6_setOut 114 = .ok (.aload_n 0, 1) := by decide +kernel
theorem dX6_setOut_115 : decode cX6_setOut 115 = .ok (.iload_n 1, 1) := by decide +kernel
theorem dX6_setOut_116 : decode cX6_setOut 116 = .ok (.iconst 5, 1) := by decide +kernel
theorem dX6_setOut_117 : decode cX6_setOut 117 = .ok (.iload 5, 2) := by decide +kernel
theorem dX6_setOut_119 : decode cX6_setOut 119 = .ok (.invokevirtual 127, 3) := by decide +kernel
theorem dX6_setOut_122 : decode cX6_setOut 122 = .ok (.iinc 4 (-1), 3) := by decide +kernel
theorem dX6_setOut_125 : decode cX6_setOut 125 = .ok (.goto (-79), 3) := by decide +kernel
theorem dX6_setOut_128 : decode cX6_setOut 128 = .ok (.aload_n 0, 1) := by decide +kernel
theorem dX6_setOut_129 : decode cX6_setOut 129 = .ok (.iload_n 1, 1) := by decide +kernel
theorem dX6_setOut_130 : decode cX6_setOut 130 = .ok (.bipush 6, 2) := by decide +kernel
theorem dX6_setOut_132 : decode cX6_setOut 132 = .ok (.aload_n 0, 1) := by decide +kernel
theorem dX6_setOut_133 : decode cX6_setOut 133 = .ok (.aload_n 0, 1) := by decide +kernel
theorem dX6_setOut_134 : decode cX6_setOut 134 = .ok (.iload_n 1, 1) := by decide +kernel
theorem dX6_setOut_135 : decode cX6_setOut 135 = .ok (.iconst 5, 1) := by decide +kernel
theorem dX6_setOut_136 : decode cX6_setOut 136 = .ok (.invokevirtual 62, 3) := by decide +kernel
theorem dX6_setOut_139 : decode cX6_setOut 139 = .ok (.iload_n 3, 1) := by decide +kernel
theorem dX6_setOut_140 : decode cX6_setOut 140 = .ok (.aload_n 0, 1) := by decide +kernel
theorem dX6_setOut_141 : decode cX6_setOut 141 = .ok (.iload_n 1, 1) := by decide +kernel
theorem dX6_setOut_142 : decode cX6_setOut 142 = .ok (.iconst 0, 1) := by decide +kernel
theorem dX6_setOut_143 : decode cX6_setOut 143 = .ok (.invokevirtual 62, 3) := by decide +kernel
theorem dX6_setOut_146 : decode cX6_setOut 146 = .ok (.aload_n 0, 1) := by decide +kernel
theorem dX6_setOut_147 : decode cX6_setOut 147 = .ok (.iload_n 1, 1) := by decide +kernel
theorem dX6_setOut_148 : decode cX6_setOut 148 = .ok (.iconst 1, 1) := by decide +kernel
theorem dX6_setOut_149 : decode cX6_setOut 149 = .ok (.invokevirtual 62, 3) := by decide +kernel
theorem dX6_setOut_152 : decode cX6_setOut 152 = .ok (.invokevirtual 119, 3) := by decide +kernel
theorem dX6_setOut_155 : decode cX6_setOut 155 = .ok (.invokevirtual 127, 3) := by decide +kernel
theorem dX6_setOut_158 : decode cX6_setOut 158 = .ok (.aload_n 0, 1) := by decide +kernel
theorem dX6_setOut_159 : decode cX6_setOut 159 = .ok (.getfield 19, 3) := by decide +kernel
theorem dX6_setOut_162 : decode cX6_setOut 162 = .ok (.iload_n 2, 1) := by decide +kernel
theorem dX6_setOut_163 : decode cX6_setOut 163 = .ok (.iaload, 1) := by decide +kernel
theorem dX6_setOut_164 : decode cX6_setOut 164 = .ok (.iconst (-1), 1) := by decide +kernel
theorem dX6_setOut_165 : decode cX6_setOut 165 = .ok (.if_icmp .eq 21, 3) := by decide +kernel
theorem dX6_setOut_168 : decode cX6_setOut 168 = .ok (.aload_n 0, 1) := by decide +kernel
theorem dX6_setOut_169 : decode cX6_setOut 169 = .ok (.getfield 19, 3) := by decide +kernel
theorem dX6_setOut_172 : decode cX6_setOut 172 = .ok (.iload_n 2, 1) := by decide +kernel
theorem dX6_setOut_173 : decode cX6_setOut 173 = .ok (.iaload, 1) := by decide +kernel
theorem dX6_setOut_174 : decode cX6_setOut 174 = .ok (.aload_n 0, 1) := by decide +kernel
theorem dX6_setOut_175 : decode cX6_setOut 175 = .ok (.iload_n 2, 1) := by decide +kernel
theorem dX6_setOut_176 : decode cX6_setOut 176 = .ok (.iload_n 3, 1) := by decide +kernel
theorem dX6_setOut_177 : decode cX6_setOut 177 = .ok (.invokevirtual 109, 3) := by decide +kernel
theorem dX6_setOut_180 : decode cX6_setOut 180 = .ok (.bipush 10, 2) := by decide +kernel
theorem dX6_setOut_182 : decode cX6_setOut 182 = .ok (.iadd, 1) := by decide +kernel
theorem dX6_setOut_183 : decode cX6_setOut 183 = .ok (.if_icmp .lt 4, 3) := by decide +kernel
theorem dX6_setOut_186 : decode cX6_setOut 186 = .ok (.return_, 1) := by decide +kernel
theorem dX6_setOut_187 : decode cX6_setOut 187 = .ok (.aload_n 0, 1) := by decide +kernel
theorem dX6_setOut_188 : decode cX6_setOut 188 = .ok (.getfield 22, 3) := by decide +kernel
theorem dX6_setOut_191 : decode cX6_setOut 191 = .ok (.iload_n 2, 1) := by decide +kernel
theorem dX6_setOut_192 : decode cX6_setOut 192 = .ok (.bipush 9, 2) := by decide +kernel
theorem dX6_setOut_194 : decode cX6_setOut 194 = .ok (.aload_n 0, 1) := by decide +kernel
theorem dX6_setOut_195 : decode cX6_setOut 195 = .ok (.getfield 22, 3) := by decide +kernel
theorem dX6_setOut_198 : decode cX6_setOut 198 = .ok (.iload_n 2, 1) := by decide +kernel
theorem dX6_setOut_199 : decode cX6_setOut 199 = .ok (.iaload, 1) := by decide +kernel
theorem dX6_setOut_200 : decode cX6_setOut 200 = .ok (.iconst 1, 1) := by decide +kernel
theorem dX6_setOut_201 : decode cX6_setOut 201 = .ok (.iadd, 1) := by decide +kernel
theorem dX6_setOut_202 : decode cX6_setOut 202 = .ok (.invokestatic 136, 3) := by decide +kernel
theorem dX6_setOut_205 : decode cX6_setOut 205 = .ok (.iastore, 1) := by decide +kernel
theorem dX6_setOut_206 : decode cX6_setOut 206 = .ok (.aload_n 0, 1) := by decide +kernel
theorem dX6_setOut_207 : decode cX6_setOut 207 = .ok (.getfield 22, 3) := by decide +kernel
theorem dX6_setOut_210 : decode cX6_setOut 210 = .ok (.iload_n 2, 1) := by decide +kernel
theorem dX6_setOut_211 : decode cX6_setOut 211 = .ok (.iaload, 1) := by decide +kernel
theorem dX6_setOut_212 : decode cX6_setOut 212 = .ok (.iconst 3, 1) := by decide +kernel
theorem dX6_setOut_213 : decode cX6_setOut 213 = .ok (.if_icmp .lt 10, 3) := by decide +kernel
theorem dX6_setOut_216 : decode cX6_setOut 216 = .ok (.aload_n 0, 1) := by decide +kernel
theorem dX6_setOut_217 : decode cX6_setOut 217 = .ok (.getfield 25, 3) := by decide +kernel
theorem dX6_setOut_220 : decode cX6_setOut 220 = .ok (.iload_n 2, 1) := by decide +kernel
theorem dX6_setOut_221 : decode cX6_setOut 221 = .ok (.iconst 1, 1) := by decide +kernel
theorem dX6_setOut_222 : decode cX6_setOut 222 = .ok (.iastore, 1) := by decide +kernel
theorem dX6_setOut_223 : decode cX6_setOut 223 = .ok (.return_, 1) := by decide +kernel
theorem dX6_hourOn_0 : decode cX6_hourOn 0 = .ok (.iconst 0, 1) := by decide +kernel
theorem dX6_hourOn_1 : decode cX6_hourOn 1 = .ok (.istore_n 1, 1) := by decide +kernel
theorem dX6_hourOn_2 : decode cX6_hourOn 2 = .ok (.aload_n 0, 1) := by decide +kernel
theorem dX6_hourOn_3 : decode cX6_hourOn 3 = .ok (.getfield 34, 3) := by decide +kernel
theorem dX6_hourOn_6 : decode cX6_hourOn 6 = .ok (.iconst 0, 1) := by decide +kernel
theorem dX6_hourOn_7 : decode cX6_hourOn 7 = .ok (.iaload, 1) := by decide +kernel
theorem dX6_hourOn_8 : decode cX6_hourOn 8 = .ok (.bipush 24, 2) := by decide +kernel
theorem dX6_hourOn_10 : decode cX6_hourOn 10 = .ok (.irem, 1) := by decide +kernel
theorem dX6_hourOn_11 : decode cX6_hourOn 11 = .ok (.ifCond .ne 24, 3) := by decide +kernel
theorem dX6_hourOn_14 : decode cX6_hourOn 14 = .ok (.aload_n 0, 1) := by decide +kernel
theorem dX6_hourOn_15 : decode cX6_hourOn 15 = .ok (.aload_n 0, 1) := by decide +kernel
theorem dX6_hourOn_16 : decode cX6_hourOn 16 = .ok (.getfield 13, 3) := by decide +kernel
theorem dX6_hourOn_19 : decode cX6_hourOn 19 = .ok (.aload_n 0, 1) := by decide +kernel
theorem dX6_hourOn_20 : decode cX6_hourOn 20 = .ok (.getfield 34, 3) := by decide +kernel
theorem dX6_hourOn_23 : decode cX6_hourOn 23 = .ok (.iconst 0, 1) := by decide +kernel
theorem dX6_hourOn_24 : decode cX6_hourOn 24 = .ok (.iaload, 1) := by decide +kernel
theorem dX6_hourOn_25 : decode cX6_hourOn 25 = .ok (.bipush 24, 2) := by decide +kernel
theorem dX6_hourOn_27 : decode cX6_hourOn 27 = .ok (.idiv, 1) := by decide +kernel
theorem dX6_hourOn_28 : decode cX6_hourOn 28 = .ok (.bipush 8, 2) := by decide +kernel
theorem dX6_hourOn_30 : decode cX6_hourOn 30 = .ok (.irem, 1) := by decide +kernel
theorem dX6_hourOn_31 : decode cX6_hourOn 31 = .ok (.iaload, 1) := by decide +kernel
theorem dX6_hourOn_32 : decode cX6_hourOn 32 = .ok (.invokevirtual 147, 3) := by decide +kernel
theorem dX6_hourOn_35 : decode cX6_hourOn 35 = .ok (.iconst 0, 1) := by decide +kernel
theorem dX6_hourOn_36 : decode cX6_hourOn 36 = .ok (.istore_n 2, 1) := by decide +kernel
theorem dX6_hourOn_37 : decode cX6_hourOn 37 = .ok (.iload_n 2, 1) := by decide +kernel
theorem dX6_hourOn_38 : decode cX6_hourOn 38 = .ok (.aload_n 0, 1) := by decide +kernel
theorem dX6_hourOn_39 : decode cX6_hourOn 39 = .ok (.getfield 55, 3) := by decide +kernel
theorem dX6_hourOn_42 : decode cX6_hourOn 42 = .ok (.if_icmp .ge 42, 3) := by decide +kernel
theorem dX6_hourOn_45 : decode cX6_hourOn 45 = .ok (.aload_n 0, 1) := by decide +kernel
theorem dX6_hourOn_46 : decode cX6_hourOn 46 = .ok (.iload_n 2, 1) := by decide +kernel
theorem dX6_hourOn_47 : decode cX6_hourOn 47 = .ok (.iconst 2, 1) := by decide +kernel
theorem dX6_hourOn_48 : decode cX6_hourOn 48 = .ok (.invokevirtual 62, 3) := by decide +kernel
theorem dX6_hourOn_51 : decode cX6_hourOn 51 = .ok (.iconst 2, 1) := by decide +kernel
theorem dX6_hourOn_52 : decode cX6_hourOn 52 = .ok (.if_icmp .eq 26, 3) := by decide +kernel
theorem dX6_hourOn_55 : decode cX6_hourOn 55 = .ok (.aload_n 0, 1) := by decide +kernel
theorem dX6_hourOn_56 : decode cX6_hourOn 56 = .ok (.aload_n 0, 1) := by decide +kernel
theorem dX6_hourOn_57 : decode cX6_hourOn 57 = .ok (.iload_n 2, 1) := by decide +kernel
theorem dX6_hourOn_58 : decode cX6_hourOn 58 = .ok (.iconst 3, 1) := by decide +kernel
theorem dX6_hourOn_59 : decode cX6_hourOn 59 = .ok (.invokevirtual 62, 3) := by decide +kernel
theorem dX6_hourOn_62 : decode cX6_hourOn 62 = .ok (.aload_n 0, 1) := by decide +kernel
theorem dX6_hourOn_63 : decode cX6_hourOn 63 = .ok (.iload_n 2, 1) := by decide +kernel
theorem dX6_hourOn_64 : decode cX6_hourOn 64 = .ok (.invokevirtual 106, 3) := by decide +kernel
theorem dX6_hourOn_67 : decode cX6_hourOn 67 = .ok (.invokevirtual 113, 3) := by decide +kernel
theorem dX6_hourOn_70 : decode cX6_hourOn 70 = .ok (.ifCond .ne 8, 3) := by decide +kernel
theorem dX6_hourOn_73 : decode cX6_hourOn 73 = .ok (.aload_n 0, 1) := by decide +kernel
theorem dX6_hourOn_74 : decode cX6_hourOn 74 = .ok (.iload_n 2, 1) := by decide +kernel
theorem dX6_hourOn_75 : decode cX6_hourOn 75 = .ok (.invokevirtual 151, 3) := by decide +kernel
theorem dX6_hourOn_78 : decode cX6_hourOn 78 = .ok (.iinc 2 1, 3) := by decide +kernel
theorem dX6_hourOn_81 : decode cX6_hourOn 81 = .ok (.goto (-44), 3) := by decide +kernel
theorem dX6_hourOn_84 : decode cX6_hourOn 84 = .ok (.iconst 0, 1) := by decide +kernel
theorem dX6_hourOn_85 : decode cX6_hourOn 85 = .ok (.istore_n 2, 1) := by decide +kernel
theorem dX6_hourOn_86 : decode cX6_hourOn 86 = .ok (.iload_n 2, 1) := by decide +kernel
theorem dX6_hourOn_87 : decode cX6_hourOn 87 = .ok (.aload_n 0, 1) := by decide +kernel
theorem dX6_hourOn_88 : decode cX6_hourOn 88 = .ok (.getfield 55, 3) := by decide +kernel
theorem dX6_hourOn_91 : decode cX6_hourOn 91 = .ok (.if_icmp .ge 17, 3) := by decide +kernel
theorem dX6_hourOn_94 : decode cX6_hourOn 94 = .ok (.iload_n 1, 1) := by decide +kernel
theorem dX6_hourOn_95 : decode cX6_hourOn 95 = .ok (.aload_n 0, 1) := by decide +kernel
theorem dX6_hourOn_96 : decode cX6_hourOn 96 = .ok (.iload_n 2, 1) := by decide +kernel
theorem dX6_hourOn_97 : decode cX6_hourOn 97 = .ok (.invokevirtual 154, 3) := by decide +kernel
theorem dX6_hourOn_100 : decode cX6_hourOn 100 = .ok (.iadd, 1) := by decide +kernel
theorem dX6_hourOn_101 : decode cX6_hourOn 101 = .ok (.istore_n 1, 1) := by decide +kernel
theorem dX6_hourOn_102 : decode cX6_hourOn 102 = .ok (.iinc 2 1, 3) := by decide +kernel
theorem dX6_hourOn_105 : decode cX6_hourOn 105 = .ok (.goto (-19), 3) := by decide +kernel
theorem dX6_hourOn_108 : decode cX6_hourOn 108 = .ok (.iconst 0, 1) := by decide +kernel
theorem dX6_hourOn_109 : decode cX6_hourOn 109 = .ok (.istore_n 2, 1) := by decide +kernel
theorem dX6_hourOn_110 : decode cX6_hourOn 110 = .ok (.iload_n 2, 1) := by decide +kernel
theorem dX6_hourOn_111 : decode cX6_hourOn 111 = .ok (.aload_n 0, 1) := by decide +kernel
theorem dX6_hourOn_112 : decode cX6_hourOn 112 = .ok (.getfield 55, 3) := by decide +kernel
theorem dX6_hourOn_115 : decode cX6_hourOn 115 = .ok (.if_icmp .ge 14, 3) := by decide +kernel
theorem dX6_hourOn_118 : decode cX6_hourOn 118 = .ok (.aload_n 0, 1) := by decide +kernel
theorem dX6_hourOn_119 : decode cX6_hourOn 119 = .ok (.iload_n 2, 1) := by decide +kernel
theorem dX6_hourOn_120 : decode cX6_hourOn 120 = .ok (.invokevirtual 157, 3) := by decide +kernel
theorem dX6_hourOn_123 : decode cX6_hourOn 123 = .ok (.iinc 2 1, 3) := by decide +kernel
theorem dX6_hourOn_126 : decode cX6_hourOn 126 = .ok (.goto (-16), 3) := by decide +kernel
theorem dX6_hourOn_129 : decode cX6_hourOn 129 = .ok (.iconst 0, 1) := by decide +kernel
theorem dX6_hourOn_130 : decode cX6_hourOn 130 = .ok (.istore_n 2, 1) := by decide +kernel
theorem dX6_hourOn_131 : decode cX6_hourOn 131 = .ok (.iload_n 2, 1) := by decide +kernel
theorem dX6_hourOn_132 : decode cX6_hourOn 132 = .ok (.aload_n 0, 1) := by decide +kernel
theorem dX6_hourOn_133 : decode cX6_hourOn 133 = .ok (.getfield 55, 3) := by decide +kernel
theorem dX6_hourOn_136 : decode cX6_hourOn 136 = .ok (.if_icmp .ge 36, 3) := by decide +kernel
theorem dX6_hourOn_139 : decode cX6_hourOn 139 = .ok (.aload_n 0, 1) := by decide +kernel
theorem dX6_hourOn_140 : decode cX6_hourOn 140 = .ok (.iload_n 2, 1) := by decide +kernel
theorem dX6_hourOn_141 : decode cX6_hourOn 141 = .ok (.iconst 2, 1) := by decide +kernel
theorem dX6_hourOn_142 : decode cX6_hourOn 142 = .ok (.invokevirtual 62, 3) := by decide +kernel
theorem dX6_hourOn_145 : decode cX6_hourOn 145 = .ok (.ifCond .ne 21, 3) := by decide +kernel
theorem dX6_hourOn_148 : decode cX6_hourOn 148 = .ok (.aload_n 0, 1) := by decide +kernel
theorem dX6_hourOn_149 : decode cX6_hourOn 149 = .ok (.iload_n 2, 1) := by decide +kernel
theorem dX6_hourOn_150 : decode cX6_hourOn 150 = .ok (.iconst 1, 1) := by decide +kernel
theorem dX6_hourOn_151 : decode cX6_hourOn 151 = .ok (.iconst 0, 1) := by decide +kernel
theorem dX6_hourOn_152 : decode cX6_hourOn 152 = .ok (.aload_n 0, 1) := by decide +kernel
theorem dX6_hourOn_153 : decode cX6_hourOn 153 = .ok (.iload_n 2, 1) := by decide +kernel
theorem dX6_hourOn_154 : decode cX6_hourOn 154 = .ok (.iconst 1, 1) := by decide +kernel
theorem dX6_hourOn_155 : decode cX6_hourOn 155 = .ok (.invokevirtual 62, 3) := by decide +kernel
theorem dX6_hourOn_158 : decode cX6_hourOn 158 = .ok (.iconst 2, 1) := by decide +kernel
theorem dX6_hourOn_159 : decode cX6_hourOn 159 = .ok (.isub, 1) := by decide +kernel
theorem dX6_hourOn_160 : decode cX6_hourOn 160 = .ok (.invokestatic 141, 3) := by decide +kernel
theorem dX6_hourOn_163 : decode cX6_hourOn 163 = .ok (.invokevirtual 127, 3) := by decide +kernel
theorem dX6_hourOn_166 : decode cX6_hourOn 166 = .ok (.iinc 2 1, 3) := by decide +kernel
theorem dX6_hourOn_169 : decode cX6_hourOn 169 = .ok (.goto (-38), 3) := by decide +kernel
theorem dX6_hourOn_172 : decode cX6_hourOn 172 = .ok (.aload_n 0, 1) := by decide +kernel
theorem dX6_hourOn_173 : decode cX6_hourOn 173 = .ok (.getfield 34, 3) := by decide +kernel
theorem dX6_hourOn_176 : decode cX6_hourOn 176 = .ok (.iconst 0, 1) := by decide +kernel
theorem dX6_hourOn_177 : decode cX6_hourOn 177 = .ok (.dup2, 1) := by decide +kernel
theorem dX6_hourOn_178 : decode cX6_hourOn 178 = .ok (.iaload, 1) := by decide +kernel
theorem dX6_hourOn_179 : decode cX6_hourOn 179 = .ok (.iconst 1, 1) := by decide +kernel
theorem dX6_hourOn_180 : decode cX6_hourOn 180 = .ok (.iadd, 1) := by decide +kernel
theorem dX6_hourOn_181 : decode cX6_hourOn 181 = .ok (.iastore, 1) := by decide +kernel
theorem dX6_hourOn_182 : decode cX6_hourOn 182 = .ok (.iload_n 1, 1) := by decide +kernel
theorem dX6_hourOn_183 : decode cX6_hourOn 183 = .ok (.ireturn, 1) := by decide +kernel
theorem dX6_pass_0 : decode cX6_pass 0 = .ok (.aload_n 0, 1) := by decide +kernel
theorem dX6_pass_1 : decode cX6_pass 1 = .ok (.iconst 0, 1) := by decide +kernel
theorem dX6_pass_2 : decode cX6_pass 2 = .ok (.putfield 44, 3) := by decide +kernel
theorem dX6_pass_5 : decode cX6_pass 5 = .ok (.iload_n 1, 1) := by decide +kernel
theorem dX6_pass_6 : decode cX6_pass 6 = .ok (.iconst 1, 1) := by decide +kernel
theorem dX6_pass_7 : decode cX6_pass 7 = .ok (.sipush 200, 3) := by decide +kernel
theorem dX6_pass_10 : decode cX6_pass 10 = .ok (.invokestatic 48, 3) := by decide +kernel
theorem dX6_pass_13 : decode cX6_pass 13 = .ok (.ifCond .ne 9, 3) := by decide +kernel
theorem dX6_pass_16 : decode cX6_pass 16 = .ok (.aload_n 0, 1) := by decide +kernel
theorem dX6_pass_17 : decode cX6_pass 17 = .ok (.iconst 1, 1) := by decide +kernel
theorem dX6_pass_18 : decode cX6_pass 18 = .ok (.invokevirtual 66, 3) := by decide +kernel
theorem dX6_pass_21 : decode cX6_pass 21 = .ok (.ireturn, 1) := by decide +kernel
theorem dX6_pass_22 : decode cX6_pass 22 = .ok (.iconst 0, 1) := by decide +kernel
theorem dX6_pass_23 : decode cX6_pass 23 = .ok (.istore_n 2, 1) := by decide +kernel
theorem dX6_pass_24 : decode cX6_pass 24 = .ok (.iconst 0, 1) := by decide +kernel
theorem dX6_pass_25 : decode cX6_pass 25 = .ok (.istore_n 3, 1) := by decide +kernel
theorem dX6_pass_26 : decode cX6_pass 26 = .ok (.iload_n 3, 1) := by decide +kernel
theorem dX6_pass_27 : decode cX6_pass 27 = .ok (.iload_n 1, 1) := by decide +kernel
theorem dX6_pass_28 : decode cX6_pass 28 = .ok (.if_icmp .ge 16, 3) := by decide +kernel
theorem dX6_pass_31 : decode cX6_pass 31 = .ok (.iload_n 2, 1) := by decide +kernel
theorem dX6_pass_32 : decode cX6_pass 32 = .ok (.aload_n 0, 1) := by decide +kernel
theorem dX6_pass_33 : decode cX6_pass 33 = .ok (.invokevirtual 160, 3) := by decide +kernel
theorem dX6_pass_36 : decode cX6_pass 36 = .ok (.iadd, 1) := by decide +kernel
theorem dX6_pass_37 : decode cX6_pass 37 = .ok (.istore_n 2, 1) := by decide +kernel
theorem dX6_pass_38 : decode cX6_pass 38 = .ok (.iinc 3 1, 3) := by decide +kernel
theorem dX6_pass_41 : decode cX6_pass 41 = .ok (.goto (-15), 3) := by decide +kernel
theorem dX6_pass_44 : decode cX6_pass 44 = .ok (.iload_n 2, 1) := by decide +kernel
theorem dX6_pass_45 : decode cX6_pass 45 = .ok (.ireturn, 1) := by decide +kernel
theorem dX6_bagsWith_0 : decode cX6_bagsWith 0 = .ok (.iconst 0, 1) := by decide +kernel
theorem dX6_bagsWith_1 : decode cX6_bagsWith 1 = .ok (.istore_n 2, 1) := by decide +kernel
theorem dX6_bagsWith_2 : decode cX6_bagsWith 2 = .ok (.iconst 0, 1) := by decide +kernel
theorem dX6_bagsWith_3 : decode cX6_bagsWith 3 = .ok (.istore_n 3, 1) := by decide +kernel
theorem dX6_bagsWith_4 : decode cX6_bagsWith 4 = .ok (.iload_n 3, 1) := by decide +kernel
theorem dX6_bagsWith_5 : decode cX6_bagsWith 5 = .ok (.aload_n 0, 1) := by decide +kernel
theorem dX6_bagsWith_6 : decode cX6_bagsWith 6 = .ok (.getfield 90, 3) := by decide +kernel
theorem dX6_bagsWith_9 : decode cX6_bagsWith 9 = .ok (.if_icmp .ge 27, 3) := by decide +kernel
theorem dX6_bagsWith_12 : decode cX6_bagsWith 12 = .ok (.iload_n 2, 1) := by decide +kernel
theorem dX6_bagsWith_13 : decode cX6_bagsWith 13 = .ok (.aload_n 0, 1) := by decide +kernel
theorem dX6_bagsWith_14 : decode cX6_bagsWith 14 = .ok (.iload_n 3, 1) := by decide +kernel
theorem dX6_bagsWith_15 : decode cX6_bagsWith 15 = .ok (.iconst 2, 1) := by decide +kernel
theorem dX6_bagsWith_16 : decode cX6_bagsWith 16 = .ok (.invokevirtual 93, 3) := by decide +kernel
theorem dX6_bagsWith_19 : decode cX6_bagsWith 19 = .ok (.iload_n 1, 1) := by decide +kernel
theorem dX6_bagsWith_20 : decode cX6_bagsWith 20 = .ok (.if_icmp .ne 7, 3) := by decide +kernel
theorem dX6_bagsWith_23 : decode cX6_bagsWith 23 = .ok (.iconst 1, 1) := by decide +kernel
theorem dX6_bagsWith_24 : decode cX6_bagsWith 24 = .ok (.goto 4, 3) := by decide +kernel
theorem dX6_bagsWith_27 : decode cX6_bagsWith 27 = .ok (.iconst 0, 1) := by decide +kernel
theorem dX6_bagsWith_28 : decode cX6_bagsWith 28 = .ok (.iadd, 1) := by decide +kernel
theorem dX6_bagsWith_29 : decode cX6_bagsWith 29 = .ok (.istore_n 2, 1) := by decide +kernel
theorem dX6_bagsWith_30 : decode cX6_bagsWith 30 = .ok (.iinc 3 1, 3) := by decide +kernel
theorem dX6_bagsWith_33 : decode cX6_bagsWith 33 = .ok (.goto (-29), 3) := by decide +kernel
theorem dX6_bagsWith_36 : decode cX6_bagsWith 36 = .ok (.iload_n 2, 1) := by decide +kernel
theorem dX6_bagsWith_37 : decode cX6_bagsWith 37 = .ok (.ireturn, 1) := by decide +kernel
theorem dX6_counted_0 : decode cX6_counted 0 = .ok (.iconst 0, 1) := by decide +kernel
theorem dX6_counted_1 : decode cX6_counted 1 = .ok (.istore_n 2, 1) := by decide +kernel
theorem dX6_counted_2 : decode cX6_counted 2 = .ok (.iload_n 1, 1) := by decide +kernel
theorem dX6_counted_3 : decode cX6_counted 3 = .ok (.tableswitch 107 0 6 #[41, 48, 53, 58, 94, 99, 99], 41) := by decide +kernel
theorem dX6_counted_44 : decode cX6_counted 44 = .ok (.aload_n 0, 1) := by decide +kernel
theorem dX6_counted_45 : decode cX6_counted 45 = .ok (.getfield 34, 3) := by decide +kernel
theorem dX6_counted_48 : decode cX6_counted 48 = .ok (.iconst 0, 1) := by decide +kernel
theorem dX6_counted_49 : decode cX6_counted 49 = .ok (.iaload, 1) := by decide +kernel
theorem dX6_counted_50 : decode cX6_counted 50 = .ok (.ireturn, 1) := by decide +kernel
theorem dX6_counted_51 : decode cX6_counted 51 = .ok (.aload_n 0, 1) := by decide +kernel
theorem dX6_counted_52 : decode cX6_counted 52 = .ok (.getfield 52, 3) := by decide +kernel
theorem dX6_counted_55 : decode cX6_counted 55 = .ok (.ireturn, 1) := by decide +kernel
theorem dX6_counted_56 : decode cX6_counted 56 = .ok (.aload_n 0, 1) := by decide +kernel
theorem dX6_counted_57 : decode cX6_counted 57 = .ok (.getfield 55, 3) := by decide +kernel
theorem dX6_counted_60 : decode cX6_counted 60 = .ok (.ireturn, 1) := by decide +kernel
theorem dX6_counted_61 : decode cX6_counted 61 = .ok (.iconst 0, 1) := by decide +kernel
theorem dX6_counted_62 : decode cX6_counted 62 = .ok (.istore_n 3, 1) := by decide +kernel
theorem dX6_counted_63 : decode cX6_counted 63 = .ok (.iload_n 3, 1) := by decide +kernel
theorem dX6_counted_64 : decode cX6_counted 64 = .ok (.aload_n 0, 1) := by decide +kernel
theorem dX6_counted_65 : decode cX6_counted 65 = .ok (.getfield 55, 3) := by decide +kernel
theorem dX6_counted_68 : decode cX6_counted 68 = .ok (.if_icmp .ge 27, 3) := by decide +kernel
theorem dX6_counted_71 : decode cX6_counted 71 = .ok (.iload_n 2, 1) := by decide +kernel
theorem dX6_counted_72 : decode cX6_counted 72 = .ok (.aload_n 0, 1) := by decide +kernel
theorem dX6_counted_73 : decode cX6_counted 73 = .ok (.iload_n 3, 1) := by decide +kernel
theorem dX6_counted_74 : decode cX6_counted 74 = .ok (.iconst 2, 1) := by decide +kernel
theorem dX6_counted_75 : decode cX6_counted 75 = .ok (.invokevirtual 62, 3) := by decide +kernel
theorem dX6_counted_78 : decode cX6_counted 78 = .ok (.iconst 2, 1) := by decide +kernel
theorem dX6_counted_79 : decode cX6_counted 79 = .ok (.if_icmp .ne 7, 3) := by decide +kernel
theorem dX6_counted_82 : decode cX6_counted 82 = .ok (.iconst 1, 1) := by decide +kernel
theorem dX6_counted_83 : decode cX6_counted 83 = .ok (.goto 4, 3) := by decide +kernel
theorem dX6_counted_86 : decode cX6_counted 86 = .ok (.iconst 0, 1) := by decide +kernel
theorem dX6_counted_87 : decode cX6_counted 87 = .ok (.iadd, 1) := by decide +kernel
theorem dX6_counted_88 : decode cX6_counted 88 = .ok (.istore_n 2, 1) := by decide +kernel
theorem dX6_counted_89 : decode cX6_counted 89 = .ok (.iinc 3 1, 3) := by decide +kernel
theorem dX6_counted_92 : decode cX6_counted 92 = .ok (.goto (-29), 3) := by decide +kernel
theorem dX6_counted_95 : decode cX6_counted 95 = .ok (.iload_n 2, 1) := by decide +kernel
theorem dX6_counted_96 : decode cX6_counted 96 = .ok (.ireturn, 1) := by decide +kernel
theorem dX6_counted_97 : decode cX6_counted 97 = .ok (.aload_n 0, 1) := by decide +kernel
theorem dX6_counted_98 : decode cX6_counted 98 = .ok (.getfield 90, 3) := by decide +kernel
theorem dX6_counted_101 : decode cX6_counted 101 = .ok (.ireturn, 1) := by decide +kernel
theorem dX6_counted_102 : decode cX6_counted 102 = .ok (.aload_n 0, 1) := by decide +kernel
theorem dX6_counted_103 : decode cX6_counted 103 = .ok (.iload_n 1, 1) := by decide +kernel
theorem dX6_counted_104 : decode cX6_counted 104 = .ok (.iconst 3, 1) := by decide +kernel
theorem dX6_counted_105 : decode cX6_counted 105 = .ok (.isub, 1) := by decide +kernel
theorem dX6_counted_106 : decode cX6_counted 106 = .ok (.invokevirtual 164, 3) := by decide +kernel
theorem dX6_counted_109 : decode cX6_counted 109 = .ok (.ireturn, 1) := by decide +kernel
theorem dX6_counted_110 : decode cX6_counted 110 = .ok (.iconst 0, 1) := by decide +kernel
theorem dX6_counted_111 : decode cX6_counted 111 = .ok (.istore_n 3, 1) := by decide +kernel
theorem dX6_counted_112 : decode cX6_counted 112 = .ok (.iload_n 3, 1) := by decide +kernel
theorem dX6_counted_113 : decode cX6_counted 113 = .ok (.sipush 160, 3) := by decide +kernel
theorem dX6_counted_116 : decode cX6_counted 116 = .ok (.if_icmp .ge 47, 3) := by decide +kernel
theorem dX6_counted_119 : decode cX6_counted 119 = .ok (.iload_n 2, 1) := by decide +kernel
theorem dX6_counted_120 : decode cX6_counted 120 = .ok (.aload_n 0, 1) := by decide +kernel
theorem dX6_counted_121 : decode cX6_counted 121 = .ok (.getfield 19, 3) := by decide +kernel
theorem dX6_counted_124 : decode cX6_counted 124 = .ok (.iload_n 3, 1) := by decide +kernel
theorem dX6_counted_125 : decode cX6_counted 125 = .ok (.iaload, 1) := by decide +kernel
theorem dX6_counted_126 : decode cX6_counted 126 = .ok (.iconst (-1), 1) := by decide +kernel
theorem dX6_counted_127 : decode cX6_counted 127 = .ok (.if_icmp .ne 7, 3) := by decide +kernel
theorem dX6_counted_130 : decode cX6_counted 130 = .ok (.iconst 0, 1) := by decide +kernel
theorem dX6_counted_131 : decode cX6_counted 131 = .ok (.goto 24, 3) := by decide +kernel
theorem dX6_counted_134 : decode cX6_counted 134 = .ok (.iload_n 1, 1) := by decide +kernel
theorem dX6_counted_135 : decode cX6_counted 135 = .ok (.bipush 7, 2) := by decide +kernel
theorem dX6_counted_137 : decode cX6_counted 137 = .ok (.if_icmp .ne 12, 3) := by decide +kernel
theorem dX6_counted_140 : decode cX6_counted 140 = .ok (.aload_n 0, 1) := by decide +kernel
theorem dX6_counted_141 : decode cX6_counted 141 = .ok (.getfield 25, 3) := by decide +kernel
theorem dX6_counted_144 : decode cX6_counted 144 = .ok (.iload_n 3, 1) := by decide +kernel
theorem dX6_counted_145 : decode cX6_counted 145 = .ok (.iaload, 1) := by decide +kernel
theorem dX6_counted_146 : decode cX6_counted 146 = .ok (.goto 9, 3) := by decide +kernel
theorem dX6_counted_149 : decode cX6_counted 149 = .ok (.aload_n 0, 1) := by decide +kernel
theorem dX6_counted_150 : decode cX6_counted 150 = .ok (.getfield 19, 3) := by decide +kernel
theorem dX6_counted_153 : decode cX6_counted 153 = .ok (.iload_n 3, 1) := by decide +kernel
theorem dX6_counted_154 : decode cX6_counted 154 = .ok (.iaload, 1) := by decide +kernel
theorem dX6_counted_155 : decode cX6_counted 155 = .ok (.iadd, 1) := by decide +kernel
theorem dX6_counted_156 : decode cX6_counted 156 = .ok (.istore_n 2, 1) := by decide +kernel
theorem dX6_counted_157 : decode cX6_counted 157 = .ok (.iinc 3 1, 3) := by decide +kernel
theorem dX6_counted_160 : decode cX6_counted 160 = .ok (.goto (-48), 3) := by decide +kernel
theorem dX6_counted_163 : decode cX6_counted 163 = .ok (.iload_n 2, 1) := by decide +kernel
theorem dX6_counted_164 : decode cX6_counted 164 = .ok (.ireturn, 1) := by decide +kernel
theorem dX6_count_0 : decode cX6_count 0 = .ok (.aload_n 0, 1) := by decide +kernel
theorem dX6_count_1 : decode cX6_count 1 = .ok (.iconst 0, 1) := by decide +kernel
theorem dX6_count_2 : decode cX6_count 2 = .ok (.putfield 44, 3) := by decide +kernel
theorem dX6_count_5 : decode cX6_count 5 = .ok (.iload_n 1, 1) := by decide +kernel
theorem dX6_count_6 : decode cX6_count 6 = .ok (.iconst 0, 1) := by decide +kernel
theorem dX6_count_7 : decode cX6_count 7 = .ok (.bipush 8, 2) := by decide +kernel
theorem dX6_count_9 : decode cX6_count 9 = .ok (.invokestatic 48, 3) := by decide +kernel
theorem dX6_count_12 : decode cX6_count 12 = .ok (.ifCond .eq 11, 3) := by decide +kernel
theorem dX6_count_15 : decode cX6_count 15 = .ok (.aload_n 0, 1) := by decide +kernel
theorem dX6_count_16 : decode cX6_count 16 = .ok (.iload_n 1, 1) := by decide +kernel
theorem dX6_count_17 : decode cX6_count 17 = .ok (.invokevirtual 167, 3) := by decide +kernel
theorem dX6_count_20 : decode cX6_count 20 = .ok (.goto 8, 3) := by decide +kernel
theorem dX6_count_23 : decode cX6_count 23 = .ok (.aload_n 0, 1) := by decide +kernel
theorem dX6_count_24 : decode cX6_count 24 = .ok (.iconst 1, 1) := by decide +kernel
theorem dX6_count_25 : decode cX6_count 25 = .ok (.invokevirtual 66, 3) := by decide +kernel
theorem dX6_count_28 : decode cX6_count 28 = .ok (.ireturn, 1) := by decide +kernel
theorem dX6_way_0 : decode cX6_way 0 = .ok (.aload_n 0, 1) := by decide +kernel
theorem dX6_way_1 : decode cX6_way 1 = .ok (.iconst 0, 1) := by decide +kernel
theorem dX6_way_2 : decode cX6_way 2 = .ok (.putfield 44, 3) := by decide +kernel
theorem dX6_way_5 : decode cX6_way 5 = .ok (.aload_n 0, 1) := by decide +kernel
theorem dX6_way_6 : decode cX6_way 6 = .ok (.iload_n 1, 1) := by decide +kernel
theorem dX6_way_7 : decode cX6_way 7 = .ok (.invokevirtual 80, 3) := by decide +kernel
theorem dX6_way_10 : decode cX6_way 10 = .ok (.ifCond .eq 11, 3) := by decide +kernel
theorem dX6_way_13 : decode cX6_way 13 = .ok (.aload_n 0, 1) := by decide +kernel
theorem dX6_way_14 : decode cX6_way 14 = .ok (.iload_n 2, 1) := by decide +kernel
theorem dX6_way_15 : decode cX6_way 15 = .ok (.invokevirtual 80, 3) := by decide +kernel
theorem dX6_way_18 : decode cX6_way 18 = .ok (.ifCond .ne 9, 3) := by decide +kernel
theorem dX6_way_21 : decode cX6_way 21 = .ok (.aload_n 0, 1) := by decide +kernel
theorem dX6_way_22 : decode cX6_way 22 = .ok (.iconst 1, 1) := by decide +kernel
theorem dX6_way_23 : decode cX6_way 23 = .ok (.invokevirtual 66, 3) := by decide +kernel
theorem dX6_way_26 : decode cX6_way 26 = .ok (.ireturn, 1) := by decide +kernel
theorem dX6_way_27 : decode cX6_way 27 = .ok (.iload_n 3, 1) := by decide +kernel
theorem dX6_way_28 : decode cX6_way 28 = .ok (.iconst 1, 1) := by decide +kernel
theorem dX6_way_29 : decode cX6_way 29 = .ok (.sipush 2000, 3) := by decide +kernel
theorem dX6_way_32 : decode cX6_way 32 = .ok (.invokestatic 48, 3) := by decide +kernel
theorem dX6_way_35 : decode cX6_way 35 = .ok (.ifCond .eq 14, 3) := by decide +kernel
theorem dX6_way_38 : decode cX6_way 38 = .ok (.iload 4, 2) := by decide +kernel
theorem dX6_way_40 : decode cX6_way 40 = .ok (.iconst 1, 1) := by decide +kernel
theorem dX6_way_41 : decode cX6_way 41 = .ok (.bipush 6, 2) := by decide +kernel
theorem dX6_way_43 : decode cX6_way 43 = .ok (.invokestatic 48, 3) := by decide +kernel
theorem dX6_way_46 : decode cX6_way 46 = .ok (.ifCond .ne 9, 3) := by decide +kernel
theorem dX6_way_49 : decode cX6_way 49 = .ok (.aload_n 0, 1) := by decide +kernel
theorem dX6_way_50 : decode cX6_way 50 = .ok (.iconst 2, 1) := by decide +kernel
theorem dX6_way_51 : decode cX6_way 51 = .ok (.invokevirtual 66, 3) := by decide +kernel
theorem dX6_way_54 : decode cX6_way 54 = .ok (.ireturn, 1) := by decide +kernel
theorem dX6_way_55 : decode cX6_way 55 = .ok (.aload_n 0, 1) := by decide +kernel
theorem dX6_way_56 : decode cX6_way 56 = .ok (.aload_n 0, 1) := by decide +kernel
theorem dX6_way_57 : decode cX6_way 57 = .ok (.getfield 16, 3) := by decide +kernel
theorem dX6_way_60 : decode cX6_way 60 = .ok (.iload_n 2, 1) := by decide +kernel
theorem dX6_way_61 : decode cX6_way 61 = .ok (.iaload, 1) := by decide +kernel
theorem dX6_way_62 : decode cX6_way 62 = .ok (.iload_n 3, 1) := by decide +kernel
theorem dX6_way_63 : decode cX6_way 63 = .ok (.iload 4, 2) := by decide +kernel
theorem dX6_way_65 : decode cX6_way 65 = .ok (.iconst 0, 1) := by decide +kernel
theorem dX6_way_66 : decode cX6_way 66 = .ok (.invokevirtual 123, 3) := by decide +kernel
theorem dX6_way_69 : decode cX6_way 69 = .ok (.aload_n 0, 1) := by decide +kernel
theorem dX6_way_70 : decode cX6_way 70 = .ok (.getfield 37, 3) := by decide +kernel
theorem dX6_way_73 : decode cX6_way 73 = .ok (.aload_n 0, 1) := by decide +kernel
theorem dX6_way_74 : decode cX6_way 74 = .ok (.getfield 16, 3) := by decide +kernel
theorem dX6_way_77 : decode cX6_way 77 = .ok (.iload_n 1, 1) := by decide +kernel
theorem dX6_way_78 : decode cX6_way 78 = .ok (.iaload, 1) := by decide +kernel
theorem dX6_way_79 : decode cX6_way 79 = .ok (.iaload, 1) := by decide +kernel
theorem dX6_way_80 : decode cX6_way 80 = .ok (.ldc 112, 2) := by decide +kernel
theorem dX6_way_82 : decode cX6_way 82 = .ok (.if_icmp .ne 7, 3) := by decide +kernel
theorem dX6_way_85 : decode cX6_way 85 = .ok (.iconst (-1), 1) := by decide +kernel
theorem dX6_way_86 : decode cX6_way 86 = .ok (.goto 14, 3) := by decide +kernel
theorem dX6_way_89 : decode cX6_way 89 = .ok (.aload_n 0, 1) := by decide +kernel
theorem dX6_way_90 : decode cX6_way 90 = .ok (.getfield 37, 3) := by decide +kernel
theorem dX6_way_93 : decode cX6_way 93 = .ok (.aload_n 0, 1) := by decide +kernel
theorem dX6_way_94 : decode cX6_way 94 = .ok (.getfield 16, 3) := by decide +kernel
theorem dX6_way_97 : decode cX6_way 97 = .ok (.iload_n 1, 1) := by decide +kernel
theorem dX6_way_98 : decode cX6_way 98 = .ok (.iaload, 1) := by decide +kernel
theorem dX6_way_99 : decode cX6_way 99 = .ok (.iaload, 1) := by decide +kernel
theorem dX6_way_100 : decode cX6_way 100 = .ok (.ireturn, 1) := by decide +kernel
theorem dX6_isWay_0 : decode cX6_isWay 0 = .ok (.aload_n 0, 1) := by decide +kernel
theorem dX6_isWay_1 : decode cX6_isWay 1 = .ok (.aload_n 0, 1) := by decide +kernel
theorem dX6_isWay_2 : decode cX6_isWay 2 = .ok (.getfield 16, 3) := by decide +kernel
theorem dX6_isWay_5 : decode cX6_isWay 5 = .ok (.iload_n 2, 1) := by decide +kernel
theorem dX6_isWay_6 : decode cX6_isWay 6 = .ok (.iaload, 1) := by decide +kernel
theorem dX6_isWay_7 : decode cX6_isWay 7 = .ok (.iload_n 3, 1) := by decide +kernel
theorem dX6_isWay_8 : decode cX6_isWay 8 = .ok (.iconst 1, 1) := by decide +kernel
theorem dX6_isWay_9 : decode cX6_isWay 9 = .ok (.iconst 0, 1) := by decide +kernel
theorem dX6_isWay_10 : decode cX6_isWay 10 = .ok (.invokevirtual 123, 3) := by decide +kernel
theorem dX6_isWay_13 : decode cX6_isWay 13 = .ok (.aload_n 0, 1) := by decide +kernel
theorem dX6_isWay_14 : decode cX6_isWay 14 = .ok (.getfield 37, 3) := by decide +kernel
theorem dX6_isWay_17 : decode cX6_isWay 17 = .ok (.aload_n 0, 1) := by decide +kernel
theorem dX6_isWay_18 : decode cX6_isWay 18 = .ok (.getfield 16, 3) := by decide +kernel
theorem dX6_isWay_21 : decode cX6_isWay 21 = .ok (.iload_n 1, 1) := by decide +kernel
theorem dX6_isWay_22 : decode cX6_isWay 22 = .ok (.iaload, 1) := by decide +kernel
theorem dX6_isWay_23 : decode cX6_isWay 23 = .ok (.iaload, 1) := by decide +kernel
theorem dX6_isWay_24 : decode cX6_isWay 24 = .ok (.ldc 112, 2) := by decide +kernel
theorem dX6_isWay_26 : decode cX6_isWay 26 = .ok (.if_icmp .eq 7, 3) := by decide +kernel
theorem dX6_isWay_29 : decode cX6_isWay 29 = .ok (.iconst 1, 1) := by decide +kernel
theorem dX6_isWay_30 : decode cX6_isWay 30 = .ok (.goto 4, 3) := by decide +kernel
theorem dX6_isWay_33 : decode cX6_isWay 33 = .ok (.iconst 0, 1) := by decide +kernel
theorem dX6_isWay_34 : decode cX6_isWay 34 = .ok (.ireturn, 1) := by decide +kernel
theorem dX6_bears_0 : decode cX6_bears 0 = .ok (.aload_n 0, 1) := by decide +kernel
theorem dX6_bears_1 : decode cX6_bears 1 = .ok (.iconst 0, 1) := by decide +kernel
theorem dX6_bears_2 : decode cX6_bears 2 = .ok (.putfield 44, 3) := by decide +kernel
theorem dX6_bears_5 : decode cX6_bears 5 = .ok (.aload_n 0, 1) := by decide +kernel
theorem dX6_bears_6 : decode cX6_bears 6 = .ok (.iload_n 1, 1) := by decide +kernel
theorem dX6_bears_7 : decode cX6_bears 7 = .ok (.invokevirtual 80, 3) := by decide +kernel
theorem dX6_bears_10 : decode cX6_bears 10 = .ok (.ifCond .eq 11, 3) := by decide +kernel
theorem dX6_bears_13 : decode cX6_bears 13 = .ok (.aload_n 0, 1) := by decide +kernel
theorem dX6_bears_14 : decode cX6_bears 14 = .ok (.iload_n 2, 1) := by decide +kernel
theorem dX6_bears_15 : decode cX6_bears 15 = .ok (.invokevirtual 80, 3) := by decide +kernel
theorem dX6_bears_18 : decode cX6_bears 18 = .ok (.ifCond .ne 9, 3) := by decide +kernel
theorem dX6_bears_21 : decode cX6_bears 21 = .ok (.aload_n 0, 1) := by decide +kernel
theorem dX6_bears_22 : decode cX6_bears 22 = .ok (.iconst 1, 1) := by decide +kernel
theorem dX6_bears_23 : decode cX6_bears 23 = .ok (.invokevirtual 66, 3) := by decide +kernel
theorem dX6_bears_26 : decode cX6_bears 26 = .ok (.ireturn, 1) := by decide +kernel
theorem dX6_bears_27 : decode cX6_bears 27 = .ok (.aload_n 0, 1) := by decide +kernel
theorem dX6_bears_28 : decode cX6_bears 28 = .ok (.iload_n 1, 1) := by decide +kernel
theorem dX6_bears_29 : decode cX6_bears 29 = .ok (.iload_n 2, 1) := by decide +kernel
theorem dX6_bears_30 : decode cX6_bears 30 = .ok (.iconst 1, 1) := by decide +kernel
theorem dX6_bears_31 : decode cX6_bears 31 = .ok (.invokevirtual 170, 3) := by decide +kernel
theorem dX6_bears_34 : decode cX6_bears 34 = .ok (.ifCond .ne 5, 3) := by decide +kernel
theorem dX6_bears_37 : decode cX6_bears 37 = .ok (.iconst (-1), 1) := by decide +kernel
theorem dX6_bears_38 : decode cX6_bears 38 = .ok (.ireturn, 1) := by decide +kernel
theorem dX6_bears_39 : decode cX6_bears 39 = .ok (.iconst 1, 1) := by decide +kernel
theorem dX6_bears_40 : decode cX6_bears 40 = .ok (.istore_n 3, 1) := by decide +kernel
theorem dX6_bears_41 : decode cX6_bears 41 = .ok (.sipush 2001, 3) := by decide +kernel
theorem dX6_bears_44 : decode cX6_bears 44 = .ok (.istore 4, 2) := by decide +kernel
theorem dX6_bears_46 : decode cX6_bears 46 = .ok (.iload 4, 2) := by decide +kernel
theorem dX6_bears_48 : decode cX6_bears 48 = .ok (.iload_n 3, 1) := by decide +kernel
theorem dX6_bears_49 : decode cX6_bears 49 = .ok (.isub, 1) := by decide +kernel
theorem dX6_bears_50 : decode cX6_bears 50 = .ok (.iconst 1, 1) := by decide +kernel
theorem dX6_bears_51 : decode cX6_bears 51 = .ok (.if_icmp .le 35, 3) := by decide +kernel
theorem dX6_bears_54 : decode cX6_bears 54 = .ok (.iload_n 3, 1) := by decide +kernel
theorem dX6_bears_55 : decode cX6_bears 55 = .ok (.iload 4, 2) := by decide +kernel
theorem dX6_bears_57 : decode cX6_bears 57 = .ok (.iadd, 1) := by decide +kernel
theorem dX6_bears_58 : decode cX6_bears 58 = .ok (.iconst 2, 1) := by decide +kernel
theorem dX6_bears_59 : decode cX6_bears 59 = .ok (.idiv, 1) := by decide +kernel
theorem dX6_bears_60 : decode cX6_bears 60 = .ok (.istore 5, 2) := by decide +kernel
theorem dX6_bears_62 : decode cX6_bears 62 = .ok (.aload_n 0, 1) := by decide +kernel
theorem dX6_bears_63 : decode cX6_bears 63 = .ok (.iload_n 1, 1) := by decide +kernel
theorem dX6_bears_64 : decode cX6_bears 64 = .ok (.iload_n 2, 1) := by decide +kernel
theorem dX6_bears_65 : decode cX6_bears 65 = .ok (.iload 5, 2) := by decide +kernel
theorem dX6_bears_67 : decode cX6_bears 67 = .ok (.invokevirtual 170, 3) := by decide +kernel
theorem dX6_bears_70 : decode cX6_bears 70 = .ok (.ifCond .eq 9, 3) := by decide +kernel
theorem dX6_bears_73 : decode cX6_bears 73 = .ok (.iload 5, 2) := by decide +kernel
theorem dX6_bears_75 : decode cX6_bears 75 = .ok (.istore_n 3, 1) := by decide +kernel
theorem dX6_bears_76 : decode cX6_bears 76 = .ok (.goto 7, 3) := by decide +kernel
theorem dX6_bears_79 : decode cX6_bears 79 = .ok (.iload 5, 2) := by decide +kernel
theorem dX6_bears_81 : decode cX6_bears 81 = .ok (.istore 4, 2) := by decide +kernel
theorem dX6_bears_83 : decode cX6_bears 83 = .ok (.goto (-37), 3) := by decide +kernel
theorem dX6_bears_86 : decode cX6_bears 86 = .ok (.iload_n 3, 1) := by decide +kernel
theorem dX6_bears_87 : decode cX6_bears 87 = .ok (.ireturn, 1) := by decide +kernel
theorem dX6_kept_0 : decode cX6_kept 0 = .ok (.bipush 6, 2) := by decide +kernel
theorem dX6_kept_2 : decode cX6_kept 2 = .ok (.anewarray 173, 3) := by decide +kernel
theorem dX6_kept_5 : decode cX6_kept 5 = .ok (.dup, 1) := by decide +kernel
theorem dX6_kept_6 : decode cX6_kept 6 = .ok (.iconst 0, 1) := by decide +kernel
theorem dX6_kept_7 : decode cX6_kept 7 = .ok (.aload_n 0, 1) := by decide +kernel
theorem dX6_kept_8 : decode cX6_kept 8 = .ok (.getfield 19, 3) := by decide +kernel
theorem dX6_kept_11 : decode cX6_kept 11 = .ok (.invokevirtual 174, 3) := by decide +kernel
theorem dX6_kept_14 : decode cX6_kept 14 = .ok (.checkcast 173, 3) := by decide +kernel
theorem dX6_kept_17 : decode cX6_kept 17 = .ok (.aastore, 1) := by decide +kernel
theorem dX6_kept_18 : decode cX6_kept 18 = .ok (.dup, 1) := by decide +kernel
theorem dX6_kept_19 : decode cX6_kept 19 = .ok (.iconst 1, 1) := by decide +kernel
theorem dX6_kept_20 : decode cX6_kept 20 = .ok (.aload_n 0, 1) := by decide +kernel
theorem dX6_kept_21 : decode cX6_kept 21 = .ok (.getfield 22, 3) := by decide +kernel
theorem dX6_kept_24 : decode cX6_kept 24 = .ok (.invokevirtual 174, 3) := by decide +kernel
theorem dX6_kept_27 : decode cX6_kept 27 = .ok (.checkcast 173, 3) := by decide +kernel
theorem dX6_kept_30 : decode cX6_kept 30 = .ok (.aastore, 1) := by decide +kernel
theorem dX6_kept_31 : decode cX6_kept 31 = .ok (.dup, 1) := by decide +kernel
theorem dX6_kept_32 : decode cX6_kept 32 = .ok (.iconst 2, 1) := by decide +kernel
theorem dX6_kept_33 : decode cX6_kept 33 = .ok (.aload_n 0, 1) := by decide +kernel
theorem dX6_kept_34 : decode cX6_kept 34 = .ok (.getfield 25, 3) := by decide +kernel
theorem dX6_kept_37 : decode cX6_kept 37 = .ok (.invokevirtual 174, 3) := by decide +kernel
theorem dX6_kept_40 : decode cX6_kept 40 = .ok (.checkcast 173, 3) := by decide +kernel
theorem dX6_kept_43 : decode cX6_kept 43 = .ok (.aastore, 1) := by decide +kernel
theorem dX6_kept_44 : decode cX6_kept 44 = .ok (.dup, 1) := by decide +kernel
theorem dX6_kept_45 : decode cX6_kept 45 = .ok (.iconst 3, 1) := by decide +kernel
theorem dX6_kept_46 : decode cX6_kept 46 = .ok (.aload_n 0, 1) := by decide +kernel
theorem dX6_kept_47 : decode cX6_kept 47 = .ok (.getfield 28, 3) := by decide +kernel
theorem dX6_kept_50 : decode cX6_kept 50 = .ok (.invokevirtual 174, 3) := by decide +kernel
theorem dX6_kept_53 : decode cX6_kept 53 = .ok (.checkcast 173, 3) := by decide +kernel
theorem dX6_kept_56 : decode cX6_kept 56 = .ok (.aastore, 1) := by decide +kernel
theorem dX6_kept_57 : decode cX6_kept 57 = .ok (.dup, 1) := by decide +kernel
theorem dX6_kept_58 : decode cX6_kept 58 = .ok (.iconst 4, 1) := by decide +kernel
theorem dX6_kept_59 : decode cX6_kept 59 = .ok (.aload_n 0, 1) := by decide +kernel
theorem dX6_kept_60 : decode cX6_kept 60 = .ok (.getfield 31, 3) := by decide +kernel
theorem dX6_kept_63 : decode cX6_kept 63 = .ok (.invokevirtual 174, 3) := by decide +kernel
theorem dX6_kept_66 : decode cX6_kept 66 = .ok (.checkcast 173, 3) := by decide +kernel
theorem dX6_kept_69 : decode cX6_kept 69 = .ok (.aastore, 1) := by decide +kernel
theorem dX6_kept_70 : decode cX6_kept 70 = .ok (.dup, 1) := by decide +kernel
theorem dX6_kept_71 : decode cX6_kept 71 = .ok (.iconst 5, 1) := by decide +kernel
theorem dX6_kept_72 : decode cX6_kept 72 = .ok (.aload_n 0, 1) := by decide +kernel
theorem dX6_kept_73 : decode cX6_kept 73 = .ok (.getfield 34, 3) := by decide +kernel
theorem dX6_kept_76 : decode cX6_kept 76 = .ok (.invokevirtual 174, 3) := by decide +kernel
theorem dX6_kept_79 : decode cX6_kept 79 = .ok (.checkcast 173, 3) := by decide +kernel
theorem dX6_kept_82 : decode cX6_kept 82 = .ok (.aastore, 1) := by decide +kernel
theorem dX6_kept_83 : decode cX6_kept 83 = .ok (.areturn, 1) := by decide +kernel
theorem dX6_bringBack_0 : decode cX6_bringBack 0 = .ok (.bipush 6, 2) := by decide +kernel
theorem dX6_bringBack_2 : decode cX6_bringBack 2 = .ok (.anewarray 173, 3) := by decide +kernel
theorem dX6_bringBack_5 : decode cX6_bringBack 5 = .ok (.dup, 1) := by decide +kernel
theorem dX6_bringBack_6 : decode cX6_bringBack 6 = .ok (.iconst 0, 1) := by decide +kernel
theorem dX6_bringBack_7 : decode cX6_bringBack 7 = .ok (.aload_n 0, 1) := by decide +kernel
theorem dX6_bringBack_8 : decode cX6_bringBack 8 = .ok (.getfield 19, 3) := by decide +kernel
theorem dX6_bringBack_11 : decode cX6_bringBack 11 = .ok (.aastore, 1) := by decide +kernel
theorem dX6_bringBack_12 : decode cX6_bringBack 12 = .ok (.dup, 1) := by decide +kernel
theorem dX6_bringBack_13 : decode cX6_bringBack 13 = .ok (.iconst 1, 1) := by decide +kernel
theorem dX6_bringBack_14 : decode cX6_bringBack 14 = .ok (.aload_n 0, 1) := by decide +kernel
theorem dX6_bringBack_15 : decode cX6_bringBack 15 = .ok (.getfield 22, 3) := by decide +kernel
theorem dX6_bringBack_18 : decode cX6_bringBack 18 = .ok (.aastore, 1) := by decide +kernel
theorem dX6_bringBack_19 : decode cX6_bringBack 19 = .ok (.dup, 1) := by decide +kernel
theorem dX6_bringBack_20 : decode cX6_bringBack 20 = .ok (.iconst 2, 1) := by decide +kernel
theorem dX6_bringBack_21 : decode cX6_bringBack 21 = .ok (.aload_n 0, 1) := by decide +kernel
theorem dX6_bringBack_22 : decode cX6_bringBack 22 = .ok (.getfield 25, 3) := by decide +kernel
theorem dX6_bringBack_25 : decode cX6_bringBack 25 = .ok (.aastore, 1) := by decide +kernel
theorem dX6_bringBack_26 : decode cX6_bringBack 26 = .ok (.dup, 1) := by decide +kernel
theorem dX6_bringBack_27 : decode cX6_bringBack 27 = .ok (.iconst 3, 1) := by decide +kernel
theorem dX6_bringBack_28 : decode cX6_bringBack 28 = .ok (.aload_n 0, 1) := by decide +kernel
theorem dX6_bringBack_29 : decode cX6_bringBack 29 = .ok (.getfield 28, 3) := by decide +kernel
theorem dX6_bringBack_32 : decode cX6_bringBack 32 = .ok (.aastore, 1) := by decide +kernel
theorem dX6_bringBack_33 : decode cX6_bringBack 33 = .ok (.dup, 1) := by decide +kernel
theorem dX6_bringBack_34 : decode cX6_bringBack 34 = .ok (.iconst 4, 1) := by decide +kernel
theorem dX6_bringBack_35 : decode cX6_bringBack 35 = .ok (.aload_n 0, 1) := by decide +kernel
theorem dX6_bringBack_36 : decode cX6_bringBack 36 = .ok (.getfield 31, 3) := by decide +kernel
theorem dX6_bringBack_39 : decode cX6_bringBack 39 = .ok (.aastore, 1) := by decide +kernel
theorem dX6_bringBack_40 : decode cX6_bringBack 40 = .ok (.dup, 1) := by decide +kernel
theorem dX6_bringBack_41 : decode cX6_bringBack 41 = .ok (.iconst 5, 1) := by decide +kernel
theorem dX6_bringBack_42 : decode cX6_bringBack 42 = .ok (.aload_n 0, 1) := by decide +kernel
theorem dX6_bringBack_43 : decode cX6_bringBack 43 = .ok (.getfield 34, 3) := by decide +kernel
theorem dX6_bringBack_46 : decode cX6_bringBack 46 = .ok (.aastore, 1) := by decide +kernel
theorem dX6_bringBack_47 : decode cX6_bringBack 47 = .ok (.astore_n 2, 1) := by decide +kernel
theorem dX6_bringBack_48 : decode cX6_bringBack 48 = .ok (.iconst 0, 1) := by decide +kernel
theorem dX6_bringBack_49 : decode cX6_bringBack 49 = .ok (.istore_n 3, 1) := by decide +kernel
theorem dX6_bringBack_50 : decode cX6_bringBack 50 = .ok (.iload_n 3, 1) := by decide +kernel
theorem dX6_bringBack_51 : decode cX6_bringBack 51 = .ok (.bipush 6, 2) := by decide +kernel
theorem dX6_bringBack_53 : decode cX6_bringBack 53 = .ok (.if_icmp .ge 24, 3) := by decide +kernel
theorem dX6_bringBack_56 : decode cX6_bringBack 56 = .ok (.aload_n 1, 1) := by decide +kernel
theorem dX6_bringBack_57 : decode cX6_bringBack 57 = .ok (.iload_n 3, 1) := by decide +kernel
theorem dX6_bringBack_58 : decode cX6_bringBack 58 = .ok (.aaload, 1) := by decide +kernel
theorem dX6_bringBack_59 : decode cX6_bringBack 59 = .ok (.iconst 0, 1) := by decide +kernel
theorem dX6_bringBack_60 : decode cX6_bringBack 60 = .ok (.aload_n 2, 1) := by decide +kernel
theorem dX6_bringBack_61 : decode cX6_bringBack 61 = .ok (.iload_n 3, 1) := by decide +kernel
theorem dX6_bringBack_62 : decode cX6_bringBack 62 = .ok (.aaload, 1) := by decide +kernel
theorem dX6_bringBack_63 : decode cX6_bringBack 63 = .ok (.iconst 0, 1) := by decide +kernel
theorem dX6_bringBack_64 : decode cX6_bringBack 64 = .ok (.aload_n 2, 1) := by decide +kernel
theorem dX6_bringBack_65 : decode cX6_bringBack 65 = .ok (.iload_n 3, 1) := by decide +kernel
theorem dX6_bringBack_66 : decode cX6_bringBack 66 = .ok (.aaload, 1) := by decide +kernel
theorem dX6_bringBack_67 : decode cX6_bringBack 67 = .ok (.arraylength, 1) := by decide +kernel
theorem dX6_bringBack_68 : decode cX6_bringBack 68 = .ok (.invokestatic 84, 3) := by decide +kernel
theorem dX6_bringBack_71 : decode cX6_bringBack 71 = .ok (.iinc 3 1, 3) := by decide +kernel
theorem dX6_bringBack_74 : decode cX6_bringBack 74 = .ok (.goto (-24), 3) := by decide +kernel
theorem dX6_bringBack_77 : decode cX6_bringBack 77 = .ok (.return_, 1) := by decide +kernel
theorem dX6_foresee_0 : decode cX6_foresee 0 = .ok (.aload_n 0, 1) := by decide +kernel
theorem dX6_foresee_1 : decode cX6_foresee 1 = .ok (.iconst 0, 1) := by decide +kernel
theorem dX6_foresee_2 : decode cX6_foresee 2 = .ok (.putfield 44, 3) := by decide +kernel
theorem dX6_foresee_5 : decode cX6_foresee 5 = .ok (.aload_n 0, 1) := by decide +kernel
theorem dX6_foresee_6 : decode cX6_foresee 6 = .ok (.iload_n 1, 1) := by decide +kernel
theorem dX6_foresee_7 : decode cX6_foresee 7 = .ok (.invokevirtual 99, 3) := by decide +kernel
theorem dX6_foresee_10 : decode cX6_foresee 10 = .ok (.ifCond .ne 9, 3) := by decide +kernel
theorem dX6_foresee_13 : decode cX6_foresee 13 = .ok (.aload_n 0, 1) := by decide +kernel
theorem dX6_foresee_14 : decode cX6_foresee 14 = .ok (.iconst 1, 1) := by decide +kernel
theorem dX6_foresee_15 : decode cX6_foresee 15 = .ok (.invokevirtual 66, 3) := by decide +kernel
theorem dX6_foresee_18 : decode cX6_foresee 18 = .ok (.ireturn, 1) := by decide +kernel
theorem dX6_foresee_19 : decode cX6_foresee 19 = .ok (.iload_n 2, 1) := by decide +kernel
theorem dX6_foresee_20 : decode cX6_foresee 20 = .ok (.iconst 1, 1) := by decide +kernel
theorem dX6_foresee_21 : decode cX6_foresee 21 = .ok (.sipush 200, 3) := by decide +kernel
theorem dX6_foresee_24 : decode cX6_foresee 24 = .ok (.invokestatic 48, 3) := by decide +kernel
theorem dX6_foresee_27 : decode cX6_foresee 27 = .ok (.ifCond .ne 9, 3) := by decide +kernel
theorem dX6_foresee_30 : decode cX6_foresee 30 = .ok (.aload_n 0, 1) := by decide +kernel
theorem dX6_foresee_31 : decode cX6_foresee 31 = .ok (.iconst 2, 1) := by decide +kernel
theorem dX6_foresee_32 : decode cX6_foresee 32 = .ok (.invokevirtual 66, 3) := by decide +kernel
theorem dX6_foresee_35 : decode cX6_foresee 35 = .ok (.ireturn, 1) := by decide +kernel
theorem dX6_foresee_36 : decode cX6_foresee 36 = .ok (.aload_n 0, 1) := by decide +kernel
theorem dX6_foresee_37 : decode cX6_foresee 37 = .ok (.invokevirtual 178, 3) := by decide +kernel
theorem dX6_foresee_40 : decode cX6_foresee 40 = .ok (.astore_n 3, 1) := by decide +kernel
theorem dX6_foresee_41 : decode cX6_foresee 41 = .ok (.iconst 0, 1) := by decide +kernel
theorem dX6_foresee_42 : decode cX6_foresee 42 = .ok (.istore 4, 2) := by decide +kernel
theorem dX6_foresee_44 : decode cX6_foresee 44 = .ok (.iload 4, 2) := by decide +kernel
theorem dX6_foresee_46 : decode cX6_foresee 46 = .ok (.iload_n 2, 1) := by decide +kernel
theorem dX6_foresee_47 : decode cX6_foresee 47 = .ok (.if_icmp .ge 14, 3) := by decide +kernel
theorem dX6_foresee_50 : decode cX6_foresee 50 = .ok (.aload_n 0, 1) := by decide +kernel
theorem dX6_foresee_51 : decode cX6_foresee 51 = .ok (.invokevirtual 160, 3) := by decide +kernel
theorem dX6_foresee_54 : decode cX6_foresee 54 = .ok (.pop, 1) := by decide +kernel
theorem dX6_foresee_55 : decode cX6_foresee 55 = .ok (.iinc 4 1, 3) := by decide +kernel
theorem dX6_foresee_58 : decode cX6_foresee 58 = .ok (.goto (-14), 3) := by decide +kernel
theorem dX6_foresee_61 : decode cX6_foresee 61 = .ok (.aload_n 0, 1) := by decide +kernel
theorem dX6_foresee_62 : decode cX6_foresee 62 = .ok (.iload_n 1, 1) := by decide +kernel
theorem dX6_foresee_63 : decode cX6_foresee 63 = .ok (.iconst 2, 1) := by decide +kernel
theorem dX6_foresee_64 : decode cX6_foresee 64 = .ok (.invokevirtual 62, 3) := by decide +kernel
theorem dX6_foresee_67 : decode cX6_foresee 67 = .ok (.iconst 2, 1) := by decide +kernel
theorem dX6_foresee_68 : decode cX6_foresee 68 = .ok (.if_icmp .ne 7, 3) := by decide +kernel
theorem dX6_foresee_71 : decode cX6_foresee 71 = .ok (.iconst (-1), 1) := by decide +kernel
theorem dX6_foresee_72 : decode cX6_foresee 72 = .ok (.goto 9, 3) := by decide +kernel
theorem dX6_foresee_75 : decode cX6_foresee 75 = .ok (.aload_n 0, 1) := by decide +kernel
theorem dX6_foresee_76 : decode cX6_foresee 76 = .ok (.iload_n 1, 1) := by decide +kernel
theorem dX6_foresee_77 : decode cX6_foresee 77 = .ok (.iconst 3, 1) := by decide +kernel
theorem dX6_foresee_78 : decode cX6_foresee 78 = .ok (.invokevirtual 62, 3) := by decide +kernel
theorem dX6_foresee_81 : decode cX6_foresee 81 = .ok (.istore 4, 2) := by decide +kernel
theorem dX6_foresee_83 : decode cX6_foresee 83 = .ok (.aload_n 0, 1) := by decide +kernel
theorem dX6_foresee_84 : decode cX6_foresee 84 = .ok (.aload_n 3, 1) := by decide +kernel
theorem dX6_foresee_85 : decode cX6_foresee 85 = .ok (.invokevirtual 182, 3) := by decide +kernel
theorem dX6_foresee_88 : decode cX6_foresee 88 = .ok (.iload 4, 2) := by decide +kernel
theorem dX6_foresee_90 : decode cX6_foresee 90 = .ok (.ireturn, 1) := by decide +kernel
theorem dX6_arrives_0 : decode cX6_arrives 0 = .ok (.aload_n 0, 1) := by decide +kernel
theorem dX6_arrives_1 : decode cX6_arrives 1 = .ok (.iconst 0, 1) := by decide +kernel
theorem dX6_arrives_2 : decode cX6_arrives 2 = .ok (.putfield 44, 3) := by decide +kernel
theorem dX6_arrives_5 : decode cX6_arrives 5 = .ok (.aload_n 0, 1) := by decide +kernel
theorem dX6_arrives_6 : decode cX6_arrives 6 = .ok (.iload_n 1, 1) := by decide +kernel
theorem dX6_arrives_7 : decode cX6_arrives 7 = .ok (.invokevirtual 99, 3) := by decide +kernel
theorem dX6_arrives_10 : decode cX6_arrives 10 = .ok (.ifCond .ne 9, 3) := by decide +kernel
theorem dX6_arrives_13 : decode cX6_arrives 13 = .ok (.aload_n 0, 1) := by decide +kernel
theorem dX6_arrives_14 : decode cX6_arrives 14 = .ok (.iconst 1, 1) := by decide +kernel
theorem dX6_arrives_15 : decode cX6_arrives 15 = .ok (.invokevirtual 66, 3) := by decide +kernel
theorem dX6_arrives_18 : decode cX6_arrives 18 = .ok (.ireturn, 1) := by decide +kernel
theorem dX6_arrives_19 : decode cX6_arrives 19 = .ok (.aload_n 0, 1) := by decide +kernel
theorem dX6_arrives_20 : decode cX6_arrives 20 = .ok (.iload_n 1, 1) := by decide +kernel
theorem dX6_arrives_21 : decode cX6_arrives 21 = .ok (.iconst 2, 1) := by decide +kernel
theorem dX6_arrives_22 : decode cX6_arrives 22 = .ok (.invokevirtual 62, 3) := by decide +kernel
theorem dX6_arrives_25 : decode cX6_arrives 25 = .ok (.iconst 1, 1) := by decide +kernel
theorem dX6_arrives_26 : decode cX6_arrives 26 = .ok (.if_icmp .eq 9, 3) := by decide +kernel
theorem dX6_arrives_29 : decode cX6_arrives 29 = .ok (.aload_n 0, 1) := by decide +kernel
theorem dX6_arrives_30 : decode cX6_arrives 30 = .ok (.iconst 2, 1) := by decide +kernel
theorem dX6_arrives_31 : decode cX6_arrives 31 = .ok (.invokevirtual 66, 3) := by decide +kernel
theorem dX6_arrives_34 : decode cX6_arrives 34 = .ok (.ireturn, 1) := by decide +kernel
theorem dX6_arrives_35 : decode cX6_arrives 35 = .ok (.aload_n 0, 1) := by decide +kernel
theorem dX6_arrives_36 : decode cX6_arrives 36 = .ok (.invokevirtual 178, 3) := by decide +kernel
theorem dX6_arrives_39 : decode cX6_arrives 39 = .ok (.astore_n 2, 1) := by decide +kernel
theorem dX6_arrives_40 : decode cX6_arrives 40 = .ok (.iconst (-1), 1) := by decide +kernel
theorem dX6_arrives_41 : decode cX6_arrives 41 = .ok (.istore_n 3, 1) := by decide +kernel
theorem dX6_arrives_42 : decode cX6_arrives 42 = .ok (.iconst 0, 1) := by decide +kernel
theorem dX6_arrives_43 : decode cX6_arrives 43 = .ok (.istore 4, 2) := by decide +kernel
theorem dX6_arrives_45 : decode cX6_arrives 45 = .ok (.iload 4, 2) := by decide +kernel
theorem dX6_arrives_47 : decode cX6_arrives 47 = .ok (.sipush 300, 3) := by decide +kernel
theorem dX6_arrives_50 : decode cX6_arrives 50 = .ok (.if_icmp .ge 44, 3) := by decide +kernel
theorem dX6_arrives_53 : decode cX6_arrives 53 = .ok (.aload_n 0, 1) := by decide +kernel
theorem dX6_arrives_54 : decode cX6_arrives 54 = .ok (.iload_n 1, 1) := by decide +kernel
theorem dX6_arrives_55 : decode cX6_arrives 55 = .ok (.iconst 2, 1) := by decide +kernel
theorem dX6_arrives_56 : decode cX6_arrives 56 = .ok (.invokevirtual 62, 3) := by decide +kernel
theorem dX6_arrives_59 : decode cX6_arrives 59 = .ok (.iconst 1, 1) := by decide +kernel
theorem dX6_arrives_60 : decode cX6_arrives 60 = .ok (.if_icmp .ne 34, 3) := by decide +kernel
theorem dX6_arrives_63 : decode cX6_arrives 63 = .ok (.aload_n 0, 1) := by decide +kernel
theorem dX6_arrives_64 : decode cX6_arrives 64 = .ok (.getfield 34, 3) := by decide +kernel
theorem dX6_arrives_67 : decode cX6_arrives 67 = .ok (.iconst 0, 1) := by decide +kernel
theorem dX6_arrives_68 : decode cX6_arrives 68 = .ok (.iaload, 1) := by decide +kernel
theorem dX6_arrives_69 : decode cX6_arrives 69 = .ok (.istore 5, 2) := by decide +kernel
theorem dX6_arrives_71 : decode cX6_arrives 71 = .ok (.aload_n 0, 1) := by decide +kernel
theorem dX6_arrives_72 : decode cX6_arrives 72 = .ok (.invokevirtual 160, 3) := by decide +kernel
theorem dX6_arrives_75 : decode cX6_arrives 75 = .ok (.pop, 1) := by decide +kernel
theorem dX6_arrives_76 : decode cX6_arrives 76 = .ok (.aload_n 0, 1) := by decide +kernel
theorem dX6_arrives_77 : decode cX6_arrives 77 = .ok (.iload_n 1, 1) := by decide +kernel
theorem dX6_arrives_78 : decode cX6_arrives 78 = .ok (.iconst 2, 1) := by decide +kernel
theorem dX6_arrives_79 : decode cX6_arrives 79 = .ok (.invokevirtual 62, 3) := by decide +kernel
theorem dX6_arrives_82 : decode cX6_arrives 82 = .ok (.ifCond .ne 6, 3) := by decide +kernel
theorem dX6_arrives_85 : decode cX6_arrives 85 = .ok (.iload 5, 2) := by decide +kernel
theorem dX6_arrives_87 : decode cX6_arrives 87 = .ok (.istore_n 3, 1) := by decide +kernel
theorem dX6_arrives_88 : decode cX6_arrives 88 = .ok (.iinc 4 1, 3) := by decide +kernel
theorem dX6_arrives_91 : decode cX6_arrives 91 = .ok (.goto (-46), 3) := by decide +kernel
theorem dX6_arrives_94 : decode cX6_arrives 94 = .ok (.aload_n 0, 1) := by decide +kernel
theorem dX6_arrives_95 : decode cX6_arrives 95 = .ok (.aload_n 2, 1) := by decide +kernel
theorem dX6_arrives_96 : decode cX6_arrives 96 = .ok (.invokevirtual 182, 3) := by decide +kernel
theorem dX6_arrives_99 : decode cX6_arrives 99 = .ok (.iload_n 3, 1) := by decide +kernel
theorem dX6_arrives_100 : decode cX6_arrives 100 = .ok (.ireturn, 1) := by decide +kernel
theorem dX6_mean_0 : decode cX6_mean 0 = .ok (.aload_n 0, 1) := by decide +kernel
theorem dX6_mean_1 : decode cX6_mean 1 = .ok (.iconst 0, 1) := by decide +kernel
theorem dX6_mean_2 : decode cX6_mean 2 = .ok (.putfield 44, 3) := by decide +kernel
theorem dX6_mean_5 : decode cX6_mean 5 = .ok (.iconst 0, 1) := by decide +kernel
theorem dX6_mean_6 : decode cX6_mean 6 = .ok (.istore_n 1, 1) := by decide +kernel
theorem dX6_mean_7 : decode cX6_mean 7 = .ok (.aload_n 0, 1) := by decide +kernel
theorem dX6_mean_8 : decode cX6_mean 8 = .ok (.getfield 19, 3) := by decide +kernel
theorem dX6_mean_11 : decode cX6_mean 11 = .ok (.astore_n 2, 1) := by decide +kernel
theorem dX6_mean_12 : decode cX6_mean 12 = .ok (.aload_n 2, 1) := by decide +kernel
theorem dX6_mean_13 : decode cX6_mean 13 = .ok (.arraylength, 1) := by decide +kernel
theorem dX6_mean_14 : decode cX6_mean 14 = .ok (.istore_n 3, 1) := by decide +kernel
theorem dX6_mean_15 : decode cX6_mean 15 = .ok (.iconst 0, 1) := by decide +kernel
theorem dX6_mean_16 : decode cX6_mean 16 = .ok (.istore 4, 2) := by decide +kernel
theorem dX6_mean_18 : decode cX6_mean 18 = .ok (.iload 4, 2) := by decide +kernel
theorem dX6_mean_20 : decode cX6_mean 20 = .ok (.iload_n 3, 1) := by decide +kernel
theorem dX6_mean_21 : decode cX6_mean 21 = .ok (.if_icmp .ge 29, 3) := by decide +kernel
theorem dX6_mean_24 : decode cX6_mean 24 = .ok (.aload_n 2, 1) := by decide +kernel
theorem dX6_mean_25 : decode cX6_mean 25 = .ok (.iload 4, 2) := by decide +kernel
theorem dX6_mean_27 : decode cX6_mean 27 = .ok (.iaload, 1) := by decide +kernel
theorem dX6_mean_28 : decode cX6_mean 28 = .ok (.istore 5, 2) := by decide +kernel
theorem dX6_mean_30 : decode cX6_mean 30 = .ok (.iload_n 1, 1) := by decide +kernel
theorem dX6_mean_31 : decode cX6_mean 31 = .ok (.iload 5, 2) := by decide +kernel
theorem dX6_mean_33 : decode cX6_mean 33 = .ok (.iconst (-1), 1) := by decide +kernel
theorem dX6_mean_34 : decode cX6_mean 34 = .ok (.if_icmp .ne 7, 3) := by decide +kernel
theorem dX6_mean_37 : decode cX6_mean 37 = .ok (.iconst 0, 1) := by decide +kernel
theorem dX6_mean_38 : decode cX6_mean 38 = .ok (.goto 4, 3) := by decide +kernel
theorem dX6_mean_41 : decode cX6_mean 41 = .ok (.iconst 1, 1) := by decide +kernel
theorem dX6_mean_42 : decode cX6_mean 42 = .ok (.iadd, 1) := by decide +kernel
theorem dX6_mean_43 : decode cX6_mean 43 = .ok (.istore_n 1, 1) := by decide +kernel
theorem dX6_mean_44 : decode cX6_mean 44 = .ok (.iinc 4 1, 3) := by decide +kernel
theorem dX6_mean_47 : decode cX6_mean 47 = .ok (.goto (-29), 3) := by decide +kernel
theorem dX6_mean_50 : decode cX6_mean 50 = .ok (.iload_n 1, 1) := by decide +kernel
theorem dX6_mean_51 : decode cX6_mean 51 = .ok (.ifCond .ne 7, 3) := by decide +kernel
theorem dX6_mean_54 : decode cX6_mean 54 = .ok (.dconst 0, 1) := by decide +kernel
theorem dX6_mean_55 : decode cX6_mean 55 = .ok (.goto 13, 3) := by decide +kernel
theorem dX6_mean_58 : decode cX6_mean 58 = .ok (.aload_n 0, 1) := by decide +kernel
theorem dX6_mean_59 : decode cX6_mean 59 = .ok (.bipush 8, 2) := by decide +kernel
theorem dX6_mean_61 : decode cX6_mean 61 = .ok (.invokevirtual 167, 3) := by decide +kernel
theorem dX6_mean_64 : decode cX6_mean 64 = .ok (.i2d, 1) := by decide +kernel
theorem dX6_mean_65 : decode cX6_mean 65 = .ok (.iload_n 1, 1) := by decide +kernel
theorem dX6_mean_66 : decode cX6_mean 66 = .ok (.i2d, 1) := by decide +kernel
theorem dX6_mean_67 : decode cX6_mean 67 = .ok (.ddiv, 1) := by decide +kernel
theorem dX6_mean_68 : decode cX6_mean 68 = .ok (.dreturn, 1) := by decide +kernel
theorem dX6_digest_0 : decode cX6_digest 0 = .ok (.aload_n 0, 1) := by decide +kernel
theorem dX6_digest_1 : decode cX6_digest 1 = .ok (.iconst 0, 1) := by decide +kernel
theorem dX6_digest_2 : decode cX6_digest 2 = .ok (.putfield 44, 3) := by decide +kernel
theorem dX6_digest_5 : decode cX6_digest 5 = .ok (.ldc2_w 186, 3) := by decide +kernel
theorem dX6_digest_8 : decode cX6_digest 8 = .ok (.lstore_n 1, 1) := by decide +kernel
theorem dX6_digest_9 : decode cX6_digest 9 = .ok (.iconst 0, 1) := by decide +kernel
theorem dX6_digest_10 : decode cX6_digest 10 = .ok (.istore_n 3, 1) := by decide +kernel
theorem dX6_digest_11 : decode cX6_digest 11 = .ok (.iload_n 3, 1) := by decide +kernel
theorem dX6_digest_12 : decode cX6_digest 12 = .ok (.bipush 9, 2) := by decide +kernel
theorem dX6_digest_14 : decode cX6_digest 14 = .ok (.if_icmp .ge 22, 3) := by decide +kernel
theorem dX6_digest_17 : decode cX6_digest 17 = .ok (.lload_n 1, 1) := by decide +kernel
theorem dX6_digest_18 : decode cX6_digest 18 = .ok (.ldc2_w 188, 3) := by decide +kernel
theorem dX6_digest_21 : decode cX6_digest 21 = .ok (.lmul, 1) := by decide +kernel
theorem dX6_digest_22 : decode cX6_digest 22 = .ok (.aload_n 0, 1) := by decide +kernel
theorem dX6_digest_23 : decode cX6_digest 23 = .ok (.iload_n 3, 1) := by decide +kernel
theorem dX6_digest_24 : decode cX6_digest 24 = .ok (.invokevirtual 167, 3) := by decide +kernel
theorem dX6_digest_27 : decode cX6_digest 27 = .ok (.i2l, 1) := by decide +kernel
theorem dX6_digest_28 : decode cX6_digest 28 = .ok (.ladd, 1) := by decide +kernel
theorem dX6_digest_29 : decode cX6_digest 29 = .ok (.lstore_n 1, 1) := by decide +kernel
theorem dX6_digest_30 : decode cX6_digest 30 = .ok (.iinc 3 1, 3) := by decide +kernel
theorem dX6_digest_33 : decode cX6_digest 33 = .ok (.goto (-22), 3) := by decide +kernel
theorem dX6_digest_36 : decode cX6_digest 36 = .ok (.aload_n 0, 1) := by decide +kernel
theorem dX6_digest_37 : decode cX6_digest 37 = .ok (.getfield 13, 3) := by decide +kernel
theorem dX6_digest_40 : decode cX6_digest 40 = .ok (.astore_n 3, 1) := by decide +kernel
theorem dX6_digest_41 : decode cX6_digest 41 = .ok (.aload_n 3, 1) := by decide +kernel
theorem dX6_digest_42 : decode cX6_digest 42 = .ok (.arraylength, 1) := by decide +kernel
theorem dX6_digest_43 : decode cX6_digest 43 = .ok (.istore 4, 2) := by decide +kernel
theorem dX6_digest_45 : decode cX6_digest 45 = .ok (.iconst 0, 1) := by decide +kernel
theorem dX6_digest_46 : decode cX6_digest 46 = .ok (.istore 5, 2) := by decide +kernel
theorem dX6_digest_48 : decode cX6_digest 48 = .ok (.iload 5, 2) := by decide +kernel
theorem dX6_digest_50 : decode cX6_digest 50 = .ok (.iload 4, 2) := by decide +kernel
theorem dX6_digest_52 : decode cX6_digest 52 = .ok (.if_icmp .ge 25, 3) := by decide +kernel
theorem dX6_digest_55 : decode cX6_digest 55 = .ok (.aload_n 3, 1) := by decide +kernel
theorem dX6_digest_56 : decode cX6_digest 56 = .ok (.iload 5, 2) := by decide +kernel
theorem dX6_digest_58 : decode cX6_digest 58 = .ok (.iaload, 1) := by decide +kernel
theorem dX6_digest_59 : decode cX6_digest 59 = .ok (.istore 6, 2) := by decide +kernel
theorem dX6_digest_61 : decode cX6_digest 61 = .ok (.lload_n 1, 1) := by decide +kernel
theorem dX6_digest_62 : decode cX6_digest 62 = .ok (.ldc2_w 188, 3) := by decide +kernel
theorem dX6_digest_65 : decode cX6_digest 65 = .ok (.lmul, 1) := by decide +kernel
theorem dX6_digest_66 : decode cX6_digest 66 = .ok (.iload 6, 2) := by decide +kernel
theorem dX6_digest_68 : decode cX6_digest 68 = .ok (.i2l, 1) := by decide +kernel
theorem dX6_digest_69 : decode cX6_digest 69 = .ok (.ladd, 1) := by decide +kernel
theorem dX6_digest_70 : decode cX6_digest 70 = .ok (.lstore_n 1, 1) := by decide +kernel
theorem dX6_digest_71 : decode cX6_digest 71 = .ok (.iinc 5 1, 3) := by decide +kernel
theorem dX6_digest_74 : decode cX6_digest 74 = .ok (.goto (-26), 3) := by decide +kernel
theorem dX6_digest_77 : decode cX6_digest 77 = .ok (.iconst 0, 1) := by decide +kernel
theorem dX6_digest_78 : decode cX6_digest 78 = .ok (.istore_n 3, 1) := by decide +kernel
theorem dX6_digest_79 : decode cX6_digest 79 = .ok (.iload_n 3, 1) := by decide +kernel
theorem dX6_digest_80 : decode cX6_digest 80 = .ok (.sipush 160, 3) := by decide +kernel
theorem dX6_digest_83 : decode cX6_digest 83 = .ok (.if_icmp .ge 59, 3) := by decide +kernel
theorem dX6_digest_86 : decode cX6_digest 86 = .ok (.lload_n 1, 1) := by decide +kernel
theorem dX6_digest_87 : decode cX6_digest 87 = .ok (.ldc2_w 188, 3) := by decide +kernel
theorem dX6_digest_90 : decode cX6_digest 90 = .ok (.lmul, 1) := by decide +kernel
theorem dX6_digest_91 : decode cX6_digest 91 = .ok (.aload_n 0, 1) := by decide +kernel
theorem dX6_digest_92 : decode cX6_digest 92 = .ok (.getfield 19, 3) := by decide +kernel
theorem dX6_digest_95 : decode cX6_digest 95 = .ok (.iload_n 3, 1) := by decide +kernel
theorem dX6_digest_96 : decode cX6_digest 96 = .ok (.iaload, 1) := by decide +kernel
theorem dX6_digest_97 : decode cX6_digest 97 = .ok (.i2l, 1) := by decide +kernel
theorem dX6_digest_98 : decode cX6_digest 98 = .ok (.ladd, 1) := by decide +kernel
theorem dX6_digest_99 : decode cX6_digest 99 = .ok (.ldc2_w 188, 3) := by decide +kernel
theorem dX6_digest_102 : decode cX6_digest 102 = .ok (.lmul, 1) := by decide +kernel
theorem dX6_digest_103 : decode cX6_digest 103 = .ok (.aload_n 0, 1) := by decide +kernel
theorem dX6_digest_104 : decode cX6_digest 104 = .ok (.getfield 9, 3) := by decide +kernel
theorem dX6_digest_107 : decode cX6_digest 107 = .ok (.iload_n 3, 1) := by decide +kernel
theorem dX6_digest_108 : decode cX6_digest 108 = .ok (.iaload, 1) := by decide +kernel
theorem dX6_digest_109 : decode cX6_digest 109 = .ok (.i2l, 1) := by decide +kernel
theorem dX6_digest_110 : decode cX6_digest 110 = .ok (.ladd, 1) := by decide +kernel
theorem dX6_digest_111 : decode cX6_digest 111 = .ok (.ldc2_w 188, 3) := by decide +kernel
theorem dX6_digest_114 : decode cX6_digest 114 = .ok (.lmul, 1) := by decide +kernel
theorem dX6_digest_115 : decode cX6_digest 115 = .ok (.aload_n 0, 1) := by decide +kernel
theorem dX6_digest_116 : decode cX6_digest 116 = .ok (.getfield 22, 3) := by decide +kernel
theorem dX6_digest_119 : decode cX6_digest 119 = .ok (.iload_n 3, 1) := by decide +kernel
theorem dX6_digest_120 : decode cX6_digest 120 = .ok (.iaload, 1) := by decide +kernel
theorem dX6_digest_121 : decode cX6_digest 121 = .ok (.i2l, 1) := by decide +kernel
theorem dX6_digest_122 : decode cX6_digest 122 = .ok (.ladd, 1) := by decide +kernel
theorem dX6_digest_123 : decode cX6_digest 123 = .ok (.ldc2_w 188, 3) := by decide +kernel
theorem dX6_digest_126 : decode cX6_digest 126 = .ok (.lmul, 1) := by decide +kernel
theorem dX6_digest_127 : decode cX6_digest 127 = .ok (.aload_n 0, 1) := by decide +kernel
theorem dX6_digest_128 : decode cX6_digest 128 = .ok (.getfield 25, 3) := by decide +kernel
theorem dX6_digest_131 : decode cX6_digest 131 = .ok (.iload_n 3, 1) := by decide +kernel
theorem dX6_digest_132 : decode cX6_digest 132 = .ok (.iaload, 1) := by decide +kernel
theorem dX6_digest_133 : decode cX6_digest 133 = .ok (.i2l, 1) := by decide +kernel
theorem dX6_digest_134 : decode cX6_digest 134 = .ok (.ladd, 1) := by decide +kernel
theorem dX6_digest_135 : decode cX6_digest 135 = .ok (.lstore_n 1, 1) := by decide +kernel
theorem dX6_digest_136 : decode cX6_digest 136 = .ok (.iinc 3 1, 3) := by decide +kernel
theorem dX6_digest_139 : decode cX6_digest 139 = .ok (.goto (-60), 3) := by decide +kernel
theorem dX6_digest_142 : decode cX6_digest 142 = .ok (.iconst 0, 1) := by decide +kernel
theorem dX6_digest_143 : decode cX6_digest 143 = .ok (.istore_n 3, 1) := by decide +kernel
theorem dX6_digest_144 : decode cX6_digest 144 = .ok (.iload_n 3, 1) := by decide +kernel
theorem dX6_digest_145 : decode cX6_digest 145 = .ok (.aload_n 0, 1) := by decide +kernel
theorem dX6_digest_146 : decode cX6_digest 146 = .ok (.getfield 52, 3) := by decide +kernel
theorem dX6_digest_149 : decode cX6_digest 149 = .ok (.if_icmp .ge 23, 3) := by decide +kernel
theorem dX6_digest_152 : decode cX6_digest 152 = .ok (.lload_n 1, 1) := by decide +kernel
theorem dX6_digest_153 : decode cX6_digest 153 = .ok (.ldc2_w 188, 3) := by decide +kernel
theorem dX6_digest_156 : decode cX6_digest 156 = .ok (.lmul, 1) := by decide +kernel
theorem dX6_digest_157 : decode cX6_digest 157 = .ok (.aload_n 0, 1) := by decide +kernel
theorem dX6_digest_158 : decode cX6_digest 158 = .ok (.getfield 16, 3) := by decide +kernel
theorem dX6_digest_161 : decode cX6_digest 161 = .ok (.iload_n 3, 1) := by decide +kernel
theorem dX6_digest_162 : decode cX6_digest 162 = .ok (.iaload, 1) := by decide +kernel
theorem dX6_digest_163 : decode cX6_digest 163 = .ok (.i2l, 1) := by decide +kernel
theorem dX6_digest_164 : decode cX6_digest 164 = .ok (.ladd, 1) := by decide +kernel
theorem dX6_digest_165 : decode cX6_digest 165 = .ok (.lstore_n 1, 1) := by decide +kernel
theorem dX6_digest_166 : decode cX6_digest 166 = .ok (.iinc 3 1, 3) := by decide +kernel
theorem dX6_digest_169 : decode cX6_digest 169 = .ok (.goto (-25), 3) := by decide +kernel
theorem dX6_digest_172 : decode cX6_digest 172 = .ok (.iconst 0, 1) := by decide +kernel
theorem dX6_digest_173 : decode cX6_digest 173 = .ok (.istore_n 3, 1) := by decide +kernel
theorem dX6_digest_174 : decode cX6_digest 174 = .ok (.iload_n 3, 1) := by decide +kernel
theorem dX6_digest_175 : decode cX6_digest 175 = .ok (.aload_n 0, 1) := by decide +kernel
theorem dX6_digest_176 : decode cX6_digest 176 = .ok (.getfield 55, 3) := by decide +kernel
theorem dX6_digest_179 : decode cX6_digest 179 = .ok (.if_icmp .ge 40, 3) := by decide +kernel
theorem dX6_digest_182 : decode cX6_digest 182 = .ok (.iconst 0, 1) := by decide +kernel
theorem dX6_digest_183 : decode cX6_digest 183 = .ok (.istore 4, 2) := by decide +kernel
theorem dX6_digest_185 : decode cX6_digest 185 = .ok (.iload 4, 2) := by decide +kernel
theorem dX6_digest_187 : decode cX6_digest 187 = .ok (.bipush 9, 2) := by decide +kernel
theorem dX6_digest_189 : decode cX6_digest 189 = .ok (.if_icmp .ge 24, 3) := by decide +kernel
theorem dX6_digest_192 : decode cX6_digest 192 = .ok (.lload_n 1, 1) := by decide +kernel
theorem dX6_digest_193 : decode cX6_digest 193 = .ok (.ldc2_w 188, 3) := by decide +kernel
theorem dX6_digest_196 : decode cX6_digest 196 = .ok (.lmul, 1) := by decide +kernel
theorem dX6_digest_197 : decode cX6_digest 197 = .ok (.aload_n 0, 1) := by decide +kernel
theorem dX6_digest_198 : decode cX6_digest 198 = .ok (.iload_n 3, 1) := by decide +kernel
theorem dX6_digest_199 : decode cX6_digest 199 = .ok (.iload 4, 2) := by decide +kernel
theorem dX6_digest_201 : decode cX6_digest 201 = .ok (.invokevirtual 133, 3) := by decide +kernel
theorem dX6_digest_204 : decode cX6_digest 204 = .ok (.i2l, 1) := by decide +kernel
theorem dX6_digest_205 : decode cX6_digest 205 = .ok (.ladd, 1) := by decide +kernel
theorem dX6_digest_206 : decode cX6_digest 206 = .ok (.lstore_n 1, 1) := by decide +kernel
theorem dX6_digest_207 : decode cX6_digest 207 = .ok (.iinc 4 1, 3) := by decide +kernel
theorem dX6_digest_210 : decode cX6_digest 210 = .ok (.goto (-25), 3) := by decide +kernel
theorem dX6_digest_213 : decode cX6_digest 213 = .ok (.iinc 3 1, 3) := by decide +kernel
theorem dX6_digest_216 : decode cX6_digest 216 = .ok (.goto (-42), 3) := by decide +kernel
theorem dX6_digest_219 : decode cX6_digest 219 = .ok (.iconst 0, 1) := by decide +kernel
theorem dX6_digest_220 : decode cX6_digest 220 = .ok (.istore_n 3, 1) := by decide +kernel
theorem dX6_digest_221 : decode cX6_digest 221 = .ok (.iload_n 3, 1) := by decide +kernel
theorem dX6_digest_222 : decode cX6_digest 222 = .ok (.aload_n 0, 1) := by decide +kernel
theorem dX6_digest_223 : decode cX6_digest 223 = .ok (.getfield 90, 3) := by decide +kernel
theorem dX6_digest_226 : decode cX6_digest 226 = .ok (.if_icmp .ge 39, 3) := by decide +kernel
theorem dX6_digest_229 : decode cX6_digest 229 = .ok (.iconst 0, 1) := by decide +kernel
theorem dX6_digest_230 : decode cX6_digest 230 = .ok (.istore 4, 2) := by decide +kernel
theorem dX6_digest_232 : decode cX6_digest 232 = .ok (.iload 4, 2) := by decide +kernel
theorem dX6_digest_234 : decode cX6_digest 234 = .ok (.iconst 5, 1) := by decide +kernel
theorem dX6_digest_235 : decode cX6_digest 235 = .ok (.if_icmp .ge 24, 3) := by decide +kernel
theorem dX6_digest_238 : decode cX6_digest 238 = .ok (.lload_n 1, 1) := by decide +kernel
theorem dX6_digest_239 : decode cX6_digest 239 = .ok (.ldc2_w 188, 3) := by decide +kernel
theorem dX6_digest_242 : decode cX6_digest 242 = .ok (.lmul, 1) := by decide +kernel
theorem dX6_digest_243 : decode cX6_digest 243 = .ok (.aload_n 0, 1) := by decide +kernel
theorem dX6_digest_244 : decode cX6_digest 244 = .ok (.iload_n 3, 1) := by decide +kernel
theorem dX6_digest_245 : decode cX6_digest 245 = .ok (.iload 4, 2) := by decide +kernel
theorem dX6_digest_247 : decode cX6_digest 247 = .ok (.invokevirtual 93, 3) := by decide +kernel
theorem dX6_digest_250 : decode cX6_digest 250 = .ok (.i2l, 1) := by decide +kernel
theorem dX6_digest_251 : decode cX6_digest 251 = .ok (.ladd, 1) := by decide +kernel
theorem dX6_digest_252 : decode cX6_digest 252 = .ok (.lstore_n 1, 1) := by decide +kernel
theorem dX6_digest_253 : decode cX6_digest 253 = .ok (.iinc 4 1, 3) := by decide +kernel
theorem dX6_digest_256 : decode cX6_digest 256 = .ok (.goto (-24), 3) := by decide +kernel
theorem dX6_digest_259 : decode cX6_digest 259 = .ok (.iinc 3 1, 3) := by decide +kernel
theorem dX6_digest_262 : decode cX6_digest 262 = .ok (.goto (-41), 3) := by decide +kernel
theorem dX6_digest_265 : decode cX6_digest 265 = .ok (.lload_n 1, 1) := by decide +kernel
theorem dX6_digest_266 : decode cX6_digest 266 = .ok (.lreturn, 1) := by decide +kernel
theorem dJ9_floorMod_7cf53_0 : decode cJ9_floorMod_7cf53 0 = .ok (.iload_n 0, 1) := by decide +kernel
theorem dJ9_floorMod_7cf53_1 : decode cJ9_floorMod_7cf53 1 = .ok (.iload_n 1, 1) := by decide +kernel
theorem dJ9_floorMod_7cf53_2 : decode cJ9_floorMod_7cf53 2 = .ok (.irem, 1) := by decide +kernel
theorem dJ9_floorMod_7cf53_3 : decode cJ9_floorMod_7cf53 3 = .ok (.istore_n 2, 1) := by decide +kernel
theorem dJ9_floorMod_7cf53_4 : decode cJ9_floorMod_7cf53 4 = .ok (.iload_n 0, 1) := by decide +kernel
theorem dJ9_floorMod_7cf53_5 : decode cJ9_floorMod_7cf53 5 = .ok (.iload_n 1, 1) := by decide +kernel
theorem dJ9_floorMod_7cf53_6 : decode cJ9_floorMod_7cf53 6 = .ok (.ixor, 1) := by decide +kernel
theorem dJ9_floorMod_7cf53_7 : decode cJ9_floorMod_7cf53 7 = .ok (.ifCond .ge 11, 3) := by decide +kernel
theorem dJ9_floorMod_7cf53_10 : decode cJ9_floorMod_7cf53 10 = .ok (.iload_n 2, 1) := by decide +kernel
theorem dJ9_floorMod_7cf53_11 : decode cJ9_floorMod_7cf53 11 = .ok (.ifCond .eq 7, 3) := by decide +kernel
theorem dJ9_floorMod_7cf53_14 : decode cJ9_floorMod_7cf53 14 = .ok (.iload_n 2, 1) := by decide +kernel
theorem dJ9_floorMod_7cf53_15 : decode cJ9_floorMod_7cf53 15 = .ok (.iload_n 1, 1) := by decide +kernel
theorem dJ9_floorMod_7cf53_16 : decode cJ9_floorMod_7cf53 16 = .ok (.iadd, 1) := by decide +kernel
theorem dJ9_floorMod_7cf53_17 : decode cJ9_floorMod_7cf53 17 = .ok (.ireturn, 1) := by decide +kernel
theorem dJ9_floorMod_7cf53_18 : decode cJ9_floorMod_7cf53 18 = .ok (.iload_n 2, 1) := by decide +kernel
theorem dJ9_floorMod_7cf53_19 : decode cJ9_floorMod_7cf53 19 = .ok (.ireturn, 1) := by decide +kernel
theorem dJ9_max_7cf53_0 : decode cJ9_max_7cf53 0 = .ok (.iload_n 0, 1) := by decide +kernel
theorem dJ9_max_7cf53_1 : decode cJ9_max_7cf53 1 = .ok (.iload_n 1, 1) := by decide +kernel
theorem dJ9_max_7cf53_2 : decode cJ9_max_7cf53 2 = .ok (.if_icmp .lt 7, 3) := by decide +kernel
theorem dJ9_max_7cf53_5 : decode cJ9_max_7cf53 5 = .ok (.iload_n 0, 1) := by decide +kernel
theorem dJ9_max_7cf53_6 : decode cJ9_max_7cf53 6 = .ok (.goto 4, 3) := by decide +kernel
theorem dJ9_max_7cf53_9 : decode cJ9_max_7cf53 9 = .ok (.iload_n 1, 1) := by decide +kernel
theorem dJ9_max_7cf53_10 : decode cJ9_max_7cf53 10 = .ok (.ireturn, 1) := by decide +kernel
theorem dJ9_min_7cf53_0 : decode cJ9_min_7cf53 0 = .ok (.iload_n 0, 1) := by decide +kernel
theorem dJ9_min_7cf53_1 : decode cJ9_min_7cf53 1 = .ok (.iload_n 1, 1) := by decide +kernel
theorem dJ9_min_7cf53_2 : decode cJ9_min_7cf53 2 = .ok (.if_icmp .gt 7, 3) := by decide +kernel
theorem dJ9_min_7cf53_5 : decode cJ9_min_7cf53 5 = .ok (.iload_n 0, 1) := by decide +kernel
theorem dJ9_min_7cf53_6 : decode cJ9_min_7cf53 6 = .ok (.goto 4, 3) := by decide +kernel
theorem dJ9_min_7cf53_9 : decode cJ9_min_7cf53 9 = .ok (.iload_n 1, 1) := by decide +kernel
theorem dJ9_min_7cf53_10 : decode cJ9_min_7cf53 10 = .ok (.ireturn, 1) := by decide +kernel
theorem dJ7_fill_53178_0 : decode cJ7_fill_53178 0 = .ok (.iconst 0, 1) := by decide +kernel
theorem dJ7_fill_53178_1 : decode cJ7_fill_53178 1 = .ok (.istore_n 2, 1) := by decide +kernel
theorem dJ7_fill_53178_2 : decode cJ7_fill_53178 2 = .ok (.aload_n 0, 1) := by decide +kernel
theorem dJ7_fill_53178_3 : decode cJ7_fill_53178 3 = .ok (.arraylength, 1) := by decide +kernel
theorem dJ7_fill_53178_4 : decode cJ7_fill_53178 4 = .ok (.istore_n 3, 1) := by decide +kernel
theorem dJ7_fill_53178_5 : decode cJ7_fill_53178 5 = .ok (.iload_n 2, 1) := by decide +kernel
theorem dJ7_fill_53178_6 : decode cJ7_fill_53178 6 = .ok (.iload_n 3, 1) := by decide +kernel
theorem dJ7_fill_53178_7 : decode cJ7_fill_53178 7 = .ok (.if_icmp .ge 13, 3) := by decide +kernel
theorem dJ7_fill_53178_10 : decode cJ7_fill_53178 10 = .ok (.aload_n 0, 1) := by decide +kernel
theorem dJ7_fill_53178_11 : decode cJ7_fill_53178 11 = .ok (.iload_n 2, 1) := by decide +kernel
theorem dJ7_fill_53178_12 : decode cJ7_fill_53178 12 = .ok (.iload_n 1, 1) := by decide +kernel
theorem dJ7_fill_53178_13 : decode cJ7_fill_53178 13 = .ok (.iastore, 1) := by decide +kernel
theorem dJ7_fill_53178_14 : decode cJ7_fill_53178 14 = .ok (.iinc 2 1, 3) := by decide +kernel
theorem dJ7_fill_53178_17 : decode cJ7_fill_53178 17 = .ok (.goto (-12), 3) := by decide +kernel
theorem dJ7_fill_53178_20 : decode cJ7_fill_53178 20 = .ok (.return_, 1) := by decide +kernel
theorem dL_setIce_0 : decode cL_setIce 0 = .ok (.aload 6, 2) := by decide +kernel
theorem dL_setIce_2 : decode cL_setIce 2 = .ok (.iconst 0, 1) := by decide +kernel
theorem dL_setIce_3 : decode cL_setIce 3 = .ok (.aload_n 0, 1) := by decide +kernel
theorem dL_setIce_4 : decode cL_setIce 4 = .ok (.iload_n 1, 1) := by decide +kernel
theorem dL_setIce_5 : decode cL_setIce 5 = .ok (.iload_n 2, 1) := by decide +kernel
theorem dL_setIce_6 : decode cL_setIce 6 = .ok (.iload_n 3, 1) := by decide +kernel
theorem dL_setIce_7 : decode cL_setIce 7 = .ok (.iload 4, 2) := by decide +kernel
theorem dL_setIce_9 : decode cL_setIce 9 = .ok (.iload 5, 2) := by decide +kernel
theorem dL_setIce_11 : decode cL_setIce 11 = .ok (.invokevirtual 7, 3) := by decide +kernel
theorem dL_setIce_14 : decode cL_setIce 14 = .ok (.i2l, 1) := by decide +kernel
theorem dL_setIce_15 : decode cL_setIce 15 = .ok (.lastore, 1) := by decide +kernel
theorem dL_setIce_16 : decode cL_setIce 16 = .ok (.goto 11, 3) := by decide +kernel
theorem dL_setIce_19 : decode cL_setIce 19 = .ok (.astore 7, 2) := by decide +kernel
theorem dL_setIce_21 : decode cL_setIce 21 = .ok (.iconst 1, 1) := by decide +kernel
theorem dL_setIce_22 : decode cL_setIce 22 = .ok (.ireturn, 1) := by decide +kernel
theorem dL_setIce_23 : decode cL_setIce 23 = .ok (.astore 7, 2) := by decide +kernel
theorem dL_setIce_25 : decode cL_setIce 25 = .ok (.iconst 2, 1) := by decide +kernel
theorem dL_setIce_26 : decode cL_setIce 26 = .ok (.ireturn, 1) := by decide +kernel
theorem dL_setIce_27 : decode cL_setIce 27 = .ok (.iconst 0, 1) := by decide +kernel
theorem dL_setIce_28 : decode cL_setIce 28 = .ok (.ireturn, 1) := by decide +kernel
theorem dL_setSnow_0 : decode cL_setSnow 0 = .ok (.aload 4, 2) := by decide +kernel
theorem dL_setSnow_2 : decode cL_setSnow 2 = .ok (.iconst 0, 1) := by decide +kernel
theorem dL_setSnow_3 : decode cL_setSnow 3 = .ok (.aload_n 0, 1) := by decide +kernel
theorem dL_setSnow_4 : decode cL_setSnow 4 = .ok (.iload_n 1, 1) := by decide +kernel
theorem dL_setSnow_5 : decode cL_setSnow 5 = .ok (.iload_n 2, 1) := by decide +kernel
theorem dL_setSnow_6 : decode cL_setSnow 6 = .ok (.iload_n 3, 1) := by decide +kernel
theorem dL_setSnow_7 : decode cL_setSnow 7 = .ok (.invokevirtual 17, 3) := by decide +kernel
theorem dL_setSnow_10 : decode cL_setSnow 10 = .ok (.i2l, 1) := by decide +kernel
theorem dL_setSnow_11 : decode cL_setSnow 11 = .ok (.lastore, 1) := by decide +kernel
theorem dL_setSnow_12 : decode cL_setSnow 12 = .ok (.goto 11, 3) := by decide +kernel
theorem dL_setSnow_15 : decode cL_setSnow 15 = .ok (.astore 5, 2) := by decide +kernel
theorem dL_setSnow_17 : decode cL_setSnow 17 = .ok (.iconst 1, 1) := by decide +kernel
theorem dL_setSnow_18 : decode cL_setSnow 18 = .ok (.ireturn, 1) := by decide +kernel
theorem dL_setSnow_19 : decode cL_setSnow 19 = .ok (.astore 5, 2) := by decide +kernel
theorem dL_setSnow_21 : decode cL_setSnow 21 = .ok (.iconst 2, 1) := by decide +kernel
theorem dL_setSnow_22 : decode cL_setSnow 22 = .ok (.ireturn, 1) := by decide +kernel
theorem dL_setSnow_23 : decode cL_setSnow 23 = .ok (.iconst 0, 1) := by decide +kernel
theorem dL_setSnow_24 : decode cL_setSnow 24 = .ok (.ireturn, 1) := by decide +kernel
theorem dL_setCold_0 : decode cL_setCold 0 = .ok (.aload_n 3, 1) := by decide +kernel
theorem dL_setCold_1 : decode cL_setCold 1 = .ok (.iconst 0, 1) := by decide +kernel
theorem dL_setCold_2 : decode cL_setCold 2 = .ok (.aload_n 0, 1) := by decide +kernel
theorem dL_setCold_3 : decode cL_setCold 3 = .ok (.iload_n 1, 1) := by decide +kernel
theorem dL_setCold_4 : decode cL_setCold 4 = .ok (.iload_n 2, 1) := by decide +kernel
theorem dL_setCold_5 : decode cL_setCold 5 = .ok (.invokevirtual 23, 3) := by decide +kernel
theorem dL_setCold_8 : decode cL_setCold 8 = .ok (.i2l, 1) := by decide +kernel
theorem dL_setCold_9 : decode cL_setCold 9 = .ok (.lastore, 1) := by decide +kernel
theorem dL_setCold_10 : decode cL_setCold 10 = .ok (.goto 11, 3) := by decide +kernel
theorem dL_setCold_13 : decode cL_setCold 13 = .ok (.astore 4, 2) := by decide +kernel
theorem dL_setCold_15 : decode cL_setCold 15 = .ok (.iconst 1, 1) := by decide +kernel
theorem dL_setCold_16 : decode cL_setCold 16 = .ok (.ireturn, 1) := by decide +kernel
theorem dL_setCold_17 : decode cL_setCold 17 = .ok (.astore 4, 2) := by decide +kernel
theorem dL_setCold_19 : decode cL_setCold 19 = .ok (.iconst 2, 1) := by decide +kernel
theorem dL_setCold_20 : decode cL_setCold 20 = .ok (.ireturn, 1) := by decide +kernel
theorem dL_setCold_21 : decode cL_setCold 21 = .ok (.iconst 0, 1) := by decide +kernel
theorem dL_setCold_22 : decode cL_setCold 22 = .ok (.ireturn, 1) := by decide +kernel
theorem dL_cell_0 : decode cL_cell 0 = .ok (.aload 4, 2) := by decide +kernel
theorem dL_cell_2 : decode cL_cell 2 = .ok (.iconst 0, 1) := by decide +kernel
theorem dL_cell_3 : decode cL_cell 3 = .ok (.aload_n 0, 1) := by decide +kernel
theorem dL_cell_4 : decode cL_cell 4 = .ok (.iload_n 1, 1) := by decide +kernel
theorem dL_cell_5 : decode cL_cell 5 = .ok (.iload_n 2, 1) := by decide +kernel
theorem dL_cell_6 : decode cL_cell 6 = .ok (.iload_n 3, 1) := by decide +kernel
theorem dL_cell_7 : decode cL_cell 7 = .ok (.invokevirtual 27, 3) := by decide +kernel
theorem dL_cell_10 : decode cL_cell 10 = .ok (.i2l, 1) := by decide +kernel
theorem dL_cell_11 : decode cL_cell 11 = .ok (.lastore, 1) := by decide +kernel
theorem dL_cell_12 : decode cL_cell 12 = .ok (.goto 7, 3) := by decide +kernel
theorem dL_cell_15 : decode cL_cell 15 = .ok (.astore 5, 2) := by decide +kernel
theorem dL_cell_17 : decode cL_cell 17 = .ok (.iconst 1, 1) := by decide +kernel
theorem dL_cell_18 : decode cL_cell 18 = .ok (.ireturn, 1) := by decide +kernel
theorem dL_cell_19 : decode cL_cell 19 = .ok (.iconst 0, 1) := by decide +kernel
theorem dL_cell_20 : decode cL_cell 20 = .ok (.ireturn, 1) := by decide +kernel
theorem dL_addPost_0 : decode cL_addPost 0 = .ok (.aload_n 3, 1) := by decide +kernel
theorem dL_addPost_1 : decode cL_addPost 1 = .ok (.iconst 0, 1) := by decide +kernel
theorem dL_addPost_2 : decode cL_addPost 2 = .ok (.aload_n 0, 1) := by decide +kernel
theorem dL_addPost_3 : decode cL_addPost 3 = .ok (.iload_n 1, 1) := by decide +kernel
theorem dL_addPost_4 : decode cL_addPost 4 = .ok (.iload_n 2, 1) := by decide +kernel
theorem dL_addPost_5 : decode cL_addPost 5 = .ok (.invokevirtual 30, 3) := by decide +kernel
theorem dL_addPost_8 : decode cL_addPost 8 = .ok (.i2l, 1) := by decide +kernel
theorem dL_addPost_9 : decode cL_addPost 9 = .ok (.lastore, 1) := by decide +kernel
theorem dL_addPost_10 : decode cL_addPost 10 = .ok (.goto 11, 3) := by decide +kernel
theorem dL_addPost_13 : decode cL_addPost 13 = .ok (.astore 4, 2) := by decide +kernel
theorem dL_addPost_15 : decode cL_addPost 15 = .ok (.iconst 1, 1) := by decide +kernel
theorem dL_addPost_16 : decode cL_addPost 16 = .ok (.ireturn, 1) := by decide +kernel
theorem dL_addPost_17 : decode cL_addPost 17 = .ok (.astore 4, 2) := by decide +kernel
theorem dL_addPost_19 : decode cL_addPost 19 = .ok (.iconst 2, 1) := by decide +kernel
theorem dL_addPost_20 : decode cL_addPost 20 = .ok (.ireturn, 1) := by decide +kernel
theorem dL_addPost_21 : decode cL_addPost 21 = .ok (.iconst 0, 1) := by decide +kernel
theorem dL_addPost_22 : decode cL_addPost 22 = .ok (.ireturn, 1) := by decide +kernel
theorem dL_addSleigh_0 : decode cL_addSleigh 0 = .ok (.aload_n 3, 1) := by decide +kernel
theorem dL_addSleigh_1 : decode cL_addSleigh 1 = .ok (.iconst 0, 1) := by decide +kernel
theorem dL_addSleigh_2 : decode cL_addSleigh 2 = .ok (.aload_n 0, 1) := by decide +kernel
theorem dL_addSleigh_3 : decode cL_addSleigh 3 = .ok (.iload_n 1, 1) := by decide +kernel
theorem dL_addSleigh_4 : decode cL_addSleigh 4 = .ok (.iload_n 2, 1) := by decide +kernel
theorem dL_addSleigh_5 : decode cL_addSleigh 5 = .ok (.invokevirtual 33, 3) := by decide +kernel
theorem dL_addSleigh_8 : decode cL_addSleigh 8 = .ok (.i2l, 1) := by decide +kernel
theorem dL_addSleigh_9 : decode cL_addSleigh 9 = .ok (.lastore, 1) := by decide +kernel
theorem dL_addSleigh_10 : decode cL_addSleigh 10 = .ok (.goto 15, 3) := by decide +kernel
theorem dL_addSleigh_13 : decode cL_addSleigh 13 = .ok (.astore 4, 2) := by decide +kernel
theorem dL_addSleigh_15 : decode cL_addSleigh 15 = .ok (.iconst 1, 1) := by decide +kernel
theorem dL_addSleigh_16 : decode cL_addSleigh 16 = .ok (.ireturn, 1) := by decide +kernel
theorem dL_addSleigh_17 : decode cL_addSleigh 17 = .ok (.astore 4, 2) := by decide +kernel
theorem dL_addSleigh_19 : decode cL_addSleigh 19 = .ok (.iconst 2, 1) := by decide +kernel
theorem dL_addSleigh_20 : decode cL_addSleigh 20 = .ok (.ireturn, 1) := by decide +kernel
theorem dL_addSleigh_21 : decode cL_addSleigh 21 = .ok (.astore 4, 2) := by decide +kernel
theorem dL_addSleigh_23 : decode cL_addSleigh 23 = .ok (.iconst 3, 1) := by decide +kernel
theorem dL_addSleigh_24 : decode cL_addSleigh 24 = .ok (.ireturn, 1) := by decide +kernel
theorem dL_addSleigh_25 : decode cL_addSleigh 25 = .ok (.iconst 0, 1) := by decide +kernel
theorem dL_addSleigh_26 : decode cL_addSleigh 26 = .ok (.ireturn, 1) := by decide +kernel
theorem dL_addBag_0 : decode cL_addBag 0 = .ok (.aload 4, 2) := by decide +kernel
theorem dL_addBag_2 : decode cL_addBag 2 = .ok (.iconst 0, 1) := by decide +kernel
theorem dL_addBag_3 : decode cL_addBag 3 = .ok (.aload_n 0, 1) := by decide +kernel
theorem dL_addBag_4 : decode cL_addBag 4 = .ok (.iload_n 1, 1) := by decide +kernel
theorem dL_addBag_5 : decode cL_addBag 5 = .ok (.iload_n 2, 1) := by decide +kernel
theorem dL_addBag_6 : decode cL_addBag 6 = .ok (.iload_n 3, 1) := by decide +kernel
theorem dL_addBag_7 : decode cL_addBag 7 = .ok (.invokevirtual 36, 3) := by decide +kernel
theorem dL_addBag_10 : decode cL_addBag 10 = .ok (.i2l, 1) := by decide +kernel
theorem dL_addBag_11 : decode cL_addBag 11 = .ok (.lastore, 1) := by decide +kernel
theorem dL_addBag_12 : decode cL_addBag 12 = .ok (.goto 15, 3) := by decide +kernel
theorem dL_addBag_15 : decode cL_addBag 15 = .ok (.astore 5, 2) := by decide +kernel
theorem dL_addBag_17 : decode cL_addBag 17 = .ok (.iconst 1, 1) := by decide +kernel
theorem dL_addBag_18 : decode cL_addBag 18 = .ok (.ireturn, 1) := by decide +kernel
theorem dL_addBag_19 : decode cL_addBag 19 = .ok (.astore 5, 2) := by decide +kernel
theorem dL_addBag_21 : decode cL_addBag 21 = .ok (.iconst 2, 1) := by decide +kernel
theorem dL_addBag_22 : decode cL_addBag 22 = .ok (.ireturn, 1) := by decide +kernel
theorem dL_addBag_23 : decode cL_addBag 23 = .ok (.astore 5, 2) := by decide +kernel
theorem dL_addBag_25 : decode cL_addBag 25 = .ok (.iconst 3, 1) := by decide +kernel
theorem dL_addBag_26 : decode cL_addBag 26 = .ok (.ireturn, 1) := by decide +kernel
theorem dL_addBag_27 : decode cL_addBag 27 = .ok (.iconst 0, 1) := by decide +kernel
theorem dL_addBag_28 : decode cL_addBag 28 = .ok (.ireturn, 1) := by decide +kernel
theorem dL_load_0 : decode cL_load 0 = .ok (.aload_n 3, 1) := by decide +kernel
theorem dL_load_1 : decode cL_load 1 = .ok (.iconst 0, 1) := by decide +kernel
theorem dL_load_2 : decode cL_load 2 = .ok (.aload_n 0, 1) := by decide +kernel
theorem dL_load_3 : decode cL_load 3 = .ok (.iload_n 1, 1) := by decide +kernel
theorem dL_load_4 : decode cL_load 4 = .ok (.iload_n 2, 1) := by decide +kernel
theorem dL_load_5 : decode cL_load 5 = .ok (.invokevirtual 39, 3) := by decide +kernel
theorem dL_load_8 : decode cL_load 8 = .ok (.i2l, 1) := by decide +kernel
theorem dL_load_9 : decode cL_load 9 = .ok (.lastore, 1) := by decide +kernel
theorem dL_load_10 : decode cL_load 10 = .ok (.goto 11, 3) := by decide +kernel
theorem dL_load_13 : decode cL_load 13 = .ok (.astore 4, 2) := by decide +kernel
theorem dL_load_15 : decode cL_load 15 = .ok (.iconst 1, 1) := by decide +kernel
theorem dL_load_16 : decode cL_load 16 = .ok (.ireturn, 1) := by decide +kernel
theorem dL_load_17 : decode cL_load 17 = .ok (.astore 4, 2) := by decide +kernel
theorem dL_load_19 : decode cL_load 19 = .ok (.iconst 2, 1) := by decide +kernel
theorem dL_load_20 : decode cL_load 20 = .ok (.ireturn, 1) := by decide +kernel
theorem dL_load_21 : decode cL_load 21 = .ok (.iconst 0, 1) := by decide +kernel
theorem dL_load_22 : decode cL_load 22 = .ok (.ireturn, 1) := by decide +kernel
theorem dL_send_0 : decode cL_send 0 = .ok (.aload_n 3, 1) := by decide +kernel
theorem dL_send_1 : decode cL_send 1 = .ok (.iconst 0, 1) := by decide +kernel
theorem dL_send_2 : decode cL_send 2 = .ok (.aload_n 0, 1) := by decide +kernel
theorem dL_send_3 : decode cL_send 3 = .ok (.iload_n 1, 1) := by decide +kernel
theorem dL_send_4 : decode cL_send 4 = .ok (.iload_n 2, 1) := by decide +kernel
theorem dL_send_5 : decode cL_send 5 = .ok (.invokevirtual 42, 3) := by decide +kernel
theorem dL_send_8 : decode cL_send 8 = .ok (.i2l, 1) := by decide +kernel
theorem dL_send_9 : decode cL_send 9 = .ok (.lastore, 1) := by decide +kernel
theorem dL_send_10 : decode cL_send 10 = .ok (.goto 15, 3) := by decide +kernel
theorem dL_send_13 : decode cL_send 13 = .ok (.astore 4, 2) := by decide +kernel
theorem dL_send_15 : decode cL_send 15 = .ok (.iconst 1, 1) := by decide +kernel
theorem dL_send_16 : decode cL_send 16 = .ok (.ireturn, 1) := by decide +kernel
theorem dL_send_17 : decode cL_send 17 = .ok (.astore 4, 2) := by decide +kernel
theorem dL_send_19 : decode cL_send 19 = .ok (.iconst 2, 1) := by decide +kernel
theorem dL_send_20 : decode cL_send 20 = .ok (.ireturn, 1) := by decide +kernel
theorem dL_send_21 : decode cL_send 21 = .ok (.astore 4, 2) := by decide +kernel
theorem dL_send_23 : decode cL_send 23 = .ok (.iconst 3, 1) := by decide +kernel
theorem dL_send_24 : decode cL_send 24 = .ok (.ireturn, 1) := by decide +kernel
theorem dL_send_25 : decode cL_send 25 = .ok (.iconst 0, 1) := by decide +kernel
theorem dL_send_26 : decode cL_send 26 = .ok (.ireturn, 1) := by decide +kernel
theorem dL_sleigh_0 : decode cL_sleigh 0 = .ok (.aload_n 3, 1) := by decide +kernel
theorem dL_sleigh_1 : decode cL_sleigh 1 = .ok (.iconst 0, 1) := by decide +kernel
theorem dL_sleigh_2 : decode cL_sleigh 2 = .ok (.aload_n 0, 1) := by decide +kernel
theorem dL_sleigh_3 : decode cL_sleigh 3 = .ok (.iload_n 1, 1) := by decide +kernel
theorem dL_sleigh_4 : decode cL_sleigh 4 = .ok (.iload_n 2, 1) := by decide +kernel
theorem dL_sleigh_5 : decode cL_sleigh 5 = .ok (.invokevirtual 45, 3) := by decide +kernel
theorem dL_sleigh_8 : decode cL_sleigh 8 = .ok (.i2l, 1) := by decide +kernel
theorem dL_sleigh_9 : decode cL_sleigh 9 = .ok (.lastore, 1) := by decide +kernel
theorem dL_sleigh_10 : decode cL_sleigh 10 = .ok (.goto 7, 3) := by decide +kernel
theorem dL_sleigh_13 : decode cL_sleigh 13 = .ok (.astore 4, 2) := by decide +kernel
theorem dL_sleigh_15 : decode cL_sleigh 15 = .ok (.iconst 1, 1) := by decide +kernel
theorem dL_sleigh_16 : decode cL_sleigh 16 = .ok (.ireturn, 1) := by decide +kernel
theorem dL_sleigh_17 : decode cL_sleigh 17 = .ok (.iconst 0, 1) := by decide +kernel
theorem dL_sleigh_18 : decode cL_sleigh 18 = .ok (.ireturn, 1) := by decide +kernel
theorem dL_bag_0 : decode cL_bag 0 = .ok (.aload_n 3, 1) := by decide +kernel
theorem dL_bag_1 : decode cL_bag 1 = .ok (.iconst 0, 1) := by decide +kernel
theorem dL_bag_2 : decode cL_bag 2 = .ok (.aload_n 0, 1) := by decide +kernel
theorem dL_bag_3 : decode cL_bag 3 = .ok (.iload_n 1, 1) := by decide +kernel
theorem dL_bag_4 : decode cL_bag 4 = .ok (.iload_n 2, 1) := by decide +kernel
theorem dL_bag_5 : decode cL_bag 5 = .ok (.invokevirtual 48, 3) := by decide +kernel
theorem dL_bag_8 : decode cL_bag 8 = .ok (.i2l, 1) := by decide +kernel
theorem dL_bag_9 : decode cL_bag 9 = .ok (.lastore, 1) := by decide +kernel
theorem dL_bag_10 : decode cL_bag 10 = .ok (.goto 7, 3) := by decide +kernel
theorem dL_bag_13 : decode cL_bag 13 = .ok (.astore 4, 2) := by decide +kernel
theorem dL_bag_15 : decode cL_bag 15 = .ok (.iconst 1, 1) := by decide +kernel
theorem dL_bag_16 : decode cL_bag 16 = .ok (.ireturn, 1) := by decide +kernel
theorem dL_bag_17 : decode cL_bag 17 = .ok (.iconst 0, 1) := by decide +kernel
theorem dL_bag_18 : decode cL_bag 18 = .ok (.ireturn, 1) := by decide +kernel
theorem dL_pass_0 : decode cL_pass 0 = .ok (.aload_n 2, 1) := by decide +kernel
theorem dL_pass_1 : decode cL_pass 1 = .ok (.iconst 0, 1) := by decide +kernel
theorem dL_pass_2 : decode cL_pass 2 = .ok (.aload_n 0, 1) := by decide +kernel
theorem dL_pass_3 : decode cL_pass 3 = .ok (.iload_n 1, 1) := by decide +kernel
theorem dL_pass_4 : decode cL_pass 4 = .ok (.invokevirtual 51, 3) := by decide +kernel
theorem dL_pass_7 : decode cL_pass 7 = .ok (.i2l, 1) := by decide +kernel
theorem dL_pass_8 : decode cL_pass 8 = .ok (.lastore, 1) := by decide +kernel
theorem dL_pass_9 : decode cL_pass 9 = .ok (.goto 6, 3) := by decide +kernel
theorem dL_pass_12 : decode cL_pass 12 = .ok (.astore_n 3, 1) := by decide +kernel
theorem dL_pass_13 : decode cL_pass 13 = .ok (.iconst 1, 1) := by decide +kernel
theorem dL_pass_14 : decode cL_pass 14 = .ok (.ireturn, 1) := by decide +kernel
theorem dL_pass_15 : decode cL_pass 15 = .ok (.iconst 0, 1) := by decide +kernel
theorem dL_pass_16 : decode cL_pass 16 = .ok (.ireturn, 1) := by decide +kernel
theorem dL_count_0 : decode cL_count 0 = .ok (.aload_n 2, 1) := by decide +kernel
theorem dL_count_1 : decode cL_count 1 = .ok (.iconst 0, 1) := by decide +kernel
theorem dL_count_2 : decode cL_count 2 = .ok (.aload_n 0, 1) := by decide +kernel
theorem dL_count_3 : decode cL_count 3 = .ok (.iload_n 1, 1) := by decide +kernel
theorem dL_count_4 : decode cL_count 4 = .ok (.invokevirtual 55, 3) := by decide +kernel
theorem dL_count_7 : decode cL_count 7 = .ok (.i2l, 1) := by decide +kernel
theorem dL_count_8 : decode cL_count 8 = .ok (.lastore, 1) := by decide +kernel
theorem dL_count_9 : decode cL_count 9 = .ok (.goto 6, 3) := by decide +kernel
theorem dL_count_12 : decode cL_count 12 = .ok (.astore_n 3, 1) := by decide +kernel
theorem dL_count_13 : decode cL_count 13 = .ok (.iconst 1, 1) := by decide +kernel
theorem dL_count_14 : decode cL_count 14 = .ok (.ireturn, 1) := by decide +kernel
theorem dL_count_15 : decode cL_count 15 = .ok (.iconst 0, 1) := by decide +kernel
theorem dL_count_16 : decode cL_count 16 = .ok (.ireturn, 1) := by decide +kernel
theorem dL_way_0 : decode cL_way 0 = .ok (.aload 5, 2) := by decide +kernel
theorem dL_way_2 : decode cL_way 2 = .ok (.iconst 0, 1) := by decide +kernel
theorem dL_way_3 : decode cL_way 3 = .ok (.aload_n 0, 1) := by decide +kernel
theorem dL_way_4 : decode cL_way 4 = .ok (.iload_n 1, 1) := by decide +kernel
theorem dL_way_5 : decode cL_way 5 = .ok (.iload_n 2, 1) := by decide +kernel
theorem dL_way_6 : decode cL_way 6 = .ok (.iload_n 3, 1) := by decide +kernel
theorem dL_way_7 : decode cL_way 7 = .ok (.iload 4, 2) := by decide +kernel
theorem dL_way_9 : decode cL_way 9 = .ok (.invokevirtual 58, 3) := by decide +kernel
theorem dL_way_12 : decode cL_way 12 = .ok (.i2l, 1) := by decide +kernel
theorem dL_way_13 : decode cL_way 13 = .ok (.lastore, 1) := by decide +kernel
theorem dL_way_14 : decode cL_way 14 = .ok (.goto 11, 3) := by decide +kernel
theorem dL_way_17 : decode cL_way 17 = .ok (.astore 6, 2) := by decide +kernel
theorem dL_way_19 : decode cL_way 19 = .ok (.iconst 1, 1) := by decide +kernel
theorem dL_way_20 : decode cL_way 20 = .ok (.ireturn, 1) := by decide +kernel
theorem dL_way_21 : decode cL_way 21 = .ok (.astore 6, 2) := by decide +kernel
theorem dL_way_23 : decode cL_way 23 = .ok (.iconst 2, 1) := by decide +kernel
theorem dL_way_24 : decode cL_way 24 = .ok (.ireturn, 1) := by decide +kernel
theorem dL_way_25 : decode cL_way 25 = .ok (.iconst 0, 1) := by decide +kernel
theorem dL_way_26 : decode cL_way 26 = .ok (.ireturn, 1) := by decide +kernel
theorem dL_bears_0 : decode cL_bears 0 = .ok (.aload_n 3, 1) := by decide +kernel
theorem dL_bears_1 : decode cL_bears 1 = .ok (.iconst 0, 1) := by decide +kernel
theorem dL_bears_2 : decode cL_bears 2 = .ok (.aload_n 0, 1) := by decide +kernel
theorem dL_bears_3 : decode cL_bears 3 = .ok (.iload_n 1, 1) := by decide +kernel
theorem dL_bears_4 : decode cL_bears 4 = .ok (.iload_n 2, 1) := by decide +kernel
theorem dL_bears_5 : decode cL_bears 5 = .ok (.invokevirtual 62, 3) := by decide +kernel
theorem dL_bears_8 : decode cL_bears 8 = .ok (.i2l, 1) := by decide +kernel
theorem dL_bears_9 : decode cL_bears 9 = .ok (.lastore, 1) := by decide +kernel
theorem dL_bears_10 : decode cL_bears 10 = .ok (.goto 7, 3) := by decide +kernel
theorem dL_bears_13 : decode cL_bears 13 = .ok (.astore 4, 2) := by decide +kernel
theorem dL_bears_15 : decode cL_bears 15 = .ok (.iconst 1, 1) := by decide +kernel
theorem dL_bears_16 : decode cL_bears 16 = .ok (.ireturn, 1) := by decide +kernel
theorem dL_bears_17 : decode cL_bears 17 = .ok (.iconst 0, 1) := by decide +kernel
theorem dL_bears_18 : decode cL_bears 18 = .ok (.ireturn, 1) := by decide +kernel
theorem dL_foresee_0 : decode cL_foresee 0 = .ok (.aload_n 3, 1) := by decide +kernel
theorem dL_foresee_1 : decode cL_foresee 1 = .ok (.iconst 0, 1) := by decide +kernel
theorem dL_foresee_2 : decode cL_foresee 2 = .ok (.aload_n 0, 1) := by decide +kernel
theorem dL_foresee_3 : decode cL_foresee 3 = .ok (.iload_n 1, 1) := by decide +kernel
theorem dL_foresee_4 : decode cL_foresee 4 = .ok (.iload_n 2, 1) := by decide +kernel
theorem dL_foresee_5 : decode cL_foresee 5 = .ok (.invokevirtual 65, 3) := by decide +kernel
theorem dL_foresee_8 : decode cL_foresee 8 = .ok (.i2l, 1) := by decide +kernel
theorem dL_foresee_9 : decode cL_foresee 9 = .ok (.lastore, 1) := by decide +kernel
theorem dL_foresee_10 : decode cL_foresee 10 = .ok (.goto 11, 3) := by decide +kernel
theorem dL_foresee_13 : decode cL_foresee 13 = .ok (.astore 4, 2) := by decide +kernel
theorem dL_foresee_15 : decode cL_foresee 15 = .ok (.iconst 1, 1) := by decide +kernel
theorem dL_foresee_16 : decode cL_foresee 16 = .ok (.ireturn, 1) := by decide +kernel
theorem dL_foresee_17 : decode cL_foresee 17 = .ok (.astore 4, 2) := by decide +kernel
theorem dL_foresee_19 : decode cL_foresee 19 = .ok (.iconst 2, 1) := by decide +kernel
theorem dL_foresee_20 : decode cL_foresee 20 = .ok (.ireturn, 1) := by decide +kernel
theorem dL_foresee_21 : decode cL_foresee 21 = .ok (.iconst 0, 1) := by decide +kernel
theorem dL_foresee_22 : decode cL_foresee 22 = .ok (.ireturn, 1) := by decide +kernel
theorem dL_arrives_0 : decode cL_arrives 0 = .ok (.aload_n 2, 1) := by decide +kernel
theorem dL_arrives_1 : decode cL_arrives 1 = .ok (.iconst 0, 1) := by decide +kernel
theorem dL_arrives_2 : decode cL_arrives 2 = .ok (.aload_n 0, 1) := by decide +kernel
theorem dL_arrives_3 : decode cL_arrives 3 = .ok (.iload_n 1, 1) := by decide +kernel
theorem dL_arrives_4 : decode cL_arrives 4 = .ok (.invokevirtual 68, 3) := by decide +kernel
theorem dL_arrives_7 : decode cL_arrives 7 = .ok (.i2l, 1) := by decide +kernel
theorem dL_arrives_8 : decode cL_arrives 8 = .ok (.lastore, 1) := by decide +kernel
theorem dL_arrives_9 : decode cL_arrives 9 = .ok (.goto 9, 3) := by decide +kernel
theorem dL_arrives_12 : decode cL_arrives 12 = .ok (.astore_n 3, 1) := by decide +kernel
theorem dL_arrives_13 : decode cL_arrives 13 = .ok (.iconst 1, 1) := by decide +kernel
theorem dL_arrives_14 : decode cL_arrives 14 = .ok (.ireturn, 1) := by decide +kernel
theorem dL_arrives_15 : decode cL_arrives 15 = .ok (.astore_n 3, 1) := by decide +kernel
theorem dL_arrives_16 : decode cL_arrives 16 = .ok (.iconst 2, 1) := by decide +kernel
theorem dL_arrives_17 : decode cL_arrives 17 = .ok (.ireturn, 1) := by decide +kernel
theorem dL_arrives_18 : decode cL_arrives 18 = .ok (.iconst 0, 1) := by decide +kernel
theorem dL_arrives_19 : decode cL_arrives 19 = .ok (.ireturn, 1) := by decide +kernel
theorem dL_law_0 : decode cL_law 0 = .ok (.new 8, 3) := by decide +kernel
theorem dL_law_3 : decode cL_law 3 = .ok (.dup, 1) := by decide +kernel
theorem dL_law_4 : decode cL_law 4 = .ok (.invokespecial 71, 3) := by decide +kernel
theorem dL_law_7 : decode cL_law 7 = .ok (.astore_n 1, 1) := by decide +kernel
theorem dL_law_8 : decode cL_law 8 = .ok (.new 72, 3) := by decide +kernel
theorem dL_law_11 : decode cL_law 11 = .ok (.dup, 1) := by decide +kernel
theorem dL_law_12 : decode cL_law 12 = .ok (.invokespecial 74, 3) := by decide +kernel
theorem dL_law_15 : decode cL_law 15 = .ok (.astore_n 2, 1) := by decide +kernel
theorem dL_law_16 : decode cL_law 16 = .ok (.iconst 1, 1) := by decide +kernel
theorem dL_law_17 : decode cL_law 17 = .ok (.newarray .long, 2) := by decide +kernel
theorem dL_law_19 : decode cL_law 19 = .ok (.astore_n 3, 1) := by decide +kernel
theorem dL_law_20 : decode cL_law 20 = .ok (.iconst 0, 1) := by decide +kernel
theorem dL_law_21 : decode cL_law 21 = .ok (.istore 4, 2) := by decide +kernel
theorem dL_law_23 : decode cL_law 23 = .ok (.iload 4, 2) := by decide +kernel
theorem dL_law_25 : decode cL_law 25 = .ok (.aload_n 0, 1) := by decide +kernel
theorem dL_law_26 : decode cL_law 26 = .ok (.arraylength, 1) := by decide +kernel
theorem dL_law_27 : decode cL_law 27 = .ok (.bipush 6, 2) := by decide +kernel
theorem dL_law_29 : decode cL_law 29 = .ok (.isub, 1) := by decide +kernel
theorem dL_law_30 : decode cL_law 30 = .ok (.if_icmp .gt 1379, 3) := by decide +kernel
theorem dL_law_33 : decode cL_law 33 = .ok (.aload_n 0, 1) := by decide +kernel
theorem dL_law_34 : decode cL_law 34 = .ok (.iload 4, 2) := by decide +kernel
theorem dL_law_36 : decode cL_law 36 = .ok (.iaload, 1) := by decide +kernel
theorem dL_law_37 : decode cL_law 37 = .ok (.bipush 31, 2) := by decide +kernel
theorem dL_law_39 : decode cL_law 39 = .ok (.iand, 1) := by decide +kernel
theorem dL_law_40 : decode cL_law 40 = .ok (.tableswitch 1363 0 18 #[92, 196, 276, 344, 424, 492, 560, 640, 708, 776, 844, 912, 968, 1024, 1116, 1184, 1252, 1308, 1349], 92) := by decide +kernel
theorem dL_law_132 : decode cL_law 132 = .ok (.aload_n 1, 1) := by decide +kernel
theorem dL_law_133 : decode cL_law 133 = .ok (.aload_n 0, 1) := by decide +kernel
theorem dL_law_134 : decode cL_law 134 = .ok (.iload 4, 2) := by decide +kernel
theorem dL_law_136 : decode cL_law 136 = .ok (.iconst 1, 1) := by decide +kernel
theorem dL_law_137 : decode cL_law 137 = .ok (.iadd, 1) := by decide +kernel
theorem dL_law_138 : decode cL_law 138 = .ok (.iaload, 1) := by decide +kernel
theorem dL_law_139 : decode cL_law 139 = .ok (.aload_n 0, 1) := by decide +kernel
theorem dL_law_140 : decode cL_law 140 = .ok (.iload 4, 2) := by decide +kernel
theorem dL_law_142 : decode cL_law 142 = .ok (.iconst 2, 1) := by decide +kernel
theorem dL_law_143 : decode cL_law 143 = .ok (.iadd, 1) := by decide +kernel
theorem dL_law_144 : decode cL_law 144 = .ok (.iaload, 1) := by decide +kernel
theorem dL_law_145 : decode cL_law 145 = .ok (.aload_n 0, 1) := by decide +kernel
theorem dL_law_146 : decode cL_law 146 = .ok (.iload 4, 2) := by decide +kernel
theorem dL_law_148 : decode cL_law 148 = .ok (.iconst 3, 1) := by decide +kernel
theorem dL_law_149 : decode cL_law 149 = .ok (.iadd, 1) := by decide +kernel
theorem dL_law_150 : decode cL_law 150 = .ok (.iaload, 1) := by decide +kernel
theorem dL_law_151 : decode cL_law 151 = .ok (.aload_n 0, 1) := by decide +kernel
theorem dL_law_152 : decode cL_law 152 = .ok (.iload 4, 2) := by decide +kernel
theorem dL_law_154 : decode cL_law 154 = .ok (.iconst 4, 1) := by decide +kernel
theorem dL_law_155 : decode cL_law 155 = .ok (.iadd, 1) := by decide +kernel
theorem dL_law_156 : decode cL_law 156 = .ok (.iaload, 1) := by decide +kernel
theorem dL_law_157 : decode cL_law 157 = .ok (.aload_n 0, 1) := by decide +kernel
theorem dL_law_158 : decode cL_law 158 = .ok (.iload 4, 2) := by decide +kernel
theorem dL_law_160 : decode cL_law 160 = .ok (.iconst 5, 1) := by decide +kernel
theorem dL_law_161 : decode cL_law 161 = .ok (.iadd, 1) := by decide +kernel
theorem dL_law_162 : decode cL_law 162 = .ok (.iaload, 1) := by decide +kernel
theorem dL_law_163 : decode cL_law 163 = .ok (.aload_n 3, 1) := by decide +kernel
theorem dL_law_164 : decode cL_law 164 = .ok (.invokestatic 75, 3) := by decide +kernel
theorem dL_law_167 : decode cL_law 167 = .ok (.istore 5, 2) := by decide +kernel
theorem dL_law_169 : decode cL_law 169 = .ok (.aload_n 2, 1) := by decide +kernel
theorem dL_law_170 : decode cL_law 170 = .ok (.aload_n 0, 1) := by decide +kernel
theorem dL_law_171 : decode cL_law 171 = .ok (.iload 4, 2) := by decide +kernel
theorem dL_law_173 : decode cL_law 173 = .ok (.iconst 1, 1) := by decide +kernel
theorem dL_law_174 : decode cL_law 174 = .ok (.iadd, 1) := by decide +kernel
theorem dL_law_175 : decode cL_law 175 = .ok (.iaload, 1) := by decide +kernel
theorem dL_law_176 : decode cL_law 176 = .ok (.aload_n 0, 1) := by decide +kernel
theorem dL_law_177 : decode cL_law 177 = .ok (.iload 4, 2) := by decide +kernel
theorem dL_law_179 : decode cL_law 179 = .ok (.iconst 2, 1) := by decide +kernel
theorem dL_law_180 : decode cL_law 180 = .ok (.iadd, 1) := by decide +kernel
theorem dL_law_181 : decode cL_law 181 = .ok (.iaload, 1) := by decide +kernel
theorem dL_law_182 : decode cL_law 182 = .ok (.aload_n 0, 1) := by decide +kernel
theorem dL_law_183 : decode cL_law 183 = .ok (.iload 4, 2) := by decide +kernel
theorem dL_law_185 : decode cL_law 185 = .ok (.iconst 3, 1) := by decide +kernel
theorem dL_law_186 : decode cL_law 186 = .ok (.iadd, 1) := by decide +kernel
theorem dL_law_187 : decode cL_law 187 = .ok (.iaload, 1) := by decide +kernel
theorem dL_law_188 : decode cL_law 188 = .ok (.aload_n 0, 1) := by decide +kernel
theorem dL_law_189 : decode cL_law 189 = .ok (.iload 4, 2) := by decide +kernel
theorem dL_law_191 : decode cL_law 191 = .ok (.iconst 4, 1) := by decide +kernel
theorem dL_law_192 : decode cL_law 192 = .ok (.iadd, 1) := by decide +kernel
theorem dL_law_193 : decode cL_law 193 = .ok (.iaload, 1) := by decide +kernel
theorem dL_law_194 : decode cL_law 194 = .ok (.aload_n 0, 1) := by decide +kernel
theorem dL_law_195 : decode cL_law 195 = .ok (.iload 4, 2) := by decide +kernel
theorem dL_law_197 : decode cL_law 197 = .ok (.iconst 5, 1) := by decide +kernel
theorem dL_law_198 : decode cL_law 198 = .ok (.iadd, 1) := by decide +kernel
theorem dL_law_199 : decode cL_law 199 = .ok (.iaload, 1) := by decide +kernel
theorem dL_law_200 : decode cL_law 200 = .ok (.invokevirtual 80, 3) := by decide +kernel
theorem dL_law_203 : decode cL_law 203 = .ok (.istore 6, 2) := by decide +kernel
theorem dL_law_205 : decode cL_law 205 = .ok (.aload_n 2, 1) := by decide +kernel
theorem dL_law_206 : decode cL_law 206 = .ok (.invokevirtual 81, 3) := by decide +kernel
theorem dL_law_209 : decode cL_law 209 = .ok (.iload 5, 2) := by decide +kernel
theorem dL_law_211 : decode cL_law 211 = .ok (.if_icmp .eq 5, 3) := by decide +kernel
theorem dL_law_214 : decode cL_law 214 = .ok (.iconst 0, 1) := by decide +kernel
theorem dL_law_215 : decode cL_law 215 = .ok (.ireturn, 1) := by decide +kernel
theorem dL_law_216 : decode cL_law 216 = .ok (.iload 5, 2) := by decide +kernel
theorem dL_law_218 : decode cL_law 218 = .ok (.ifCond .ne 15, 3) := by decide +kernel
theorem dL_law_221 : decode cL_law 221 = .ok (.aload_n 3, 1) := by decide +kernel
theorem dL_law_222 : decode cL_law 222 = .ok (.iconst 0, 1) := by decide +kernel
theorem dL_law_223 : decode cL_law 223 = .ok (.laload, 1) := by decide +kernel
theorem dL_law_224 : decode cL_law 224 = .ok (.iload 6, 2) := by decide +kernel
theorem dL_law_226 : decode cL_law 226 = .ok (.i2l, 1) := by decide +kernel
theorem dL_law_227 : decode cL_law 227 = .ok (.lcmp, 1) := by decide +kernel
theorem dL_law_228 : decode cL_law 228 = .ok (.ifCond .eq 5, 3) := by decide +kernel
theorem dL_law_231 : decode cL_law 231 = .ok (.iconst 0, 1) := by decide +kernel
theorem dL_law_232 : decode cL_law 232 = .ok (.ireturn, 1) := by decide +kernel
theorem dL_law_233 : decode cL_law 233 = .ok (.goto 1170, 3) := by decide +kernel
theorem dL_law_236 : decode cL_law 236 = .ok (.aload_n 1, 1) := by decide +kernel
theorem dL_law_237 : decode cL_law 237 = .ok (.aload_n 0, 1) := by decide +kernel
theorem dL_law_238 : decode cL_law 238 = .ok (.iload 4, 2) := by decide +kernel
theorem dL_law_240 : decode cL_law 240 = .ok (.iconst 1, 1) := by decide +kernel
theorem dL_law_241 : decode cL_law 241 = .ok (.iadd, 1) := by decide +kernel
theorem dL_law_242 : decode cL_law 242 = .ok (.iaload, 1) := by decide +kernel
theorem dL_law_243 : decode cL_law 243 = .ok (.aload_n 0, 1) := by decide +kernel
theorem dL_law_244 : decode cL_law 244 = .ok (.iload 4, 2) := by decide +kernel
theorem dL_law_246 : decode cL_law 246 = .ok (.iconst 2, 1) := by decide +kernel
theorem dL_law_247 : decode cL_law 247 = .ok (.iadd, 1) := by decide +kernel
theorem dL_law_248 : decode cL_law 248 = .ok (.iaload, 1) := by decide +kernel
theorem dL_law_249 : decode cL_law 249 = .ok (.aload_n 0, 1) := by decide +kernel
theorem dL_law_250 : decode cL_law 250 = .ok (.iload 4, 2) := by decide +kernel
theorem dL_law_252 : decode cL_law 252 = .ok (.iconst 3, 1) := by decide +kernel
theorem dL_law_253 : decode cL_law 253 = .ok (.iadd, 1) := by decide +kernel
theorem dL_law_254 : decode cL_law 254 = .ok (.iaload, 1) := by decide +kernel
theorem dL_law_255 : decode cL_law 255 = .ok (.aload_n 3, 1) := by decide +kernel
theorem dL_law_256 : decode cL_law 256 = .ok (.invokestatic 85, 3) := by decide +kernel
theorem dL_law_259 : decode cL_law 259 = .ok (.istore 5, 2) := by decide +kernel
theorem dL_law_261 : decode cL_law 261 = .ok (.aload_n 2, 1) := by decide +kernel
theorem dL_law_262 : decode cL_law 262 = .ok (.aload_n 0, 1) := by decide +kernel
theorem dL_law_263 : decode cL_law 263 = .ok (.iload 4, 2) := by decide +kernel
theorem dL_law_265 : decode cL_law 265 = .ok (.iconst 1, 1) := by decide +kernel
theorem dL_law_266 : decode cL_law 266 = .ok (.iadd, 1) := by decide +kernel
theorem dL_law_267 : decode cL_law 267 = .ok (.iaload, 1) := by decide +kernel
theorem dL_law_268 : decode cL_law 268 = .ok (.aload_n 0, 1) := by decide +kernel
theorem dL_law_269 : decode cL_law 269 = .ok (.iload 4, 2) := by decide +kernel
theorem dL_law_271 : decode cL_law 271 = .ok (.iconst 2, 1) := by decide +kernel
theorem dL_law_272 : decode cL_law 272 = .ok (.iadd, 1) := by decide +kernel
theorem dL_law_273 : decode cL_law 273 = .ok (.iaload, 1) := by decide +kernel
theorem dL_law_274 : decode cL_law 274 = .ok (.aload_n 0, 1) := by decide +kernel
theorem dL_law_275 : decode cL_law 275 = .ok (.iload 4, 2) := by decide +kernel
theorem dL_law_277 : decode cL_law 277 = .ok (.iconst 3, 1) := by decide +kernel
theorem dL_law_278 : decode cL_law 278 = .ok (.iadd, 1) := by decide +kernel
theorem dL_law_279 : decode cL_law 279 = .ok (.iaload, 1) := by decide +kernel
theorem dL_law_280 : decode cL_law 280 = .ok (.invokevirtual 88, 3) := by decide +kernel
theorem dL_law_283 : decode cL_law 283 = .ok (.istore 6, 2) := by decide +kernel
theorem dL_law_285 : decode cL_law 285 = .ok (.aload_n 2, 1) := by decide +kernel
theorem dL_law_286 : decode cL_law 286 = .ok (.invokevirtual 81, 3) := by decide +kernel
theorem dL_law_289 : decode cL_law 289 = .ok (.iload 5, 2) := by decide +kernel
theorem dL_law_291 : decode cL_law 291 = .ok (.if_icmp .eq 5, 3) := by decide +kernel
theorem dL_law_294 : decode cL_law 294 = .ok (.iconst 0, 1) := by decide +kernel
theorem dL_law_295 : decode cL_law 295 = .ok (.ireturn, 1) := by decide +kernel
theorem dL_law_296 : decode cL_law 296 = .ok (.iload 5, 2) := by decide +kernel
theorem dL_law_298 : decode cL_law 298 = .ok (.ifCond .ne 15, 3) := by decide +kernel
theorem dL_law_301 : decode cL_law 301 = .ok (.aload_n 3, 1) := by decide +kernel
theorem dL_law_302 : decode cL_law 302 = .ok (.iconst 0, 1) := by decide +kernel
theorem dL_law_303 : decode cL_law 303 = .ok (.laload, 1) := by decide +kernel
theorem dL_law_304 : decode cL_law 304 = .ok (.iload 6, 2) := by decide +kernel
theorem dL_law_306 : decode cL_law 306 = .ok (.i2l, 1) := by decide +kernel
theorem dL_law_307 : decode cL_law 307 = .ok (.lcmp, 1) := by decide +kernel
theorem dL_law_308 : decode cL_law 308 = .ok (.ifCond .eq 5, 3) := by decide +kernel
theorem dL_law_311 : decode cL_law 311 = .ok (.iconst 0, 1) := by decide +kernel
theorem dL_law_312 : decode cL_law 312 = .ok (.ireturn, 1) := by decide +kernel
theorem dL_law_313 : decode cL_law 313 = .ok (.goto 1090, 3) := by decide +kernel
theorem dL_law_316 : decode cL_law 316 = .ok (.aload_n 1, 1) := by decide +kernel
theorem dL_law_317 : decode cL_law 317 = .ok (.aload_n 0, 1) := by decide +kernel
theorem dL_law_318 : decode cL_law 318 = .ok (.iload 4, 2) := by decide +kernel
theorem dL_law_320 : decode cL_law 320 = .ok (.iconst 1, 1) := by decide +kernel
theorem dL_law_321 : decode cL_law 321 = .ok (.iadd, 1) := by decide +kernel
theorem dL_law_322 : decode cL_law 322 = .ok (.iaload, 1) := by decide +kernel
theorem dL_law_323 : decode cL_law 323 = .ok (.aload_n 0, 1) := by decide +kernel
theorem dL_law_324 : decode cL_law 324 = .ok (.iload 4, 2) := by decide +kernel
theorem dL_law_326 : decode cL_law 326 = .ok (.iconst 2, 1) := by decide +kernel
theorem dL_law_327 : decode cL_law 327 = .ok (.iadd, 1) := by decide +kernel
theorem dL_law_328 : decode cL_law 328 = .ok (.iaload, 1) := by decide +kernel
theorem dL_law_329 : decode cL_law 329 = .ok (.aload_n 3, 1) := by decide +kernel
theorem dL_law_330 : decode cL_law 330 = .ok (.invokestatic 89, 3) := by decide +kernel
theorem dL_law_333 : decode cL_law 333 = .ok (.istore 5, 2) := by decide +kernel
theorem dL_law_335 : decode cL_law 335 = .ok (.aload_n 2, 1) := by decide +kernel
theorem dL_law_336 : decode cL_law 336 = .ok (.aload_n 0, 1) := by decide +kernel
theorem dL_law_337 : decode cL_law 337 = .ok (.iload 4, 2) := by decide +kernel
theorem dL_law_339 : decode cL_law 339 = .ok (.iconst 1, 1) := by decide +kernel
theorem dL_law_340 : decode cL_law 340 = .ok (.iadd, 1) := by decide +kernel
theorem dL_law_341 : decode cL_law 341 = .ok (.iaload, 1) := by decide +kernel
theorem dL_law_342 : decode cL_law 342 = .ok (.aload_n 0, 1) := by decide +kernel
theorem dL_law_343 : decode cL_law 343 = .ok (.iload 4, 2) := by decide +kernel
theorem dL_law_345 : decode cL_law 345 = .ok (.iconst 2, 1) := by decide +kernel
theorem dL_law_346 : decode cL_law 346 = .ok (.iadd, 1) := by decide +kernel
theorem dL_law_347 : decode cL_law 347 = .ok (.iaload, 1) := by decide +kernel
theorem dL_law_348 : decode cL_law 348 = .ok (.invokevirtual 92, 3) := by decide +kernel
theorem dL_law_351 : decode cL_law 351 = .ok (.istore 6, 2) := by decide +kernel
theorem dL_law_353 : decode cL_law 353 = .ok (.aload_n 2, 1) := by decide +kernel
theorem dL_law_354 : decode cL_law 354 = .ok (.invokevirtual 81, 3) := by decide +kernel
theorem dL_law_357 : decode cL_law 357 = .ok (.iload 5, 2) := by decide +kernel
theorem dL_law_359 : decode cL_law 359 = .ok (.if_icmp .eq 5, 3) := by decide +kernel
theorem dL_law_362 : decode cL_law 362 = .ok (.iconst 0, 1) := by decide +kernel
theorem dL_law_363 : decode cL_law 363 = .ok (.ireturn, 1) := by decide +kernel
theorem dL_law_364 : decode cL_law 364 = .ok (.iload 5, 2) := by decide +kernel
theorem dL_law_366 : decode cL_law 366 = .ok (.ifCond .ne 15, 3) := by decide +kernel
theorem dL_law_369 : decode cL_law 369 = .ok (.aload_n 3, 1) := by decide +kernel
theorem dL_law_370 : decode cL_law 370 = .ok (.iconst 0, 1) := by decide +kernel
theorem dL_law_371 : decode cL_law 371 = .ok (.laload, 1) := by decide +kernel
theorem dL_law_372 : decode cL_law 372 = .ok (.iload 6, 2) := by decide +kernel
theorem dL_law_374 : decode cL_law 374 = .ok (.i2l, 1) := by decide +kernel
theorem dL_law_375 : decode cL_law 375 = .ok (.lcmp, 1) := by decide +kernel
theorem dL_law_376 : decode cL_law 376 = .ok (.ifCond .eq 5, 3) := by decide +kernel
theorem dL_law_379 : decode cL_law 379 = .ok (.iconst 0, 1) := by decide +kernel
theorem dL_law_380 : decode cL_law 380 = .ok (.ireturn, 1) := by decide +kernel
theorem dL_law_381 : decode cL_law 381 = .ok (.goto 1022, 3) := by decide +kernel
theorem dL_law_384 : decode cL_law 384 = .ok (.aload_n 1, 1) := by decide +kernel
theorem dL_law_385 : decode cL_law 385 = .ok (.aload_n 0, 1) := by decide +kernel
theorem dL_law_386 : decode cL_law 386 = .ok (.iload 4, 2) := by decide +kernel
theorem dL_law_388 : decode cL_law 388 = .ok (.iconst 1, 1) := by decide +kernel
theorem dL_law_389 : decode cL_law 389 = .ok (.iadd, 1) := by decide +kernel
theorem dL_law_390 : decode cL_law 390 = .ok (.iaload, 1) := by decide +kernel
theorem dL_law_391 : decode cL_law 391 = .ok (.aload_n 0, 1) := by decide +kernel
theorem dL_law_392 : decode cL_law 392 = .ok (.iload 4, 2) := by decide +kernel
theorem dL_law_394 : decode cL_law 394 = .ok (.iconst 2, 1) := by decide +kernel
theorem dL_law_395 : decode cL_law 395 = .ok (.iadd, 1) := by decide +kernel
theorem dL_law_396 : decode cL_law 396 = .ok (.iaload, 1) := by decide +kernel
theorem dL_law_397 : decode cL_law 397 = .ok (.aload_n 0, 1) := by decide +kernel
theorem dL_law_398 : decode cL_law 398 = .ok (.iload 4, 2) := by decide +kernel
theorem dL_law_400 : decode cL_law 400 = .ok (.iconst 3, 1) := by decide +kernel
theorem dL_law_401 : decode cL_law 401 = .ok (.iadd, 1) := by decide +kernel
theorem dL_law_402 : decode cL_law 402 = .ok (.iaload, 1) := by decide +kernel
theorem dL_law_403 : decode cL_law 403 = .ok (.aload_n 3, 1) := by decide +kernel
theorem dL_law_404 : decode cL_law 404 = .ok (.invokestatic 93, 3) := by decide +kernel
theorem dL_law_407 : decode cL_law 407 = .ok (.istore 5, 2) := by decide +kernel
theorem dL_law_409 : decode cL_law 409 = .ok (.aload_n 2, 1) := by decide +kernel
theorem dL_law_410 : decode cL_law 410 = .ok (.aload_n 0, 1) := by decide +kernel
theorem dL_law_411 : decode cL_law 411 = .ok (.iload 4, 2) := by decide +kernel
theorem dL_law_413 : decode cL_law 413 = .ok (.iconst 1, 1) := by decide +kernel
theorem dL_law_414 : decode cL_law 414 = .ok (.iadd, 1) := by decide +kernel
theorem dL_law_415 : decode cL_law 415 = .ok (.iaload, 1) := by decide +kernel
theorem dL_law_416 : decode cL_law 416 = .ok (.aload_n 0, 1) := by decide +kernel
theorem dL_law_417 : decode cL_law 417 = .ok (.iload 4, 2) := by decide +kernel
theorem dL_law_419 : decode cL_law 419 = .ok (.iconst 2, 1) := by decide +kernel
theorem dL_law_420 : decode cL_law 420 = .ok (.iadd, 1) := by decide +kernel
theorem dL_law_421 : decode cL_law 421 = .ok (.iaload, 1) := by decide +kernel
theorem dL_law_422 : decode cL_law 422 = .ok (.aload_n 0, 1) := by decide +kernel
theorem dL_law_423 : decode cL_law 423 = .ok (.iload 4, 2) := by decide +kernel
theorem dL_law_425 : decode cL_law 425 = .ok (.iconst 3, 1) := by decide +kernel
theorem dL_law_426 : decode cL_law 426 = .ok (.iadd, 1) := by decide +kernel
theorem dL_law_427 : decode cL_law 427 = .ok (.iaload, 1) := by decide +kernel
theorem dL_law_428 : decode cL_law 428 = .ok (.invokevirtual 95, 3) := by decide +kernel
theorem dL_law_431 : decode cL_law 431 = .ok (.istore 6, 2) := by decide +kernel
theorem dL_law_433 : decode cL_law 433 = .ok (.aload_n 2, 1) := by decide +kernel
theorem dL_law_434 : decode cL_law 434 = .ok (.invokevirtual 81, 3) := by decide +kernel
theorem dL_law_437 : decode cL_law 437 = .ok (.iload 5, 2) := by decide +kernel
theorem dL_law_439 : decode cL_law 439 = .ok (.if_icmp .eq 5, 3) := by decide +kernel
theorem dL_law_442 : decode cL_law 442 = .ok (.iconst 0, 1) := by decide +kernel
theorem dL_law_443 : decode cL_law 443 = .ok (.ireturn, 1) := by decide +kernel
theorem dL_law_444 : decode cL_law 444 = .ok (.iload 5, 2) := by decide +kernel
theorem dL_law_446 : decode cL_law 446 = .ok (.ifCond .ne 15, 3) := by decide +kernel
theorem dL_law_449 : decode cL_law 449 = .ok (.aload_n 3, 1) := by decide +kernel
theorem dL_law_450 : decode cL_law 450 = .ok (.iconst 0, 1) := by decide +kernel
theorem dL_law_451 : decode cL_law 451 = .ok (.laload, 1) := by decide +kernel
theorem dL_law_452 : decode cL_law 452 = .ok (.iload 6, 2) := by decide +kernel
theorem dL_law_454 : decode cL_law 454 = .ok (.i2l, 1) := by decide +kernel
theorem dL_law_455 : decode cL_law 455 = .ok (.lcmp, 1) := by decide +kernel
theorem dL_law_456 : decode cL_law 456 = .ok (.ifCond .eq 5, 3) := by decide +kernel
theorem dL_law_459 : decode cL_law 459 = .ok (.iconst 0, 1) := by decide +kernel
theorem dL_law_460 : decode cL_law 460 = .ok (.ireturn, 1) := by decide +kernel
theorem dL_law_461 : decode cL_law 461 = .ok (.goto 942, 3) := by decide +kernel
theorem dL_law_464 : decode cL_law 464 = .ok (.aload_n 1, 1) := by decide +kernel
theorem dL_law_465 : decode cL_law 465 = .ok (.aload_n 0, 1) := by decide +kernel
theorem dL_law_466 : decode cL_law 466 = .ok (.iload 4, 2) := by decide +kernel
theorem dL_law_468 : decode cL_law 468 = .ok (.iconst 1, 1) := by decide +kernel
theorem dL_law_469 : decode cL_law 469 = .ok (.iadd, 1) := by decide +kernel
theorem dL_law_470 : decode cL_law 470 = .ok (.iaload, 1) := by decide +kernel
theorem dL_law_471 : decode cL_law 471 = .ok (.aload_n 0, 1) := by decide +kernel
theorem dL_law_472 : decode cL_law 472 = .ok (.iload 4, 2) := by decide +kernel
theorem dL_law_474 : decode cL_law 474 = .ok (.iconst 2, 1) := by decide +kernel
theorem dL_law_475 : decode cL_law 475 = .ok (.iadd, 1) := by decide +kernel
theorem dL_law_476 : decode cL_law 476 = .ok (.iaload, 1) := by decide +kernel
theorem dL_law_477 : decode cL_law 477 = .ok (.aload_n 3, 1) := by decide +kernel
theorem dL_law_478 : decode cL_law 478 = .ok (.invokestatic 96, 3) := by decide +kernel
theorem dL_law_481 : decode cL_law 481 = .ok (.istore 5, 2) := by decide +kernel
theorem dL_law_483 : decode cL_law 483 = .ok (.aload_n 2, 1) := by decide +kernel
theorem dL_law_484 : decode cL_law 484 = .ok (.aload_n 0, 1) := by decide +kernel
theorem dL_law_485 : decode cL_law 485 = .ok (.iload 4, 2) := by decide +kernel
theorem dL_law_487 : decode cL_law 487 = .ok (.iconst 1, 1) := by decide +kernel
theorem dL_law_488 : decode cL_law 488 = .ok (.iadd, 1) := by decide +kernel
theorem dL_law_489 : decode cL_law 489 = .ok (.iaload, 1) := by decide +kernel
theorem dL_law_490 : decode cL_law 490 = .ok (.aload_n 0, 1) := by decide +kernel
theorem dL_law_491 : decode cL_law 491 = .ok (.iload 4, 2) := by decide +kernel
theorem dL_law_493 : decode cL_law 493 = .ok (.iconst 2, 1) := by decide +kernel
theorem dL_law_494 : decode cL_law 494 = .ok (.iadd, 1) := by decide +kernel
theorem dL_law_495 : decode cL_law 495 = .ok (.iaload, 1) := by decide +kernel
theorem dL_law_496 : decode cL_law 496 = .ok (.invokevirtual 98, 3) := by decide +kernel
theorem dL_law_499 : decode cL_law 499 = .ok (.istore 6, 2) := by decide +kernel
theorem dL_law_501 : decode cL_law 501 = .ok (.aload_n 2, 1) := by decide +kernel
theorem dL_law_502 : decode cL_law 502 = .ok (.invokevirtual 81, 3) := by decide +kernel
theorem dL_law_505 : decode cL_law 505 = .ok (.iload 5, 2) := by decide +kernel
theorem dL_law_507 : decode cL_law 507 = .ok (.if_icmp .eq 5, 3) := by decide +kernel
theorem dL_law_510 : decode cL_law 510 = .ok (.iconst 0, 1) := by decide +kernel
theorem dL_law_511 : decode cL_law 511 = .ok (.ireturn, 1) := by decide +kernel
theorem dL_law_512 : decode cL_law 512 = .ok (.iload 5, 2) := by decide +kernel
theorem dL_law_514 : decode cL_law 514 = .ok (.ifCond .ne 15, 3) := by decide +kernel
theorem dL_law_517 : decode cL_law 517 = .ok (.aload_n 3, 1) := by decide +kernel
theorem dL_law_518 : decode cL_law 518 = .ok (.iconst 0, 1) := by decide +kernel
theorem dL_law_519 : decode cL_law 519 = .ok (.laload, 1) := by decide +kernel
theorem dL_law_520 : decode cL_law 520 = .ok (.iload 6, 2) := by decide +kernel
theorem dL_law_522 : decode cL_law 522 = .ok (.i2l, 1) := by decide +kernel
theorem dL_law_523 : decode cL_law 523 = .ok (.lcmp, 1) := by decide +kernel
theorem dL_law_524 : decode cL_law 524 = .ok (.ifCond .eq 5, 3) := by decide +kernel
theorem dL_law_527 : decode cL_law 527 = .ok (.iconst 0, 1) := by decide +kernel
theorem dL_law_528 : decode cL_law 528 = .ok (.ireturn, 1) := by decide +kernel
theorem dL_law_529 : decode cL_law 529 = .ok (.goto 874, 3) := by decide +kernel
theorem dL_law_532 : decode cL_law 532 = .ok (.aload_n 1, 1) := by decide +kernel
theorem dL_law_533 : decode cL_law 533 = .ok (.aload_n 0, 1) := by decide +kernel
theorem dL_law_534 : decode cL_law 534 = .ok (.iload 4, 2) := by decide +kernel
theorem dL_law_536 : decode cL_law 536 = .ok (.iconst 1, 1) := by decide +kernel
theorem dL_law_537 : decode cL_law 537 = .ok (.iadd, 1) := by decide +kernel
theorem dL_law_538 : decode cL_law 538 = .ok (.iaload, 1) := by decide +kernel
theorem dL_law_539 : decode cL_law 539 = .ok (.aload_n 0, 1) := by decide +kernel
theorem dL_law_540 : decode cL_law 540 = .ok (.iload 4, 2) := by decide +kernel
theorem dL_law_542 : decode cL_law 542 = .ok (.iconst 2, 1) := by decide +kernel
theorem dL_law_543 : decode cL_law 543 = .ok (.iadd, 1) := by decide +kernel
theorem dL_law_544 : decode cL_law 544 = .ok (.iaload, 1) := by decide +kernel
theorem dL_law_545 : decode cL_law 545 = .ok (.aload_n 3, 1) := by decide +kernel
theorem dL_law_546 : decode cL_law 546 = .ok (.invokestatic 99, 3) := by decide +kernel
theorem dL_law_549 : decode cL_law 549 = .ok (.istore 5, 2) := by decide +kernel
theorem dL_law_551 : decode cL_law 551 = .ok (.aload_n 2, 1) := by decide +kernel
theorem dL_law_552 : decode cL_law 552 = .ok (.aload_n 0, 1) := by decide +kernel
theorem dL_law_553 : decode cL_law 553 = .ok (.iload 4, 2) := by decide +kernel
theorem dL_law_555 : decode cL_law 555 = .ok (.iconst 1, 1) := by decide +kernel
theorem dL_law_556 : decode cL_law 556 = .ok (.iadd, 1) := by decide +kernel
theorem dL_law_557 : decode cL_law 557 = .ok (.iaload, 1) := by decide +kernel
theorem dL_law_558 : decode cL_law 558 = .ok (.aload_n 0, 1) := by decide +kernel
theorem dL_law_559 : decode cL_law 559 = .ok (.iload 4, 2) := by decide +kernel
theorem dL_law_561 : decode cL_law 561 = .ok (.iconst 2, 1) := by decide +kernel
theorem dL_law_562 : decode cL_law 562 = .ok (.iadd, 1) := by decide +kernel
theorem dL_law_563 : decode cL_law 563 = .ok (.iaload, 1) := by decide +kernel
theorem dL_law_564 : decode cL_law 564 = .ok (.invokevirtual 101, 3) := by decide +kernel
theorem dL_law_567 : decode cL_law 567 = .ok (.istore 6, 2) := by decide +kernel
theorem dL_law_569 : decode cL_law 569 = .ok (.aload_n 2, 1) := by decide +kernel
theorem dL_law_570 : decode cL_law 570 = .ok (.invokevirtual 81, 3) := by decide +kernel
theorem dL_law_573 : decode cL_law 573 = .ok (.iload 5, 2) := by decide +kernel
theorem dL_law_575 : decode cL_law 575 = .ok (.if_icmp .eq 5, 3) := by decide +kernel
theorem dL_law_578 : decode cL_law 578 = .ok (.iconst 0, 1) := by decide +kernel
theorem dL_law_579 : decode cL_law 579 = .ok (.ireturn, 1) := by decide +kernel
theorem dL_law_580 : decode cL_law 580 = .ok (.iload 5, 2) := by decide +kernel
theorem dL_law_582 : decode cL_law 582 = .ok (.ifCond .ne 15, 3) := by decide +kernel
theorem dL_law_585 : decode cL_law 585 = .ok (.aload_n 3, 1) := by decide +kernel
theorem dL_law_586 : decode cL_law 586 = .ok (.iconst 0, 1) := by decide +kernel
theorem dL_law_587 : decode cL_law 587 = .ok (.laload, 1) := by decide +kernel
theorem dL_law_588 : decode cL_law 588 = .ok (.iload 6, 2) := by decide +kernel
theorem dL_law_590 : decode cL_law 590 = .ok (.i2l, 1) := by decide +kernel
theorem dL_law_591 : decode cL_law 591 = .ok (.lcmp, 1) := by decide +kernel
theorem dL_law_592 : decode cL_law 592 = .ok (.ifCond .eq 5, 3) := by decide +kernel
theorem dL_law_595 : decode cL_law 595 = .ok (.iconst 0, 1) := by decide +kernel
theorem dL_law_596 : decode cL_law 596 = .ok (.ireturn, 1) := by decide +kernel
theorem dL_law_597 : decode cL_law 597 = .ok (.goto 806, 3) := by decide +kernel
theorem dL_law_600 : decode cL_law 600 = .ok (.aload_n 1, 1) := by decide +kernel
theorem dL_law_601 : decode cL_law 601 = .ok (.aload_n 0, 1) := by decide +kernel
theorem dL_law_602 : decode cL_law 602 = .ok (.iload 4, 2) := by decide +kernel
theorem dL_law_604 : decode cL_law 604 = .ok (.iconst 1, 1) := by decide +kernel
theorem dL_law_605 : decode cL_law 605 = .ok (.iadd, 1) := by decide +kernel
theorem dL_law_606 : decode cL_law 606 = .ok (.iaload, 1) := by decide +kernel
theorem dL_law_607 : decode cL_law 607 = .ok (.aload_n 0, 1) := by decide +kernel
theorem dL_law_608 : decode cL_law 608 = .ok (.iload 4, 2) := by decide +kernel
theorem dL_law_610 : decode cL_law 610 = .ok (.iconst 2, 1) := by decide +kernel
theorem dL_law_611 : decode cL_law 611 = .ok (.iadd, 1) := by decide +kernel
theorem dL_law_612 : decode cL_law 612 = .ok (.iaload, 1) := by decide +kernel
theorem dL_law_613 : decode cL_law 613 = .ok (.aload_n 0, 1) := by decide +kernel
theorem dL_law_614 : decode cL_law 614 = .ok (.iload 4, 2) := by decide +kernel
theorem dL_law_616 : decode cL_law 616 = .ok (.iconst 3, 1) := by decide +kernel
theorem dL_law_617 : decode cL_law 617 = .ok (.iadd, 1) := by decide +kernel
theorem dL_law_618 : decode cL_law 618 = .ok (.iaload, 1) := by decide +kernel
theorem dL_law_619 : decode cL_law 619 = .ok (.aload_n 3, 1) := by decide +kernel
theorem dL_law_620 : decode cL_law 620 = .ok (.invokestatic 102, 3) := by decide +kernel
theorem dL_law_623 : decode cL_law 623 = .ok (.istore 5, 2) := by decide +kernel
theorem dL_law_625 : decode cL_law 625 = .ok (.aload_n 2, 1) := by decide +kernel
theorem dL_law_626 : decode cL_law 626 = .ok (.aload_n 0, 1) := by decide +kernel
theorem dL_law_627 : decode cL_law 627 = .ok (.iload 4, 2) := by decide +kernel
theorem dL_law_629 : decode cL_law 629 = .ok (.iconst 1, 1) := by decide +kernel
theorem dL_law_630 : decode cL_law 630 = .ok (.iadd, 1) := by decide +kernel
theorem dL_law_631 : decode cL_law 631 = .ok (.iaload, 1) := by decide +kernel
theorem dL_law_632 : decode cL_law 632 = .ok (.aload_n 0, 1) := by decide +kernel
theorem dL_law_633 : decode cL_law 633 = .ok (.iload 4, 2) := by decide +kernel
theorem dL_law_635 : decode cL_law 635 = .ok (.iconst 2, 1) := by decide +kernel
theorem dL_law_636 : decode cL_law 636 = .ok (.iadd, 1) := by decide +kernel
theorem dL_law_637 : decode cL_law 637 = .ok (.iaload, 1) := by decide +kernel
theorem dL_law_638 : decode cL_law 638 = .ok (.aload_n 0, 1) := by decide +kernel
theorem dL_law_639 : decode cL_law 639 = .ok (.iload 4, 2) := by decide +kernel
theorem dL_law_641 : decode cL_law 641 = .ok (.iconst 3, 1) := by decide +kernel
theorem dL_law_642 : decode cL_law 642 = .ok (.iadd, 1) := by decide +kernel
theorem dL_law_643 : decode cL_law 643 = .ok (.iaload, 1) := by decide +kernel
theorem dL_law_644 : decode cL_law 644 = .ok (.invokevirtual 104, 3) := by decide +kernel
theorem dL_law_647 : decode cL_law 647 = .ok (.istore 6, 2) := by decide +kernel
theorem dL_law_649 : decode cL_law 649 = .ok (.aload_n 2, 1) := by decide +kernel
theorem dL_law_650 : decode cL_law 650 = .ok (.invokevirtual 81, 3) := by decide +kernel
theorem dL_law_653 : decode cL_law 653 = .ok (.iload 5, 2) := by decide +kernel
theorem dL_law_655 : decode cL_law 655 = .ok (.if_icmp .eq 5, 3) := by decide +kernel
theorem dL_law_658 : decode cL_law 658 = .ok (.iconst 0, 1) := by decide +kernel
theorem dL_law_659 : decode cL_law 659 = .ok (.ireturn, 1) := by decide +kernel
theorem dL_law_660 : decode cL_law 660 = .ok (.iload 5, 2) := by decide +kernel
theorem dL_law_662 : decode cL_law 662 = .ok (.ifCond .ne 15, 3) := by decide +kernel
theorem dL_law_665 : decode cL_law 665 = .ok (.aload_n 3, 1) := by decide +kernel
theorem dL_law_666 : decode cL_law 666 = .ok (.iconst 0, 1) := by decide +kernel
theorem dL_law_667 : decode cL_law 667 = .ok (.laload, 1) := by decide +kernel
theorem dL_law_668 : decode cL_law 668 = .ok (.iload 6, 2) := by decide +kernel
theorem dL_law_670 : decode cL_law 670 = .ok (.i2l, 1) := by decide +kernel
theorem dL_law_671 : decode cL_law 671 = .ok (.lcmp, 1) := by decide +kernel
theorem dL_law_672 : decode cL_law 672 = .ok (.ifCond .eq 5, 3) := by decide +kernel
theorem dL_law_675 : decode cL_law 675 = .ok (.iconst 0, 1) := by decide +kernel
theorem dL_law_676 : decode cL_law 676 = .ok (.ireturn, 1) := by decide +kernel
theorem dL_law_677 : decode cL_law 677 = .ok (.goto 726, 3) := by decide +kernel
theorem dL_law_680 : decode cL_law 680 = .ok (.aload_n 1, 1) := by decide +kernel
theorem dL_law_681 : decode cL_law 681 = .ok (.aload_n 0, 1) := by decide +kernel
theorem dL_law_682 : decode cL_law 682 = .ok (.iload 4, 2) := by decide +kernel
theorem dL_law_684 : decode cL_law 684 = .ok (.iconst 1, 1) := by decide +kernel
theorem dL_law_685 : decode cL_law 685 = .ok (.iadd, 1) := by decide +kernel
theorem dL_law_686 : decode cL_law 686 = .ok (.iaload, 1) := by decide +kernel
theorem dL_law_687 : decode cL_law 687 = .ok (.aload_n 0, 1) := by decide +kernel
theorem dL_law_688 : decode cL_law 688 = .ok (.iload 4, 2) := by decide +kernel
theorem dL_law_690 : decode cL_law 690 = .ok (.iconst 2, 1) := by decide +kernel
theorem dL_law_691 : decode cL_law 691 = .ok (.iadd, 1) := by decide +kernel
theorem dL_law_692 : decode cL_law 692 = .ok (.iaload, 1) := by decide +kernel
theorem dL_law_693 : decode cL_law 693 = .ok (.aload_n 3, 1) := by decide +kernel
theorem dL_law_694 : decode cL_law 694 = .ok (.invokestatic 105, 3) := by decide +kernel
theorem dL_law_697 : decode cL_law 697 = .ok (.istore 5, 2) := by decide +kernel
theorem dL_law_699 : decode cL_law 699 = .ok (.aload_n 2, 1) := by decide +kernel
theorem dL_law_700 : decode cL_law 700 = .ok (.aload_n 0, 1) := by decide +kernel
theorem dL_law_701 : decode cL_law 701 = .ok (.iload 4, 2) := by decide +kernel
theorem dL_law_703 : decode cL_law 703 = .ok (.iconst 1, 1) := by decide +kernel
theorem dL_law_704 : decode cL_law 704 = .ok (.iadd, 1) := by decide +kernel
theorem dL_law_705 : decode cL_law 705 = .ok (.iaload, 1) := by decide +kernel
theorem dL_law_706 : decode cL_law 706 = .ok (.aload_n 0, 1) := by decide +kernel
theorem dL_law_707 : decode cL_law 707 = .ok (.iload 4, 2) := by decide +kernel
theorem dL_law_709 : decode cL_law 709 = .ok (.iconst 2, 1) := by decide +kernel
theorem dL_law_710 : decode cL_law 710 = .ok (.iadd, 1) := by decide +kernel
theorem dL_law_711 : decode cL_law 711 = .ok (.iaload, 1) := by decide +kernel
theorem dL_law_712 : decode cL_law 712 = .ok (.invokevirtual 107, 3) := by decide +kernel
theorem dL_law_715 : decode cL_law 715 = .ok (.istore 6, 2) := by decide +kernel
theorem dL_law_717 : decode cL_law 717 = .ok (.aload_n 2, 1) := by decide +kernel
theorem dL_law_718 : decode cL_law 718 = .ok (.invokevirtual 81, 3) := by decide +kernel
theorem dL_law_721 : decode cL_law 721 = .ok (.iload 5, 2) := by decide +kernel
theorem dL_law_723 : decode cL_law 723 = .ok (.if_icmp .eq 5, 3) := by decide +kernel
theorem dL_law_726 : decode cL_law 726 = .ok (.iconst 0, 1) := by decide +kernel
theorem dL_law_727 : decode cL_law 727 = .ok (.ireturn, 1) := by decide +kernel
theorem dL_law_728 : decode cL_law 728 = .ok (.iload 5, 2) := by decide +kernel
theorem dL_law_730 : decode cL_law 730 = .ok (.ifCond .ne 15, 3) := by decide +kernel
theorem dL_law_733 : decode cL_law 733 = .ok (.aload_n 3, 1) := by decide +kernel
theorem dL_law_734 : decode cL_law 734 = .ok (.iconst 0, 1) := by decide +kernel
theorem dL_law_735 : decode cL_law 735 = .ok (.laload, 1) := by decide +kernel
theorem dL_law_736 : decode cL_law 736 = .ok (.iload 6, 2) := by decide +kernel
theorem dL_law_738 : decode cL_law 738 = .ok (.i2l, 1) := by decide +kernel
theorem dL_law_739 : decode cL_law 739 = .ok (.lcmp, 1) := by decide +kernel
theorem dL_law_740 : decode cL_law 740 = .ok (.ifCond .eq 5, 3) := by decide +kernel
theorem dL_law_743 : decode cL_law 743 = .ok (.iconst 0, 1) := by decide +kernel
theorem dL_law_744 : decode cL_law 744 = .ok (.ireturn, 1) := by decide +kernel
theorem dL_law_745 : decode cL_law 745 = .ok (.goto 658, 3) := by decide +kernel
theorem dL_law_748 : decode cL_law 748 = .ok (.aload_n 1, 1) := by decide +kernel
theorem dL_law_749 : decode cL_law 749 = .ok (.aload_n 0, 1) := by decide +kernel
theorem dL_law_750 : decode cL_law 750 = .ok (.iload 4, 2) := by decide +kernel
theorem dL_law_752 : decode cL_law 752 = .ok (.iconst 1, 1) := by decide +kernel
theorem dL_law_753 : decode cL_law 753 = .ok (.iadd, 1) := by decide +kernel
theorem dL_law_754 : decode cL_law 754 = .ok (.iaload, 1) := by decide +kernel
theorem dL_law_755 : decode cL_law 755 = .ok (.aload_n 0, 1) := by decide +kernel
theorem dL_law_756 : decode cL_law 756 = .ok (.iload 4, 2) := by decide +kernel
theorem dL_law_758 : decode cL_law 758 = .ok (.iconst 2, 1) := by decide +kernel
theorem dL_law_759 : decode cL_law 759 = .ok (.iadd, 1) := by decide +kernel
theorem dL_law_760 : decode cL_law 760 = .ok (.iaload, 1) := by decide +kernel
theorem dL_law_761 : decode cL_law 761 = .ok (.aload_n 3, 1) := by decide +kernel
theorem dL_law_762 : decode cL_law 762 = .ok (.invokestatic 108, 3) := by decide +kernel
theorem dL_law_765 : decode cL_law 765 = .ok (.istore 5, 2) := by decide +kernel
theorem dL_law_767 : decode cL_law 767 = .ok (.aload_n 2, 1) := by decide +kernel
theorem dL_law_768 : decode cL_law 768 = .ok (.aload_n 0, 1) := by decide +kernel
theorem dL_law_769 : decode cL_law 769 = .ok (.iload 4, 2) := by decide +kernel
theorem dL_law_771 : decode cL_law 771 = .ok (.iconst 1, 1) := by decide +kernel
theorem dL_law_772 : decode cL_law 772 = .ok (.iadd, 1) := by decide +kernel
theorem dL_law_773 : decode cL_law 773 = .ok (.iaload, 1) := by decide +kernel
theorem dL_law_774 : decode cL_law 774 = .ok (.aload_n 0, 1) := by decide +kernel
theorem dL_law_775 : decode cL_law 775 = .ok (.iload 4, 2) := by decide +kernel
theorem dL_law_777 : decode cL_law 777 = .ok (.iconst 2, 1) := by decide +kernel
theorem dL_law_778 : decode cL_law 778 = .ok (.iadd, 1) := by decide +kernel
theorem dL_law_779 : decode cL_law 779 = .ok (.iaload, 1) := by decide +kernel
theorem dL_law_780 : decode cL_law 780 = .ok (.invokevirtual 110, 3) := by decide +kernel
theorem dL_law_783 : decode cL_law 783 = .ok (.istore 6, 2) := by decide +kernel
theorem dL_law_785 : decode cL_law 785 = .ok (.aload_n 2, 1) := by decide +kernel
theorem dL_law_786 : decode cL_law 786 = .ok (.invokevirtual 81, 3) := by decide +kernel
theorem dL_law_789 : decode cL_law 789 = .ok (.iload 5, 2) := by decide +kernel
theorem dL_law_791 : decode cL_law 791 = .ok (.if_icmp .eq 5, 3) := by decide +kernel
theorem dL_law_794 : decode cL_law 794 = .ok (.iconst 0, 1) := by decide +kernel
theorem dL_law_795 : decode cL_law 795 = .ok (.ireturn, 1) := by decide +kernel
theorem dL_law_796 : decode cL_law 796 = .ok (.iload 5, 2) := by decide +kernel
theorem dL_law_798 : decode cL_law 798 = .ok (.ifCond .ne 15, 3) := by decide +kernel
theorem dL_law_801 : decode cL_law 801 = .ok (.aload_n 3, 1) := by decide +kernel
theorem dL_law_802 : decode cL_law 802 = .ok (.iconst 0, 1) := by decide +kernel
theorem dL_law_803 : decode cL_law 803 = .ok (.laload, 1) := by decide +kernel
theorem dL_law_804 : decode cL_law 804 = .ok (.iload 6, 2) := by decide +kernel
theorem dL_law_806 : decode cL_law 806 = .ok (.i2l, 1) := by decide +kernel
theorem dL_law_807 : decode cL_law 807 = .ok (.lcmp, 1) := by decide +kernel
theorem dL_law_808 : decode cL_law 808 = .ok (.ifCond .eq 5, 3) := by decide +kernel
theorem dL_law_811 : decode cL_law 811 = .ok (.iconst 0, 1) := by decide +kernel
theorem dL_law_812 : decode cL_law 812 = .ok (.ireturn, 1) := by decide +kernel
theorem dL_law_813 : decode cL_law 813 = .ok (.goto 590, 3) := by decide +kernel
theorem dL_law_816 : decode cL_law 816 = .ok (.aload_n 1, 1) := by decide +kernel
theorem dL_law_817 : decode cL_law 817 = .ok (.aload_n 0, 1) := by decide +kernel
theorem dL_law_818 : decode cL_law 818 = .ok (.iload 4, 2) := by decide +kernel
theorem dL_law_820 : decode cL_law 820 = .ok (.iconst 1, 1) := by decide +kernel
theorem dL_law_821 : decode cL_law 821 = .ok (.iadd, 1) := by decide +kernel
theorem dL_law_822 : decode cL_law 822 = .ok (.iaload, 1) := by decide +kernel
theorem dL_law_823 : decode cL_law 823 = .ok (.aload_n 0, 1) := by decide +kernel
theorem dL_law_824 : decode cL_law 824 = .ok (.iload 4, 2) := by decide +kernel
theorem dL_law_826 : decode cL_law 826 = .ok (.iconst 2, 1) := by decide +kernel
theorem dL_law_827 : decode cL_law 827 = .ok (.iadd, 1) := by decide +kernel
theorem dL_law_828 : decode cL_law 828 = .ok (.iaload, 1) := by decide +kernel
theorem dL_law_829 : decode cL_law 829 = .ok (.aload_n 3, 1) := by decide +kernel
theorem dL_law_830 : decode cL_law 830 = .ok (.invokestatic 111, 3) := by decide +kernel
theorem dL_law_833 : decode cL_law 833 = .ok (.istore 5, 2) := by decide +kernel
theorem dL_law_835 : decode cL_law 835 = .ok (.aload_n 2, 1) := by decide +kernel
theorem dL_law_836 : decode cL_law 836 = .ok (.aload_n 0, 1) := by decide +kernel
theorem dL_law_837 : decode cL_law 837 = .ok (.iload 4, 2) := by decide +kernel
theorem dL_law_839 : decode cL_law 839 = .ok (.iconst 1, 1) := by decide +kernel
theorem dL_law_840 : decode cL_law 840 = .ok (.iadd, 1) := by decide +kernel
theorem dL_law_841 : decode cL_law 841 = .ok (.iaload, 1) := by decide +kernel
theorem dL_law_842 : decode cL_law 842 = .ok (.aload_n 0, 1) := by decide +kernel
theorem dL_law_843 : decode cL_law 843 = .ok (.iload 4, 2) := by decide +kernel
theorem dL_law_845 : decode cL_law 845 = .ok (.iconst 2, 1) := by decide +kernel
theorem dL_law_846 : decode cL_law 846 = .ok (.iadd, 1) := by decide +kernel
theorem dL_law_847 : decode cL_law 847 = .ok (.iaload, 1) := by decide +kernel
theorem dL_law_848 : decode cL_law 848 = .ok (.invokevirtual 113, 3) := by decide +kernel
theorem dL_law_851 : decode cL_law 851 = .ok (.istore 6, 2) := by decide +kernel
theorem dL_law_853 : decode cL_law 853 = .ok (.aload_n 2, 1) := by decide +kernel
theorem dL_law_854 : decode cL_law 854 = .ok (.invokevirtual 81, 3) := by decide +kernel
theorem dL_law_857 : decode cL_law 857 = .ok (.iload 5, 2) := by decide +kernel
theorem dL_law_859 : decode cL_law 859 = .ok (.if_icmp .eq 5, 3) := by decide +kernel
theorem dL_law_862 : decode cL_law 862 = .ok (.iconst 0, 1) := by decide +kernel
theorem dL_law_863 : decode cL_law 863 = .ok (.ireturn, 1) := by decide +kernel
theorem dL_law_864 : decode cL_law 864 = .ok (.iload 5, 2) := by decide +kernel
theorem dL_law_866 : decode cL_law 866 = .ok (.ifCond .ne 15, 3) := by decide +kernel
theorem dL_law_869 : decode cL_law 869 = .ok (.aload_n 3, 1) := by decide +kernel
theorem dL_law_870 : decode cL_law 870 = .ok (.iconst 0, 1) := by decide +kernel
theorem dL_law_871 : decode cL_law 871 = .ok (.laload, 1) := by decide +kernel
theorem dL_law_872 : decode cL_law 872 = .ok (.iload 6, 2) := by decide +kernel
theorem dL_law_874 : decode cL_law 874 = .ok (.i2l, 1) := by decide +kernel
theorem dL_law_875 : decode cL_law 875 = .ok (.lcmp, 1) := by decide +kernel
theorem dL_law_876 : decode cL_law 876 = .ok (.ifCond .eq 5, 3) := by decide +kernel
theorem dL_law_879 : decode cL_law 879 = .ok (.iconst 0, 1) := by decide +kernel
theorem dL_law_880 : decode cL_law 880 = .ok (.ireturn, 1) := by decide +kernel
theorem dL_law_881 : decode cL_law 881 = .ok (.goto 522, 3) := by decide +kernel
theorem dL_law_884 : decode cL_law 884 = .ok (.aload_n 1, 1) := by decide +kernel
theorem dL_law_885 : decode cL_law 885 = .ok (.aload_n 0, 1) := by decide +kernel
theorem dL_law_886 : decode cL_law 886 = .ok (.iload 4, 2) := by decide +kernel
theorem dL_law_888 : decode cL_law 888 = .ok (.iconst 1, 1) := by decide +kernel
theorem dL_law_889 : decode cL_law 889 = .ok (.iadd, 1) := by decide +kernel
theorem dL_law_890 : decode cL_law 890 = .ok (.iaload, 1) := by decide +kernel
theorem dL_law_891 : decode cL_law 891 = .ok (.aload_n 0, 1) := by decide +kernel
theorem dL_law_892 : decode cL_law 892 = .ok (.iload 4, 2) := by decide +kernel
theorem dL_law_894 : decode cL_law 894 = .ok (.iconst 2, 1) := by decide +kernel
theorem dL_law_895 : decode cL_law 895 = .ok (.iadd, 1) := by decide +kernel
theorem dL_law_896 : decode cL_law 896 = .ok (.iaload, 1) := by decide +kernel
theorem dL_law_897 : decode cL_law 897 = .ok (.aload_n 3, 1) := by decide +kernel
theorem dL_law_898 : decode cL_law 898 = .ok (.invokestatic 114, 3) := by decide +kernel
theorem dL_law_901 : decode cL_law 901 = .ok (.istore 5, 2) := by decide +kernel
theorem dL_law_903 : decode cL_law 903 = .ok (.aload_n 2, 1) := by decide +kernel
theorem dL_law_904 : decode cL_law 904 = .ok (.aload_n 0, 1) := by decide +kernel
theorem dL_law_905 : decode cL_law 905 = .ok (.iload 4, 2) := by decide +kernel
theorem dL_law_907 : decode cL_law 907 = .ok (.iconst 1, 1) := by decide +kernel
theorem dL_law_908 : decode cL_law 908 = .ok (.iadd, 1) := by decide +kernel
theorem dL_law_909 : decode cL_law 909 = .ok (.iaload, 1) := by decide +kernel
theorem dL_law_910 : decode cL_law 910 = .ok (.aload_n 0, 1) := by decide +kernel
theorem dL_law_911 : decode cL_law 911 = .ok (.iload 4, 2) := by decide +kernel
theorem dL_law_913 : decode cL_law 913 = .ok (.iconst 2, 1) := by decide +kernel
theorem dL_law_914 : decode cL_law 914 = .ok (.iadd, 1) := by decide +kernel
theorem dL_law_915 : decode cL_law 915 = .ok (.iaload, 1) := by decide +kernel
theorem dL_law_916 : decode cL_law 916 = .ok (.invokevirtual 116, 3) := by decide +kernel
theorem dL_law_919 : decode cL_law 919 = .ok (.istore 6, 2) := by decide +kernel
theorem dL_law_921 : decode cL_law 921 = .ok (.aload_n 2, 1) := by decide +kernel
theorem dL_law_922 : decode cL_law 922 = .ok (.invokevirtual 81, 3) := by decide +kernel
theorem dL_law_925 : decode cL_law 925 = .ok (.iload 5, 2) := by decide +kernel
theorem dL_law_927 : decode cL_law 927 = .ok (.if_icmp .eq 5, 3) := by decide +kernel
theorem dL_law_930 : decode cL_law 930 = .ok (.iconst 0, 1) := by decide +kernel
theorem dL_law_931 : decode cL_law 931 = .ok (.ireturn, 1) := by decide +kernel
theorem dL_law_932 : decode cL_law 932 = .ok (.iload 5, 2) := by decide +kernel
theorem dL_law_934 : decode cL_law 934 = .ok (.ifCond .ne 15, 3) := by decide +kernel
theorem dL_law_937 : decode cL_law 937 = .ok (.aload_n 3, 1) := by decide +kernel
theorem dL_law_938 : decode cL_law 938 = .ok (.iconst 0, 1) := by decide +kernel
theorem dL_law_939 : decode cL_law 939 = .ok (.laload, 1) := by decide +kernel
theorem dL_law_940 : decode cL_law 940 = .ok (.iload 6, 2) := by decide +kernel
theorem dL_law_942 : decode cL_law 942 = .ok (.i2l, 1) := by decide +kernel
theorem dL_law_943 : decode cL_law 943 = .ok (.lcmp, 1) := by decide +kernel
theorem dL_law_944 : decode cL_law 944 = .ok (.ifCond .eq 5, 3) := by decide +kernel
theorem dL_law_947 : decode cL_law 947 = .ok (.iconst 0, 1) := by decide +kernel
theorem dL_law_948 : decode cL_law 948 = .ok (.ireturn, 1) := by decide +kernel
theorem dL_law_949 : decode cL_law 949 = .ok (.goto 454, 3) := by decide +kernel
theorem dL_law_952 : decode cL_law 952 = .ok (.aload_n 1, 1) := by decide +kernel
theorem dL_law_953 : decode cL_law 953 = .ok (.aload_n 0, 1) := by decide +kernel
theorem dL_law_954 : decode cL_law 954 = .ok (.iload 4, 2) := by decide +kernel
theorem dL_law_956 : decode cL_law 956 = .ok (.iconst 1, 1) := by decide +kernel
theorem dL_law_957 : decode cL_law 957 = .ok (.iadd, 1) := by decide +kernel
theorem dL_law_958 : decode cL_law 958 = .ok (.iaload, 1) := by decide +kernel
theorem dL_law_959 : decode cL_law 959 = .ok (.aload_n 3, 1) := by decide +kernel
theorem dL_law_960 : decode cL_law 960 = .ok (.invokestatic 117, 3) := by decide +kernel
theorem dL_law_963 : decode cL_law 963 = .ok (.istore 5, 2) := by decide +kernel
theorem dL_law_965 : decode cL_law 965 = .ok (.aload_n 2, 1) := by decide +kernel
theorem dL_law_966 : decode cL_law 966 = .ok (.aload_n 0, 1) := by decide +kernel
theorem dL_law_967 : decode cL_law 967 = .ok (.iload 4, 2) := by decide +kernel
theorem dL_law_969 : decode cL_law 969 = .ok (.iconst 1, 1) := by decide +kernel
theorem dL_law_970 : decode cL_law 970 = .ok (.iadd, 1) := by decide +kernel
theorem dL_law_971 : decode cL_law 971 = .ok (.iaload, 1) := by decide +kernel
theorem dL_law_972 : decode cL_law 972 = .ok (.invokevirtual 120, 3) := by decide +kernel
theorem dL_law_975 : decode cL_law 975 = .ok (.istore 6, 2) := by decide +kernel
theorem dL_law_977 : decode cL_law 977 = .ok (.aload_n 2, 1) := by decide +kernel
theorem dL_law_978 : decode cL_law 978 = .ok (.invokevirtual 81, 3) := by decide +kernel
theorem dL_law_981 : decode cL_law 981 = .ok (.iload 5, 2) := by decide +kernel
theorem dL_law_983 : decode cL_law 983 = .ok (.if_icmp .eq 5, 3) := by decide +kernel
theorem dL_law_986 : decode cL_law 986 = .ok (.iconst 0, 1) := by decide +kernel
theorem dL_law_987 : decode cL_law 987 = .ok (.ireturn, 1) := by decide +kernel
theorem dL_law_988 : decode cL_law 988 = .ok (.iload 5, 2) := by decide +kernel
theorem dL_law_990 : decode cL_law 990 = .ok (.ifCond .ne 15, 3) := by decide +kernel
theorem dL_law_993 : decode cL_law 993 = .ok (.aload_n 3, 1) := by decide +kernel
theorem dL_law_994 : decode cL_law 994 = .ok (.iconst 0, 1) := by decide +kernel
theorem dL_law_995 : decode cL_law 995 = .ok (.laload, 1) := by decide +kernel
theorem dL_law_996 : decode cL_law 996 = .ok (.iload 6, 2) := by decide +kernel
theorem dL_law_998 : decode cL_law 998 = .ok (.i2l, 1) := by decide +kernel
theorem dL_law_999 : decode cL_law 999 = .ok (.lcmp, 1) := by decide +kernel
theorem dL_law_1000 : decode cL_law 1000 = .ok (.ifCond .eq 5, 3) := by decide +kernel
theorem dL_law_1003 : decode cL_law 1003 = .ok (.iconst 0, 1) := by decide +kernel
theorem dL_law_1004 : decode cL_law 1004 = .ok (.ireturn, 1) := by decide +kernel
theorem dL_law_1005 : decode cL_law 1005 = .ok (.goto 398, 3) := by decide +kernel
theorem dL_law_1008 : decode cL_law 1008 = .ok (.aload_n 1, 1) := by decide +kernel
theorem dL_law_1009 : decode cL_law 1009 = .ok (.aload_n 0, 1) := by decide +kernel
theorem dL_law_1010 : decode cL_law 1010 = .ok (.iload 4, 2) := by decide +kernel
theorem dL_law_1012 : decode cL_law 1012 = .ok (.iconst 1, 1) := by decide +kernel
theorem dL_law_1013 : decode cL_law 1013 = .ok (.iadd, 1) := by decide +kernel
theorem dL_law_1014 : decode cL_law 1014 = .ok (.iaload, 1) := by decide +kernel
theorem dL_law_1015 : decode cL_law 1015 = .ok (.aload_n 3, 1) := by decide +kernel
theorem dL_law_1016 : decode cL_law 1016 = .ok (.invokestatic 121, 3) := by decide +kernel
theorem dL_law_1019 : decode cL_law 1019 = .ok (.istore 5, 2) := by decide +kernel
theorem dL_law_1021 : decode cL_law 1021 = .ok (.aload_n 2, 1) := by decide +kernel
theorem dL_law_1022 : decode cL_law 1022 = .ok (.aload_n 0, 1) := by decide +kernel
theorem dL_law_1023 : decode cL_law 1023 = .ok (.iload 4, 2) := by decide +kernel
theorem dL_law_1025 : decode cL_law 1025 = .ok (.iconst 1, 1) := by decide +kernel
theorem dL_law_1026 : decode cL_law 1026 = .ok (.iadd, 1) := by decide +kernel
theorem dL_law_1027 : decode cL_law 1027 = .ok (.iaload, 1) := by decide +kernel
theorem dL_law_1028 : decode cL_law 1028 = .ok (.invokevirtual 123, 3) := by decide +kernel
theorem dL_law_1031 : decode cL_law 1031 = .ok (.istore 6, 2) := by decide +kernel
theorem dL_law_1033 : decode cL_law 1033 = .ok (.aload_n 2, 1) := by decide +kernel
theorem dL_law_1034 : decode cL_law 1034 = .ok (.invokevirtual 81, 3) := by decide +kernel
theorem dL_law_1037 : decode cL_law 1037 = .ok (.iload 5, 2) := by decide +kernel
theorem dL_law_1039 : decode cL_law 1039 = .ok (.if_icmp .eq 5, 3) := by decide +kernel
theorem dL_law_1042 : decode cL_law 1042 = .ok (.iconst 0, 1) := by decide +kernel
theorem dL_law_1043 : decode cL_law 1043 = .ok (.ireturn, 1) := by decide +kernel
theorem dL_law_1044 : decode cL_law 1044 = .ok (.iload 5, 2) := by decide +kernel
theorem dL_law_1046 : decode cL_law 1046 = .ok (.ifCond .ne 15, 3) := by decide +kernel
theorem dL_law_1049 : decode cL_law 1049 = .ok (.aload_n 3, 1) := by decide +kernel
theorem dL_law_1050 : decode cL_law 1050 = .ok (.iconst 0, 1) := by decide +kernel
theorem dL_law_1051 : decode cL_law 1051 = .ok (.laload, 1) := by decide +kernel
theorem dL_law_1052 : decode cL_law 1052 = .ok (.iload 6, 2) := by decide +kernel
theorem dL_law_1054 : decode cL_law 1054 = .ok (.i2l, 1) := by decide +kernel
theorem dL_law_1055 : decode cL_law 1055 = .ok (.lcmp, 1) := by decide +kernel
theorem dL_law_1056 : decode cL_law 1056 = .ok (.ifCond .eq 5, 3) := by decide +kernel
theorem dL_law_1059 : decode cL_law 1059 = .ok (.iconst 0, 1) := by decide +kernel
theorem dL_law_1060 : decode cL_law 1060 = .ok (.ireturn, 1) := by decide +kernel
theorem dL_law_1061 : decode cL_law 1061 = .ok (.goto 342, 3) := by decide +kernel
theorem dL_law_1064 : decode cL_law 1064 = .ok (.aload_n 1, 1) := by decide +kernel
theorem dL_law_1065 : decode cL_law 1065 = .ok (.aload_n 0, 1) := by decide +kernel
theorem dL_law_1066 : decode cL_law 1066 = .ok (.iload 4, 2) := by decide +kernel
theorem dL_law_1068 : decode cL_law 1068 = .ok (.iconst 1, 1) := by decide +kernel
theorem dL_law_1069 : decode cL_law 1069 = .ok (.iadd, 1) := by decide +kernel
theorem dL_law_1070 : decode cL_law 1070 = .ok (.iaload, 1) := by decide +kernel
theorem dL_law_1071 : decode cL_law 1071 = .ok (.aload_n 0, 1) := by decide +kernel
theorem dL_law_1072 : decode cL_law 1072 = .ok (.iload 4, 2) := by decide +kernel
theorem dL_law_1074 : decode cL_law 1074 = .ok (.iconst 2, 1) := by decide +kernel
theorem dL_law_1075 : decode cL_law 1075 = .ok (.iadd, 1) := by decide +kernel
theorem dL_law_1076 : decode cL_law 1076 = .ok (.iaload, 1) := by decide +kernel
theorem dL_law_1077 : decode cL_law 1077 = .ok (.aload_n 0, 1) := by decide +kernel
theorem dL_law_1078 : decode cL_law 1078 = .ok (.iload 4, 2) := by decide +kernel
theorem dL_law_1080 : decode cL_law 1080 = .ok (.iconst 3, 1) := by decide +kernel
theorem dL_law_1081 : decode cL_law 1081 = .ok (.iadd, 1) := by decide +kernel
theorem dL_law_1082 : decode cL_law 1082 = .ok (.iaload, 1) := by decide +kernel
theorem dL_law_1083 : decode cL_law 1083 = .ok (.aload_n 0, 1) := by decide +kernel
theorem dL_law_1084 : decode cL_law 1084 = .ok (.iload 4, 2) := by decide +kernel
theorem dL_law_1086 : decode cL_law 1086 = .ok (.iconst 4, 1) := by decide +kernel
theorem dL_law_1087 : decode cL_law 1087 = .ok (.iadd, 1) := by decide +kernel
theorem dL_law_1088 : decode cL_law 1088 = .ok (.iaload, 1) := by decide +kernel
theorem dL_law_1089 : decode cL_law 1089 = .ok (.aload_n 3, 1) := by decide +kernel
theorem dL_law_1090 : decode cL_law 1090 = .ok (.invokestatic 124, 3) := by decide +kernel
theorem dL_law_1093 : decode cL_law 1093 = .ok (.istore 5, 2) := by decide +kernel
theorem dL_law_1095 : decode cL_law 1095 = .ok (.aload_n 2, 1) := by decide +kernel
theorem dL_law_1096 : decode cL_law 1096 = .ok (.aload_n 0, 1) := by decide +kernel
theorem dL_law_1097 : decode cL_law 1097 = .ok (.iload 4, 2) := by decide +kernel
theorem dL_law_1099 : decode cL_law 1099 = .ok (.iconst 1, 1) := by decide +kernel
theorem dL_law_1100 : decode cL_law 1100 = .ok (.iadd, 1) := by decide +kernel
theorem dL_law_1101 : decode cL_law 1101 = .ok (.iaload, 1) := by decide +kernel
theorem dL_law_1102 : decode cL_law 1102 = .ok (.aload_n 0, 1) := by decide +kernel
theorem dL_law_1103 : decode cL_law 1103 = .ok (.iload 4, 2) := by decide +kernel
theorem dL_law_1105 : decode cL_law 1105 = .ok (.iconst 2, 1) := by decide +kernel
theorem dL_law_1106 : decode cL_law 1106 = .ok (.iadd, 1) := by decide +kernel
theorem dL_law_1107 : decode cL_law 1107 = .ok (.iaload, 1) := by decide +kernel
theorem dL_law_1108 : decode cL_law 1108 = .ok (.aload_n 0, 1) := by decide +kernel
theorem dL_law_1109 : decode cL_law 1109 = .ok (.iload 4, 2) := by decide +kernel
theorem dL_law_1111 : decode cL_law 1111 = .ok (.iconst 3, 1) := by decide +kernel
theorem dL_law_1112 : decode cL_law 1112 = .ok (.iadd, 1) := by decide +kernel
theorem dL_law_1113 : decode cL_law 1113 = .ok (.iaload, 1) := by decide +kernel
theorem dL_law_1114 : decode cL_law 1114 = .ok (.aload_n 0, 1) := by decide +kernel
theorem dL_law_1115 : decode cL_law 1115 = .ok (.iload 4, 2) := by decide +kernel
theorem dL_law_1117 : decode cL_law 1117 = .ok (.iconst 4, 1) := by decide +kernel
theorem dL_law_1118 : decode cL_law 1118 = .ok (.iadd, 1) := by decide +kernel
theorem dL_law_1119 : decode cL_law 1119 = .ok (.iaload, 1) := by decide +kernel
theorem dL_law_1120 : decode cL_law 1120 = .ok (.invokevirtual 127, 3) := by decide +kernel
theorem dL_law_1123 : decode cL_law 1123 = .ok (.istore 6, 2) := by decide +kernel
theorem dL_law_1125 : decode cL_law 1125 = .ok (.aload_n 2, 1) := by decide +kernel
theorem dL_law_1126 : decode cL_law 1126 = .ok (.invokevirtual 81, 3) := by decide +kernel
theorem dL_law_1129 : decode cL_law 1129 = .ok (.iload 5, 2) := by decide +kernel
theorem dL_law_1131 : decode cL_law 1131 = .ok (.if_icmp .eq 5, 3) := by decide +kernel
theorem dL_law_1134 : decode cL_law 1134 = .ok (.iconst 0, 1) := by decide +kernel
theorem dL_law_1135 : decode cL_law 1135 = .ok (.ireturn, 1) := by decide +kernel
theorem dL_law_1136 : decode cL_law 1136 = .ok (.iload 5, 2) := by decide +kernel
theorem dL_law_1138 : decode cL_law 1138 = .ok (.ifCond .ne 15, 3) := by decide +kernel
theorem dL_law_1141 : decode cL_law 1141 = .ok (.aload_n 3, 1) := by decide +kernel
theorem dL_law_1142 : decode cL_law 1142 = .ok (.iconst 0, 1) := by decide +kernel
theorem dL_law_1143 : decode cL_law 1143 = .ok (.laload, 1) := by decide +kernel
theorem dL_law_1144 : decode cL_law 1144 = .ok (.iload 6, 2) := by decide +kernel
theorem dL_law_1146 : decode cL_law 1146 = .ok (.i2l, 1) := by decide +kernel
theorem dL_law_1147 : decode cL_law 1147 = .ok (.lcmp, 1) := by decide +kernel
theorem dL_law_1148 : decode cL_law 1148 = .ok (.ifCond .eq 5, 3) := by decide +kernel
theorem dL_law_1151 : decode cL_law 1151 = .ok (.iconst 0, 1) := by decide +kernel
theorem dL_law_1152 : decode cL_law 1152 = .ok (.ireturn, 1) := by decide +kernel
theorem dL_law_1153 : decode cL_law 1153 = .ok (.goto 250, 3) := by decide +kernel
theorem dL_law_1156 : decode cL_law 1156 = .ok (.aload_n 1, 1) := by decide +kernel
theorem dL_law_1157 : decode cL_law 1157 = .ok (.aload_n 0, 1) := by decide +kernel
theorem dL_law_1158 : decode cL_law 1158 = .ok (.iload 4, 2) := by decide +kernel
theorem dL_law_1160 : decode cL_law 1160 = .ok (.iconst 1, 1) := by decide +kernel
theorem dL_law_1161 : decode cL_law 1161 = .ok (.iadd, 1) := by decide +kernel
theorem dL_law_1162 : decode cL_law 1162 = .ok (.iaload, 1) := by decide +kernel
theorem dL_law_1163 : decode cL_law 1163 = .ok (.aload_n 0, 1) := by decide +kernel
theorem dL_law_1164 : decode cL_law 1164 = .ok (.iload 4, 2) := by decide +kernel
theorem dL_law_1166 : decode cL_law 1166 = .ok (.iconst 2, 1) := by decide +kernel
theorem dL_law_1167 : decode cL_law 1167 = .ok (.iadd, 1) := by decide +kernel
theorem dL_law_1168 : decode cL_law 1168 = .ok (.iaload, 1) := by decide +kernel
theorem dL_law_1169 : decode cL_law 1169 = .ok (.aload_n 3, 1) := by decide +kernel
theorem dL_law_1170 : decode cL_law 1170 = .ok (.invokestatic 128, 3) := by decide +kernel
theorem dL_law_1173 : decode cL_law 1173 = .ok (.istore 5, 2) := by decide +kernel
theorem dL_law_1175 : decode cL_law 1175 = .ok (.aload_n 2, 1) := by decide +kernel
theorem dL_law_1176 : decode cL_law 1176 = .ok (.aload_n 0, 1) := by decide +kernel
theorem dL_law_1177 : decode cL_law 1177 = .ok (.iload 4, 2) := by decide +kernel
theorem dL_law_1179 : decode cL_law 1179 = .ok (.iconst 1, 1) := by decide +kernel
theorem dL_law_1180 : decode cL_law 1180 = .ok (.iadd, 1) := by decide +kernel
theorem dL_law_1181 : decode cL_law 1181 = .ok (.iaload, 1) := by decide +kernel
theorem dL_law_1182 : decode cL_law 1182 = .ok (.aload_n 0, 1) := by decide +kernel
theorem dL_law_1183 : decode cL_law 1183 = .ok (.iload 4, 2) := by decide +kernel
theorem dL_law_1185 : decode cL_law 1185 = .ok (.iconst 2, 1) := by decide +kernel
theorem dL_law_1186 : decode cL_law 1186 = .ok (.iadd, 1) := by decide +kernel
theorem dL_law_1187 : decode cL_law 1187 = .ok (.iaload, 1) := by decide +kernel
theorem dL_law_1188 : decode cL_law 1188 = .ok (.invokevirtual 130, 3) := by decide +kernel
theorem dL_law_1191 : decode cL_law 1191 = .ok (.istore 6, 2) := by decide +kernel
theorem dL_law_1193 : decode cL_law 1193 = .ok (.aload_n 2, 1) := by decide +kernel
theorem dL_law_1194 : decode cL_law 1194 = .ok (.invokevirtual 81, 3) := by decide +kernel
theorem dL_law_1197 : decode cL_law 1197 = .ok (.iload 5, 2) := by decide +kernel
theorem dL_law_1199 : decode cL_law 1199 = .ok (.if_icmp .eq 5, 3) := by decide +kernel
theorem dL_law_1202 : decode cL_law 1202 = .ok (.iconst 0, 1) := by decide +kernel
theorem dL_law_1203 : decode cL_law 1203 = .ok (.ireturn, 1) := by decide +kernel
theorem dL_law_1204 : decode cL_law 1204 = .ok (.iload 5, 2) := by decide +kernel
theorem dL_law_1206 : decode cL_law 1206 = .ok (.ifCond .ne 15, 3) := by decide +kernel
theorem dL_law_1209 : decode cL_law 1209 = .ok (.aload_n 3, 1) := by decide +kernel
theorem dL_law_1210 : decode cL_law 1210 = .ok (.iconst 0, 1) := by decide +kernel
theorem dL_law_1211 : decode cL_law 1211 = .ok (.laload, 1) := by decide +kernel
theorem dL_law_1212 : decode cL_law 1212 = .ok (.iload 6, 2) := by decide +kernel
theorem dL_law_1214 : decode cL_law 1214 = .ok (.i2l, 1) := by decide +kernel
theorem dL_law_1215 : decode cL_law 1215 = .ok (.lcmp, 1) := by decide +kernel
theorem dL_law_1216 : decode cL_law 1216 = .ok (.ifCond .eq 5, 3) := by decide +kernel
theorem dL_law_1219 : decode cL_law 1219 = .ok (.iconst 0, 1) := by decide +kernel
theorem dL_law_1220 : decode cL_law 1220 = .ok (.ireturn, 1) := by decide +kernel
theorem dL_law_1221 : decode cL_law 1221 = .ok (.goto 182, 3) := by decide +kernel
theorem dL_law_1224 : decode cL_law 1224 = .ok (.aload_n 1, 1) := by decide +kernel
theorem dL_law_1225 : decode cL_law 1225 = .ok (.aload_n 0, 1) := by decide +kernel
theorem dL_law_1226 : decode cL_law 1226 = .ok (.iload 4, 2) := by decide +kernel
theorem dL_law_1228 : decode cL_law 1228 = .ok (.iconst 1, 1) := by decide +kernel
theorem dL_law_1229 : decode cL_law 1229 = .ok (.iadd, 1) := by decide +kernel
theorem dL_law_1230 : decode cL_law 1230 = .ok (.iaload, 1) := by decide +kernel
theorem dL_law_1231 : decode cL_law 1231 = .ok (.aload_n 0, 1) := by decide +kernel
theorem dL_law_1232 : decode cL_law 1232 = .ok (.iload 4, 2) := by decide +kernel
theorem dL_law_1234 : decode cL_law 1234 = .ok (.iconst 2, 1) := by decide +kernel
theorem dL_law_1235 : decode cL_law 1235 = .ok (.iadd, 1) := by decide +kernel
theorem dL_law_1236 : decode cL_law 1236 = .ok (.iaload, 1) := by decide +kernel
theorem dL_law_1237 : decode cL_law 1237 = .ok (.aload_n 3, 1) := by decide +kernel
theorem dL_law_1238 : decode cL_law 1238 = .ok (.invokestatic 131, 3) := by decide +kernel
theorem dL_law_1241 : decode cL_law 1241 = .ok (.istore 5, 2) := by decide +kernel
theorem dL_law_1243 : decode cL_law 1243 = .ok (.aload_n 2, 1) := by decide +kernel
theorem dL_law_1244 : decode cL_law 1244 = .ok (.aload_n 0, 1) := by decide +kernel
theorem dL_law_1245 : decode cL_law 1245 = .ok (.iload 4, 2) := by decide +kernel
theorem dL_law_1247 : decode cL_law 1247 = .ok (.iconst 1, 1) := by decide +kernel
theorem dL_law_1248 : decode cL_law 1248 = .ok (.iadd, 1) := by decide +kernel
theorem dL_law_1249 : decode cL_law 1249 = .ok (.iaload, 1) := by decide +kernel
theorem dL_law_1250 : decode cL_law 1250 = .ok (.aload_n 0, 1) := by decide +kernel
theorem dL_law_1251 : decode cL_law 1251 = .ok (.iload 4, 2) := by decide +kernel
theorem dL_law_1253 : decode cL_law 1253 = .ok (.iconst 2, 1) := by decide +kernel
theorem dL_law_1254 : decode cL_law 1254 = .ok (.iadd, 1) := by decide +kernel
theorem dL_law_1255 : decode cL_law 1255 = .ok (.iaload, 1) := by decide +kernel
theorem dL_law_1256 : decode cL_law 1256 = .ok (.invokevirtual 133, 3) := by decide +kernel
theorem dL_law_1259 : decode cL_law 1259 = .ok (.istore 6, 2) := by decide +kernel
theorem dL_law_1261 : decode cL_law 1261 = .ok (.aload_n 2, 1) := by decide +kernel
theorem dL_law_1262 : decode cL_law 1262 = .ok (.invokevirtual 81, 3) := by decide +kernel
theorem dL_law_1265 : decode cL_law 1265 = .ok (.iload 5, 2) := by decide +kernel
theorem dL_law_1267 : decode cL_law 1267 = .ok (.if_icmp .eq 5, 3) := by decide +kernel
theorem dL_law_1270 : decode cL_law 1270 = .ok (.iconst 0, 1) := by decide +kernel
theorem dL_law_1271 : decode cL_law 1271 = .ok (.ireturn, 1) := by decide +kernel
theorem dL_law_1272 : decode cL_law 1272 = .ok (.iload 5, 2) := by decide +kernel
theorem dL_law_1274 : decode cL_law 1274 = .ok (.ifCond .ne 15, 3) := by decide +kernel
theorem dL_law_1277 : decode cL_law 1277 = .ok (.aload_n 3, 1) := by decide +kernel
theorem dL_law_1278 : decode cL_law 1278 = .ok (.iconst 0, 1) := by decide +kernel
theorem dL_law_1279 : decode cL_law 1279 = .ok (.laload, 1) := by decide +kernel
theorem dL_law_1280 : decode cL_law 1280 = .ok (.iload 6, 2) := by decide +kernel
theorem dL_law_1282 : decode cL_law 1282 = .ok (.i2l, 1) := by decide +kernel
theorem dL_law_1283 : decode cL_law 1283 = .ok (.lcmp, 1) := by decide +kernel
theorem dL_law_1284 : decode cL_law 1284 = .ok (.ifCond .eq 5, 3) := by decide +kernel
theorem dL_law_1287 : decode cL_law 1287 = .ok (.iconst 0, 1) := by decide +kernel
theorem dL_law_1288 : decode cL_law 1288 = .ok (.ireturn, 1) := by decide +kernel
theorem dL_law_1289 : decode cL_law 1289 = .ok (.goto 114, 3) := by decide +kernel
theorem dL_law_1292 : decode cL_law 1292 = .ok (.aload_n 1, 1) := by decide +kernel
theorem dL_law_1293 : decode cL_law 1293 = .ok (.aload_n 0, 1) := by decide +kernel
theorem dL_law_1294 : decode cL_law 1294 = .ok (.iload 4, 2) := by decide +kernel
theorem dL_law_1296 : decode cL_law 1296 = .ok (.iconst 1, 1) := by decide +kernel
theorem dL_law_1297 : decode cL_law 1297 = .ok (.iadd, 1) := by decide +kernel
theorem dL_law_1298 : decode cL_law 1298 = .ok (.iaload, 1) := by decide +kernel
theorem dL_law_1299 : decode cL_law 1299 = .ok (.aload_n 3, 1) := by decide +kernel
theorem dL_law_1300 : decode cL_law 1300 = .ok (.invokestatic 134, 3) := by decide +kernel
theorem dL_law_1303 : decode cL_law 1303 = .ok (.istore 5, 2) := by decide +kernel
theorem dL_law_1305 : decode cL_law 1305 = .ok (.aload_n 2, 1) := by decide +kernel
theorem dL_law_1306 : decode cL_law 1306 = .ok (.aload_n 0, 1) := by decide +kernel
theorem dL_law_1307 : decode cL_law 1307 = .ok (.iload 4, 2) := by decide +kernel
theorem dL_law_1309 : decode cL_law 1309 = .ok (.iconst 1, 1) := by decide +kernel
theorem dL_law_1310 : decode cL_law 1310 = .ok (.iadd, 1) := by decide +kernel
theorem dL_law_1311 : decode cL_law 1311 = .ok (.iaload, 1) := by decide +kernel
theorem dL_law_1312 : decode cL_law 1312 = .ok (.invokevirtual 136, 3) := by decide +kernel
theorem dL_law_1315 : decode cL_law 1315 = .ok (.istore 6, 2) := by decide +kernel
theorem dL_law_1317 : decode cL_law 1317 = .ok (.aload_n 2, 1) := by decide +kernel
theorem dL_law_1318 : decode cL_law 1318 = .ok (.invokevirtual 81, 3) := by decide +kernel
theorem dL_law_1321 : decode cL_law 1321 = .ok (.iload 5, 2) := by decide +kernel
theorem dL_law_1323 : decode cL_law 1323 = .ok (.if_icmp .eq 5, 3) := by decide +kernel
theorem dL_law_1326 : decode cL_law 1326 = .ok (.iconst 0, 1) := by decide +kernel
theorem dL_law_1327 : decode cL_law 1327 = .ok (.ireturn, 1) := by decide +kernel
theorem dL_law_1328 : decode cL_law 1328 = .ok (.iload 5, 2) := by decide +kernel
theorem dL_law_1330 : decode cL_law 1330 = .ok (.ifCond .ne 15, 3) := by decide +kernel
theorem dL_law_1333 : decode cL_law 1333 = .ok (.aload_n 3, 1) := by decide +kernel
theorem dL_law_1334 : decode cL_law 1334 = .ok (.iconst 0, 1) := by decide +kernel
theorem dL_law_1335 : decode cL_law 1335 = .ok (.laload, 1) := by decide +kernel
theorem dL_law_1336 : decode cL_law 1336 = .ok (.iload 6, 2) := by decide +kernel
theorem dL_law_1338 : decode cL_law 1338 = .ok (.i2l, 1) := by decide +kernel
theorem dL_law_1339 : decode cL_law 1339 = .ok (.lcmp, 1) := by decide +kernel
theorem dL_law_1340 : decode cL_law 1340 = .ok (.ifCond .eq 5, 3) := by decide +kernel
theorem dL_law_1343 : decode cL_law 1343 = .ok (.iconst 0, 1) := by decide +kernel
theorem dL_law_1344 : decode cL_law 1344 = .ok (.ireturn, 1) := by decide +kernel
theorem dL_law_1345 : decode cL_law 1345 = .ok (.goto 58, 3) := by decide +kernel
theorem dL_law_1348 : decode cL_law 1348 = .ok (.aload_n 1, 1) := by decide +kernel
theorem dL_law_1349 : decode cL_law 1349 = .ok (.invokevirtual 137, 3) := by decide +kernel
theorem dL_law_1352 : decode cL_law 1352 = .ok (.dstore 5, 2) := by decide +kernel
theorem dL_law_1354 : decode cL_law 1354 = .ok (.aload_n 2, 1) := by decide +kernel
theorem dL_law_1355 : decode cL_law 1355 = .ok (.invokevirtual 141, 3) := by decide +kernel
theorem dL_law_1358 : decode cL_law 1358 = .ok (.dstore 7, 2) := by decide +kernel
theorem dL_law_1360 : decode cL_law 1360 = .ok (.dload 5, 2) := by decide +kernel
theorem dL_law_1362 : decode cL_law 1362 = .ok (.dload 7, 2) := by decide +kernel
theorem dL_law_1364 : decode cL_law 1364 = .ok (.dcmp .l, 1) := by decide +kernel
theorem dL_law_1365 : decode cL_law 1365 = .ok (.ifCond .eq 21, 3) := by decide +kernel
theorem dL_law_1368 : decode cL_law 1368 = .ok (.dload 5, 2) := by decide +kernel
theorem dL_law_1370 : decode cL_law 1370 = .ok (.dload 5, 2) := by decide +kernel
theorem dL_law_1372 : decode cL_law 1372 = .ok (.dcmp .l, 1) := by decide +kernel
theorem dL_law_1373 : decode cL_law 1373 = .ok (.ifCond .eq 11, 3) := by decide +kernel
theorem dL_law_1376 : decode cL_law 1376 = .ok (.dload 7, 2) := by decide +kernel
theorem dL_law_1378 : decode cL_law 1378 = .ok (.dload 7, 2) := by decide +kernel
theorem dL_law_1380 : decode cL_law 1380 = .ok (.dcmp .l, 1) := by decide +kernel
theorem dL_law_1381 : decode cL_law 1381 = .ok (.ifCond .ne 5, 3) := by decide +kernel
theorem dL_law_1384 : decode cL_law 1384 = .ok (.iconst 0, 1) := by decide +kernel
theorem dL_law_1385 : decode cL_law 1385 = .ok (.ireturn, 1) := by decide +kernel
theorem dL_law_1386 : decode cL_law 1386 = .ok (.goto 17, 3) := by decide +kernel
theorem dL_law_1389 : decode cL_law 1389 = .ok (.aload_n 1, 1) := by decide +kernel
theorem dL_law_1390 : decode cL_law 1390 = .ok (.invokevirtual 142, 3) := by decide +kernel
theorem dL_law_1393 : decode cL_law 1393 = .ok (.aload_n 2, 1) := by decide +kernel
theorem dL_law_1394 : decode cL_law 1394 = .ok (.invokevirtual 146, 3) := by decide +kernel
theorem dL_law_1397 : decode cL_law 1397 = .ok (.lcmp, 1) := by decide +kernel
theorem dL_law_1398 : decode cL_law 1398 = .ok (.ifCond .eq 5, 3) := by decide +kernel
theorem dL_law_1401 : decode cL_law 1401 = .ok (.iconst 0, 1) := by decide +kernel
theorem dL_law_1402 : decode cL_law 1402 = .ok (.ireturn, 1) := by decide +kernel
theorem dL_law_1403 : decode cL_law 1403 = .ok (.iinc 4 6, 3) := by decide +kernel
theorem dL_law_1406 : decode cL_law 1406 = .ok (.goto (-1383), 3) := by decide +kernel
theorem dL_law_1409 : decode cL_law 1409 = .ok (.iconst 1, 1) := by decide +kernel
theorem dL_law_1410 : decode cL_law 1410 = .ok (.ireturn, 1) := by decide +kernel
