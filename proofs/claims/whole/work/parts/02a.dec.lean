/-! decode rows -/
theorem dX0_init_0 : decode cX0_init 0 = .ok (.aload_n 0, 1) := by decide +kernel
theorem dX0_init_1 : decode cX0_init 1 = .ok (.invokespecial 3, 3) := by decide +kernel
theorem dX0_init_4 : decode cX0_init 4 = .ok (.aload_n 0, 1) := by decide +kernel
theorem dX0_init_5 : decode cX0_init 5 = .ok (.bipush 10, 2) := by decide +kernel
theorem dX0_init_7 : decode cX0_init 7 = .ok (.newarray .int, 2) := by decide +kernel
theorem dX0_init_9 : decode cX0_init 9 = .ok (.putfield 9, 3) := by decide +kernel
theorem dX0_init_12 : decode cX0_init 12 = .ok (.aload_n 0, 1) := by decide +kernel
theorem dX0_init_13 : decode cX0_init 13 = .ok (.bipush 10, 2) := by decide +kernel
theorem dX0_init_15 : decode cX0_init 15 = .ok (.newarray .int, 2) := by decide +kernel
theorem dX0_init_17 : decode cX0_init 17 = .ok (.putfield 15, 3) := by decide +kernel
theorem dX0_init_20 : decode cX0_init 20 = .ok (.aload_n 0, 1) := by decide +kernel
theorem dX0_init_21 : decode cX0_init 21 = .ok (.bipush 10, 2) := by decide +kernel
theorem dX0_init_23 : decode cX0_init 23 = .ok (.newarray .int, 2) := by decide +kernel
theorem dX0_init_25 : decode cX0_init 25 = .ok (.putfield 18, 3) := by decide +kernel
theorem dX0_init_28 : decode cX0_init 28 = .ok (.aload_n 0, 1) := by decide +kernel
theorem dX0_init_29 : decode cX0_init 29 = .ok (.bipush 100, 2) := by decide +kernel
theorem dX0_init_31 : decode cX0_init 31 = .ok (.newarray .int, 2) := by decide +kernel
theorem dX0_init_33 : decode cX0_init 33 = .ok (.putfield 21, 3) := by decide +kernel
theorem dX0_init_36 : decode cX0_init 36 = .ok (.aload_n 0, 1) := by decide +kernel
theorem dX0_init_37 : decode cX0_init 37 = .ok (.iconst 0, 1) := by decide +kernel
theorem dX0_init_38 : decode cX0_init 38 = .ok (.putfield 24, 3) := by decide +kernel
theorem dX0_init_41 : decode cX0_init 41 = .ok (.aload_n 0, 1) := by decide +kernel
theorem dX0_init_42 : decode cX0_init 42 = .ok (.iconst 0, 1) := by decide +kernel
theorem dX0_init_43 : decode cX0_init 43 = .ok (.putfield 28, 3) := by decide +kernel
theorem dX0_init_46 : decode cX0_init 46 = .ok (.aload_n 0, 1) := by decide +kernel
theorem dX0_init_47 : decode cX0_init 47 = .ok (.bipush (-6), 2) := by decide +kernel
theorem dX0_init_49 : decode cX0_init 49 = .ok (.putfield 31, 3) := by decide +kernel
theorem dX0_init_52 : decode cX0_init 52 = .ok (.aload_n 0, 1) := by decide +kernel
theorem dX0_init_53 : decode cX0_init 53 = .ok (.iconst 0, 1) := by decide +kernel
theorem dX0_init_54 : decode cX0_init 54 = .ok (.putfield 34, 3) := by decide +kernel
theorem dX0_init_57 : decode cX0_init 57 = .ok (.aload_n 0, 1) := by decide +kernel
theorem dX0_init_58 : decode cX0_init 58 = .ok (.iconst 0, 1) := by decide +kernel
theorem dX0_init_59 : decode cX0_init 59 = .ok (.putfield 37, 3) := by decide +kernel
theorem dX0_init_62 : decode cX0_init 62 = .ok (.return_, 1) := by decide +kernel
theorem dX0_begin_0 : decode cX0_begin 0 = .ok (.aload_n 0, 1) := by decide +kernel
theorem dX0_begin_1 : decode cX0_begin 1 = .ok (.getfield 9, 3) := by decide +kernel
theorem dX0_begin_4 : decode cX0_begin 4 = .ok (.iconst 0, 1) := by decide +kernel
theorem dX0_begin_5 : decode cX0_begin 5 = .ok (.invokestatic 40, 3) := by decide +kernel
theorem dX0_begin_8 : decode cX0_begin 8 = .ok (.aload_n 0, 1) := by decide +kernel
theorem dX0_begin_9 : decode cX0_begin 9 = .ok (.getfield 15, 3) := by decide +kernel
theorem dX0_begin_12 : decode cX0_begin 12 = .ok (.bipush (-6), 2) := by decide +kernel
theorem dX0_begin_14 : decode cX0_begin 14 = .ok (.invokestatic 40, 3) := by decide +kernel
theorem dX0_begin_17 : decode cX0_begin 17 = .ok (.aload_n 0, 1) := by decide +kernel
theorem dX0_begin_18 : decode cX0_begin 18 = .ok (.getfield 18, 3) := by decide +kernel
theorem dX0_begin_21 : decode cX0_begin 21 = .ok (.bipush (-6), 2) := by decide +kernel
theorem dX0_begin_23 : decode cX0_begin 23 = .ok (.invokestatic 40, 3) := by decide +kernel
theorem dX0_begin_26 : decode cX0_begin 26 = .ok (.aload_n 0, 1) := by decide +kernel
theorem dX0_begin_27 : decode cX0_begin 27 = .ok (.iconst 0, 1) := by decide +kernel
theorem dX0_begin_28 : decode cX0_begin 28 = .ok (.putfield 24, 3) := by decide +kernel
theorem dX0_begin_31 : decode cX0_begin 31 = .ok (.aload_n 0, 1) := by decide +kernel
theorem dX0_begin_32 : decode cX0_begin 32 = .ok (.iconst 0, 1) := by decide +kernel
theorem dX0_begin_33 : decode cX0_begin 33 = .ok (.putfield 28, 3) := by decide +kernel
theorem dX0_begin_36 : decode cX0_begin 36 = .ok (.aload_n 0, 1) := by decide +kernel
theorem dX0_begin_37 : decode cX0_begin 37 = .ok (.bipush (-6), 2) := by decide +kernel
theorem dX0_begin_39 : decode cX0_begin 39 = .ok (.putfield 31, 3) := by decide +kernel
theorem dX0_begin_42 : decode cX0_begin 42 = .ok (.aload_n 0, 1) := by decide +kernel
theorem dX0_begin_43 : decode cX0_begin 43 = .ok (.iconst 0, 1) := by decide +kernel
theorem dX0_begin_44 : decode cX0_begin 44 = .ok (.putfield 34, 3) := by decide +kernel
theorem dX0_begin_47 : decode cX0_begin 47 = .ok (.aload_n 0, 1) := by decide +kernel
theorem dX0_begin_48 : decode cX0_begin 48 = .ok (.iconst 0, 1) := by decide +kernel
theorem dX0_begin_49 : decode cX0_begin 49 = .ok (.putfield 37, 3) := by decide +kernel
theorem dX0_begin_52 : decode cX0_begin 52 = .ok (.return_, 1) := by decide +kernel
theorem dX0_takeDue_0 : decode cX0_takeDue 0 = .ok (.aload_n 0, 1) := by decide +kernel
theorem dX0_takeDue_1 : decode cX0_takeDue 1 = .ok (.getfield 34, 3) := by decide +kernel
theorem dX0_takeDue_4 : decode cX0_takeDue 4 = .ok (.aload_n 1, 1) := by decide +kernel
theorem dX0_takeDue_5 : decode cX0_takeDue 5 = .ok (.getfield 46, 3) := by decide +kernel
theorem dX0_takeDue_8 : decode cX0_takeDue 8 = .ok (.if_icmp .ge 16, 3) := by decide +kernel
theorem dX0_takeDue_11 : decode cX0_takeDue 11 = .ok (.aload_n 1, 1) := by decide +kernel
theorem dX0_takeDue_12 : decode cX0_takeDue 12 = .ok (.getfield 51, 3) := by decide +kernel
theorem dX0_takeDue_15 : decode cX0_takeDue 15 = .ok (.aload_n 0, 1) := by decide +kernel
theorem dX0_takeDue_16 : decode cX0_takeDue 16 = .ok (.getfield 34, 3) := by decide +kernel
theorem dX0_takeDue_19 : decode cX0_takeDue 19 = .ok (.iaload, 1) := by decide +kernel
theorem dX0_takeDue_20 : decode cX0_takeDue 20 = .ok (.iload_n 2, 1) := by decide +kernel
theorem dX0_takeDue_21 : decode cX0_takeDue 21 = .ok (.if_icmp .eq 6, 3) := by decide +kernel
theorem dX0_takeDue_24 : decode cX0_takeDue 24 = .ok (.bipush (-6), 2) := by decide +kernel
theorem dX0_takeDue_26 : decode cX0_takeDue 26 = .ok (.ireturn, 1) := by decide +kernel
theorem dX0_takeDue_27 : decode cX0_takeDue 27 = .ok (.aload_n 0, 1) := by decide +kernel
theorem dX0_takeDue_28 : decode cX0_takeDue 28 = .ok (.getfield 34, 3) := by decide +kernel
theorem dX0_takeDue_31 : decode cX0_takeDue 31 = .ok (.istore_n 3, 1) := by decide +kernel
theorem dX0_takeDue_32 : decode cX0_takeDue 32 = .ok (.aload_n 0, 1) := by decide +kernel
theorem dX0_takeDue_33 : decode cX0_takeDue 33 = .ok (.dup, 1) := by decide +kernel
theorem dX0_takeDue_34 : decode cX0_takeDue 34 = .ok (.getfield 24, 3) := by decide +kernel
theorem dX0_takeDue_37 : decode cX0_takeDue 37 = .ok (.aload_n 0, 1) := by decide +kernel
theorem dX0_takeDue_38 : decode cX0_takeDue 38 = .ok (.getfield 9, 3) := by decide +kernel
theorem dX0_takeDue_41 : decode cX0_takeDue 41 = .ok (.iload_n 3, 1) := by decide +kernel
theorem dX0_takeDue_42 : decode cX0_takeDue 42 = .ok (.iaload, 1) := by decide +kernel
theorem dX0_takeDue_43 : decode cX0_takeDue 43 = .ok (.isub, 1) := by decide +kernel
theorem dX0_takeDue_44 : decode cX0_takeDue 44 = .ok (.putfield 24, 3) := by decide +kernel
theorem dX0_takeDue_47 : decode cX0_takeDue 47 = .ok (.aload_n 0, 1) := by decide +kernel
theorem dX0_takeDue_48 : decode cX0_takeDue 48 = .ok (.dup, 1) := by decide +kernel
theorem dX0_takeDue_49 : decode cX0_takeDue 49 = .ok (.getfield 34, 3) := by decide +kernel
theorem dX0_takeDue_52 : decode cX0_takeDue 52 = .ok (.iconst 1, 1) := by decide +kernel
theorem dX0_takeDue_53 : decode cX0_takeDue 53 = .ok (.iadd, 1) := by decide +kernel
theorem dX0_takeDue_54 : decode cX0_takeDue 54 = .ok (.putfield 34, 3) := by decide +kernel
theorem dX0_takeDue_57 : decode cX0_takeDue 57 = .ok (.iload_n 3, 1) := by decide +kernel
theorem dX0_takeDue_58 : decode cX0_takeDue 58 = .ok (.ireturn, 1) := by decide +kernel
theorem dX0_openFrame_0 : decode cX0_openFrame 0 = .ok (.aload_n 0, 1) := by decide +kernel
theorem dX0_openFrame_1 : decode cX0_openFrame 1 = .ok (.getfield 37, 3) := by decide +kernel
theorem dX0_openFrame_4 : decode cX0_openFrame 4 = .ok (.aload_n 1, 1) := by decide +kernel
theorem dX0_openFrame_5 : decode cX0_openFrame 5 = .ok (.getfield 46, 3) := by decide +kernel
theorem dX0_openFrame_8 : decode cX0_openFrame 8 = .ok (.if_icmp .ge 50, 3) := by decide +kernel
theorem dX0_openFrame_11 : decode cX0_openFrame 11 = .ok (.aload_n 1, 1) := by decide +kernel
theorem dX0_openFrame_12 : decode cX0_openFrame 12 = .ok (.getfield 51, 3) := by decide +kernel
theorem dX0_openFrame_15 : decode cX0_openFrame 15 = .ok (.aload_n 0, 1) := by decide +kernel
theorem dX0_openFrame_16 : decode cX0_openFrame 16 = .ok (.getfield 37, 3) := by decide +kernel
theorem dX0_openFrame_19 : decode cX0_openFrame 19 = .ok (.iaload, 1) := by decide +kernel
theorem dX0_openFrame_20 : decode cX0_openFrame 20 = .ok (.iload_n 2, 1) := by decide +kernel
theorem dX0_openFrame_21 : decode cX0_openFrame 21 = .ok (.if_icmp .le 24, 3) := by decide +kernel
theorem dX0_openFrame_24 : decode cX0_openFrame 24 = .ok (.aload_n 0, 1) := by decide +kernel
theorem dX0_openFrame_25 : decode cX0_openFrame 25 = .ok (.getfield 9, 3) := by decide +kernel
theorem dX0_openFrame_28 : decode cX0_openFrame 28 = .ok (.aload_n 0, 1) := by decide +kernel
theorem dX0_openFrame_29 : decode cX0_openFrame 29 = .ok (.getfield 37, 3) := by decide +kernel
theorem dX0_openFrame_32 : decode cX0_openFrame 32 = .ok (.iaload, 1) := by decide +kernel
theorem dX0_openFrame_33 : decode cX0_openFrame 33 = .ok (.aload_n 1, 1) := by decide +kernel
theorem dX0_openFrame_34 : decode cX0_openFrame 34 = .ok (.getfield 54, 3) := by decide +kernel
theorem dX0_openFrame_37 : decode cX0_openFrame 37 = .ok (.aload_n 0, 1) := by decide +kernel
theorem dX0_openFrame_38 : decode cX0_openFrame 38 = .ok (.getfield 37, 3) := by decide +kernel
theorem dX0_openFrame_41 : decode cX0_openFrame 41 = .ok (.iaload, 1) := by decide +kernel
theorem dX0_openFrame_42 : decode cX0_openFrame 42 = .ok (.if_icmp .ne 16, 3) := by decide +kernel
theorem dX0_openFrame_45 : decode cX0_openFrame 45 = .ok (.aload_n 0, 1) := by decide +kernel
theorem dX0_openFrame_46 : decode cX0_openFrame 46 = .ok (.dup, 1) := by decide +kernel
theorem dX0_openFrame_47 : decode cX0_openFrame 47 = .ok (.getfield 37, 3) := by decide +kernel
theorem dX0_openFrame_50 : decode cX0_openFrame 50 = .ok (.iconst 1, 1) := by decide +kernel
theorem dX0_openFrame_51 : decode cX0_openFrame 51 = .ok (.iadd, 1) := by decide +kernel
theorem dX0_openFrame_52 : decode cX0_openFrame 52 = .ok (.putfield 37, 3) := by decide +kernel
theorem dX0_openFrame_55 : decode cX0_openFrame 55 = .ok (.goto (-55), 3) := by decide +kernel
theorem dX0_openFrame_58 : decode cX0_openFrame 58 = .ok (.aload_n 0, 1) := by decide +kernel
theorem dX0_openFrame_59 : decode cX0_openFrame 59 = .ok (.getfield 37, 3) := by decide +kernel
theorem dX0_openFrame_62 : decode cX0_openFrame 62 = .ok (.aload_n 1, 1) := by decide +kernel
theorem dX0_openFrame_63 : decode cX0_openFrame 63 = .ok (.getfield 46, 3) := by decide +kernel
theorem dX0_openFrame_66 : decode cX0_openFrame 66 = .ok (.if_icmp .ge 21, 3) := by decide +kernel
theorem dX0_openFrame_69 : decode cX0_openFrame 69 = .ok (.aload_n 0, 1) := by decide +kernel
theorem dX0_openFrame_70 : decode cX0_openFrame 70 = .ok (.getfield 24, 3) := by decide +kernel
theorem dX0_openFrame_73 : decode cX0_openFrame 73 = .ok (.aload_n 1, 1) := by decide +kernel
theorem dX0_openFrame_74 : decode cX0_openFrame 74 = .ok (.getfield 57, 3) := by decide +kernel
theorem dX0_openFrame_77 : decode cX0_openFrame 77 = .ok (.if_icmp .ge 10, 3) := by decide +kernel
theorem dX0_openFrame_80 : decode cX0_openFrame 80 = .ok (.aload_n 0, 1) := by decide +kernel
theorem dX0_openFrame_81 : decode cX0_openFrame 81 = .ok (.getfield 37, 3) := by decide +kernel
theorem dX0_openFrame_84 : decode cX0_openFrame 84 = .ok (.goto 5, 3) := by decide +kernel
theorem dX0_openFrame_87 : decode cX0_openFrame 87 = .ok (.bipush (-6), 2) := by decide +kernel
theorem dX0_openFrame_89 : decode cX0_openFrame 89 = .ok (.ireturn, 1) := by decide +kernel
theorem dX0_sendOf_0 : decode cX0_sendOf 0 = .ok (.aload_n 0, 1) := by decide +kernel
theorem dX0_sendOf_1 : decode cX0_sendOf 1 = .ok (.getfield 9, 3) := by decide +kernel
theorem dX0_sendOf_4 : decode cX0_sendOf 4 = .ok (.iload_n 1, 1) := by decide +kernel
theorem dX0_sendOf_5 : decode cX0_sendOf 5 = .ok (.iaload, 1) := by decide +kernel
theorem dX0_sendOf_6 : decode cX0_sendOf 6 = .ok (.ifCond .ne 10, 3) := by decide +kernel
theorem dX0_sendOf_9 : decode cX0_sendOf 9 = .ok (.aload_n 0, 1) := by decide +kernel
theorem dX0_sendOf_10 : decode cX0_sendOf 10 = .ok (.getfield 15, 3) := by decide +kernel
theorem dX0_sendOf_13 : decode cX0_sendOf 13 = .ok (.iload_n 1, 1) := by decide +kernel
theorem dX0_sendOf_14 : decode cX0_sendOf 14 = .ok (.iload_n 2, 1) := by decide +kernel
theorem dX0_sendOf_15 : decode cX0_sendOf 15 = .ok (.iastore, 1) := by decide +kernel
theorem dX0_sendOf_16 : decode cX0_sendOf 16 = .ok (.aload_n 0, 1) := by decide +kernel
theorem dX0_sendOf_17 : decode cX0_sendOf 17 = .ok (.getfield 18, 3) := by decide +kernel
theorem dX0_sendOf_20 : decode cX0_sendOf 20 = .ok (.iload_n 1, 1) := by decide +kernel
theorem dX0_sendOf_21 : decode cX0_sendOf 21 = .ok (.iload_n 2, 1) := by decide +kernel
theorem dX0_sendOf_22 : decode cX0_sendOf 22 = .ok (.iastore, 1) := by decide +kernel
theorem dX0_sendOf_23 : decode cX0_sendOf 23 = .ok (.aload_n 0, 1) := by decide +kernel
theorem dX0_sendOf_24 : decode cX0_sendOf 24 = .ok (.getfield 9, 3) := by decide +kernel
theorem dX0_sendOf_27 : decode cX0_sendOf 27 = .ok (.iload_n 1, 1) := by decide +kernel
theorem dX0_sendOf_28 : decode cX0_sendOf 28 = .ok (.dup2, 1) := by decide +kernel
theorem dX0_sendOf_29 : decode cX0_sendOf 29 = .ok (.iaload, 1) := by decide +kernel
theorem dX0_sendOf_30 : decode cX0_sendOf 30 = .ok (.iconst 1, 1) := by decide +kernel
theorem dX0_sendOf_31 : decode cX0_sendOf 31 = .ok (.iadd, 1) := by decide +kernel
theorem dX0_sendOf_32 : decode cX0_sendOf 32 = .ok (.iastore, 1) := by decide +kernel
theorem dX0_sendOf_33 : decode cX0_sendOf 33 = .ok (.aload_n 0, 1) := by decide +kernel
theorem dX0_sendOf_34 : decode cX0_sendOf 34 = .ok (.dup, 1) := by decide +kernel
theorem dX0_sendOf_35 : decode cX0_sendOf 35 = .ok (.getfield 24, 3) := by decide +kernel
theorem dX0_sendOf_38 : decode cX0_sendOf 38 = .ok (.iconst 1, 1) := by decide +kernel
theorem dX0_sendOf_39 : decode cX0_sendOf 39 = .ok (.iadd, 1) := by decide +kernel
theorem dX0_sendOf_40 : decode cX0_sendOf 40 = .ok (.putfield 24, 3) := by decide +kernel
theorem dX0_sendOf_43 : decode cX0_sendOf 43 = .ok (.return_, 1) := by decide +kernel
theorem dX0_nextCounter_0 : decode cX0_nextCounter 0 = .ok (.aload_n 0, 1) := by decide +kernel
theorem dX0_nextCounter_1 : decode cX0_nextCounter 1 = .ok (.getfield 28, 3) := by decide +kernel
theorem dX0_nextCounter_4 : decode cX0_nextCounter 4 = .ok (.bipush 16, 2) := by decide +kernel
theorem dX0_nextCounter_6 : decode cX0_nextCounter 6 = .ok (.irem, 1) := by decide +kernel
theorem dX0_nextCounter_7 : decode cX0_nextCounter 7 = .ok (.istore_n 1, 1) := by decide +kernel
theorem dX0_nextCounter_8 : decode cX0_nextCounter 8 = .ok (.aload_n 0, 1) := by decide +kernel
theorem dX0_nextCounter_9 : decode cX0_nextCounter 9 = .ok (.dup, 1) := by decide +kernel
theorem dX0_nextCounter_10 : decode cX0_nextCounter 10 = .ok (.getfield 28, 3) := by decide +kernel
theorem dX0_nextCounter_13 : decode cX0_nextCounter 13 = .ok (.iconst 1, 1) := by decide +kernel
theorem dX0_nextCounter_14 : decode cX0_nextCounter 14 = .ok (.iadd, 1) := by decide +kernel
theorem dX0_nextCounter_15 : decode cX0_nextCounter 15 = .ok (.putfield 28, 3) := by decide +kernel
theorem dX0_nextCounter_18 : decode cX0_nextCounter 18 = .ok (.iload_n 1, 1) := by decide +kernel
theorem dX0_nextCounter_19 : decode cX0_nextCounter 19 = .ok (.ireturn, 1) := by decide +kernel
theorem dX0_mostHeld_0 : decode cX0_mostHeld 0 = .ok (.iconst 0, 1) := by decide +kernel
theorem dX0_mostHeld_1 : decode cX0_mostHeld 1 = .ok (.istore_n 1, 1) := by decide +kernel
theorem dX0_mostHeld_2 : decode cX0_mostHeld 2 = .ok (.iconst 0, 1) := by decide +kernel
theorem dX0_mostHeld_3 : decode cX0_mostHeld 3 = .ok (.istore_n 2, 1) := by decide +kernel
theorem dX0_mostHeld_4 : decode cX0_mostHeld 4 = .ok (.iload_n 2, 1) := by decide +kernel
theorem dX0_mostHeld_5 : decode cX0_mostHeld 5 = .ok (.bipush 100, 2) := by decide +kernel
theorem dX0_mostHeld_7 : decode cX0_mostHeld 7 = .ok (.if_icmp .ge 20, 3) := by decide +kernel
theorem dX0_mostHeld_10 : decode cX0_mostHeld 10 = .ok (.iload_n 1, 1) := by decide +kernel
theorem dX0_mostHeld_11 : decode cX0_mostHeld 11 = .ok (.aload_n 0, 1) := by decide +kernel
theorem dX0_mostHeld_12 : decode cX0_mostHeld 12 = .ok (.getfield 21, 3) := by decide +kernel
theorem dX0_mostHeld_15 : decode cX0_mostHeld 15 = .ok (.iload_n 2, 1) := by decide +kernel
theorem dX0_mostHeld_16 : decode cX0_mostHeld 16 = .ok (.iaload, 1) := by decide +kernel
theorem dX0_mostHeld_17 : decode cX0_mostHeld 17 = .ok (.invokestatic 60, 3) := by decide +kernel
theorem dX0_mostHeld_20 : decode cX0_mostHeld 20 = .ok (.istore_n 1, 1) := by decide +kernel
theorem dX0_mostHeld_21 : decode cX0_mostHeld 21 = .ok (.iinc 2 1, 3) := by decide +kernel
theorem dX0_mostHeld_24 : decode cX0_mostHeld 24 = .ok (.goto (-20), 3) := by decide +kernel
theorem dX0_mostHeld_27 : decode cX0_mostHeld 27 = .ok (.iload_n 1, 1) := by decide +kernel
theorem dX0_mostHeld_28 : decode cX0_mostHeld 28 = .ok (.ireturn, 1) := by decide +kernel
theorem dX1_init_0 : decode cX1_init 0 = .ok (.aload_n 0, 1) := by decide +kernel
theorem dX1_init_1 : decode cX1_init 1 = .ok (.invokespecial 3, 3) := by decide +kernel
theorem dX1_init_4 : decode cX1_init 4 = .ok (.aload_n 0, 1) := by decide +kernel
theorem dX1_init_5 : decode cX1_init 5 = .ok (.bipush 20, 2) := by decide +kernel
theorem dX1_init_7 : decode cX1_init 7 = .ok (.newarray .int, 2) := by decide +kernel
theorem dX1_init_9 : decode cX1_init 9 = .ok (.putfield 9, 3) := by decide +kernel
theorem dX1_init_12 : decode cX1_init 12 = .ok (.aload_n 0, 1) := by decide +kernel
theorem dX1_init_13 : decode cX1_init 13 = .ok (.iconst 3, 1) := by decide +kernel
theorem dX1_init_14 : decode cX1_init 14 = .ok (.newarray .int, 2) := by decide +kernel
theorem dX1_init_16 : decode cX1_init 16 = .ok (.putfield 15, 3) := by decide +kernel
theorem dX1_init_19 : decode cX1_init 19 = .ok (.aload_n 0, 1) := by decide +kernel
theorem dX1_init_20 : decode cX1_init 20 = .ok (.iconst 0, 1) := by decide +kernel
theorem dX1_init_21 : decode cX1_init 21 = .ok (.putfield 18, 3) := by decide +kernel
theorem dX1_init_24 : decode cX1_init 24 = .ok (.aload_n 0, 1) := by decide +kernel
theorem dX1_init_25 : decode cX1_init 25 = .ok (.iconst 0, 1) := by decide +kernel
theorem dX1_init_26 : decode cX1_init 26 = .ok (.putfield 22, 3) := by decide +kernel
theorem dX1_init_29 : decode cX1_init 29 = .ok (.return_, 1) := by decide +kernel
theorem dX1_text_0 : decode cX1_text 0 = .ok (.iload_n 0, 1) := by decide +kernel
theorem dX1_text_1 : decode cX1_text 1 = .ok (.tableswitch 57 0 5 #[39, 42, 45, 48, 51, 54], 39) := by decide +kernel
theorem dX1_text_40 : decode cX1_text 40 = .ok (.ldc 25, 2) := by decide +kernel
theorem dX1_text_42 : decode cX1_text 42 = .ok (.areturn, 1) := by decide +kernel
theorem dX1_text_43 : decode cX1_text 43 = .ok (.ldc 27, 2) := by decide +kernel
theorem dX1_text_45 : decode cX1_text 45 = .ok (.areturn, 1) := by decide +kernel
theorem dX1_text_46 : decode cX1_text 46 = .ok (.ldc 29, 2) := by decide +kernel
theorem dX1_text_48 : decode cX1_text 48 = .ok (.areturn, 1) := by decide +kernel
theorem dX1_text_49 : decode cX1_text 49 = .ok (.ldc 31, 2) := by decide +kernel
theorem dX1_text_51 : decode cX1_text 51 = .ok (.areturn, 1) := by decide +kernel
theorem dX1_text_52 : decode cX1_text 52 = .ok (.ldc 33, 2) := by decide +kernel
theorem dX1_text_54 : decode cX1_text 54 = .ok (.areturn, 1) := by decide +kernel
theorem dX1_text_55 : decode cX1_text 55 = .ok (.ldc 35, 2) := by decide +kernel
theorem dX1_text_57 : decode cX1_text 57 = .ok (.areturn, 1) := by decide +kernel
theorem dX1_text_58 : decode cX1_text 58 = .ok (.ldc 37, 2) := by decide +kernel
theorem dX1_text_60 : decode cX1_text 60 = .ok (.areturn, 1) := by decide +kernel
theorem dX1_numbersBehind_0 : decode cX1_numbersBehind 0 = .ok (.iload_n 0, 1) := by decide +kernel
theorem dX1_numbersBehind_1 : decode cX1_numbersBehind 1 = .ok (.tableswitch 47 0 6 #[43, 45, 45, 47, 47, 47, 43], 43) := by decide +kernel
theorem dX1_numbersBehind_44 : decode cX1_numbersBehind 44 = .ok (.iconst 3, 1) := by decide +kernel
theorem dX1_numbersBehind_45 : decode cX1_numbersBehind 45 = .ok (.ireturn, 1) := by decide +kernel
theorem dX1_numbersBehind_46 : decode cX1_numbersBehind 46 = .ok (.iconst 2, 1) := by decide +kernel
theorem dX1_numbersBehind_47 : decode cX1_numbersBehind 47 = .ok (.ireturn, 1) := by decide +kernel
theorem dX1_numbersBehind_48 : decode cX1_numbersBehind 48 = .ok (.iconst 1, 1) := by decide +kernel
theorem dX1_numbersBehind_49 : decode cX1_numbersBehind 49 = .ok (.ireturn, 1) := by decide +kernel
theorem dX1_add_0 : decode cX1_add 0 = .ok (.aload_n 0, 1) := by decide +kernel
theorem dX1_add_1 : decode cX1_add 1 = .ok (.getfield 18, 3) := by decide +kernel
theorem dX1_add_4 : decode cX1_add 4 = .ok (.bipush 20, 2) := by decide +kernel
theorem dX1_add_6 : decode cX1_add 6 = .ok (.if_icmp .lt 5, 3) := by decide +kernel
theorem dX1_add_9 : decode cX1_add 9 = .ok (.iconst 0, 1) := by decide +kernel
theorem dX1_add_10 : decode cX1_add 10 = .ok (.ireturn, 1) := by decide +kernel
theorem dX1_add_11 : decode cX1_add 11 = .ok (.aload_n 0, 1) := by decide +kernel
theorem dX1_add_12 : decode cX1_add 12 = .ok (.getfield 9, 3) := by decide +kernel
theorem dX1_add_15 : decode cX1_add 15 = .ok (.aload_n 0, 1) := by decide +kernel
theorem dX1_add_16 : decode cX1_add 16 = .ok (.getfield 18, 3) := by decide +kernel
theorem dX1_add_19 : decode cX1_add 19 = .ok (.iload_n 1, 1) := by decide +kernel
theorem dX1_add_20 : decode cX1_add 20 = .ok (.iastore, 1) := by decide +kernel
theorem dX1_add_21 : decode cX1_add 21 = .ok (.aload_n 0, 1) := by decide +kernel
theorem dX1_add_22 : decode cX1_add 22 = .ok (.dup, 1) := by decide +kernel
theorem dX1_add_23 : decode cX1_add 23 = .ok (.getfield 18, 3) := by decide +kernel
theorem dX1_add_26 : decode cX1_add 26 = .ok (.iconst 1, 1) := by decide +kernel
theorem dX1_add_27 : decode cX1_add 27 = .ok (.iadd, 1) := by decide +kernel
theorem dX1_add_28 : decode cX1_add 28 = .ok (.putfield 18, 3) := by decide +kernel
theorem dX1_add_31 : decode cX1_add 31 = .ok (.iconst 1, 1) := by decide +kernel
theorem dX1_add_32 : decode cX1_add 32 = .ok (.ireturn, 1) := by decide +kernel
theorem dX1_read_0 : decode cX1_read 0 = .ok (.iconst 0, 1) := by decide +kernel
theorem dX1_read_1 : decode cX1_read 1 = .ok (.istore_n 1, 1) := by decide +kernel
theorem dX1_read_2 : decode cX1_read 2 = .ok (.aload_n 0, 1) := by decide +kernel
theorem dX1_read_3 : decode cX1_read 3 = .ok (.iconst 0, 1) := by decide +kernel
theorem dX1_read_4 : decode cX1_read 4 = .ok (.putfield 22, 3) := by decide +kernel
theorem dX1_read_7 : decode cX1_read 7 = .ok (.iconst 0, 1) := by decide +kernel
theorem dX1_read_8 : decode cX1_read 8 = .ok (.istore_n 2, 1) := by decide +kernel
theorem dX1_read_9 : decode cX1_read 9 = .ok (.iload_n 2, 1) := by decide +kernel
theorem dX1_read_10 : decode cX1_read 10 = .ok (.bipush 7, 2) := by decide +kernel
theorem dX1_read_12 : decode cX1_read 12 = .ok (.if_icmp .ge 30, 3) := by decide +kernel
theorem dX1_read_15 : decode cX1_read 15 = .ok (.aload_n 0, 1) := by decide +kernel
theorem dX1_read_16 : decode cX1_read 16 = .ok (.iload_n 2, 1) := by decide +kernel
theorem dX1_read_17 : decode cX1_read 17 = .ok (.invokestatic 39, 3) := by decide +kernel
theorem dX1_read_20 : decode cX1_read 20 = .ok (.invokevirtual 43, 3) := by decide +kernel
theorem dX1_read_23 : decode cX1_read 23 = .ok (.istore_n 3, 1) := by decide +kernel
theorem dX1_read_24 : decode cX1_read 24 = .ok (.iload_n 3, 1) := by decide +kernel
theorem dX1_read_25 : decode cX1_read 25 = .ok (.iload_n 1, 1) := by decide +kernel
theorem dX1_read_26 : decode cX1_read 26 = .ok (.if_icmp .le 10, 3) := by decide +kernel
theorem dX1_read_29 : decode cX1_read 29 = .ok (.iload_n 3, 1) := by decide +kernel
theorem dX1_read_30 : decode cX1_read 30 = .ok (.istore_n 1, 1) := by decide +kernel
theorem dX1_read_31 : decode cX1_read 31 = .ok (.aload_n 0, 1) := by decide +kernel
theorem dX1_read_32 : decode cX1_read 32 = .ok (.iload_n 2, 1) := by decide +kernel
theorem dX1_read_33 : decode cX1_read 33 = .ok (.putfield 22, 3) := by decide +kernel
theorem dX1_read_36 : decode cX1_read 36 = .ok (.iinc 2 1, 3) := by decide +kernel
theorem dX1_read_39 : decode cX1_read 39 = .ok (.goto (-30), 3) := by decide +kernel
theorem dX1_read_42 : decode cX1_read 42 = .ok (.iload_n 1, 1) := by decide +kernel
theorem dX1_read_43 : decode cX1_read 43 = .ok (.aload_n 0, 1) := by decide +kernel
theorem dX1_read_44 : decode cX1_read 44 = .ok (.getfield 22, 3) := by decide +kernel
theorem dX1_read_47 : decode cX1_read 47 = .ok (.invokestatic 39, 3) := by decide +kernel
theorem dX1_read_50 : decode cX1_read 50 = .ok (.invokevirtual 47, 3) := by decide +kernel
theorem dX1_read_53 : decode cX1_read 53 = .ok (.if_icmp .ge 7, 3) := by decide +kernel
theorem dX1_read_56 : decode cX1_read 56 = .ok (.iload_n 1, 1) := by decide +kernel
theorem dX1_read_57 : decode cX1_read 57 = .ok (.goto 8, 3) := by decide +kernel
theorem dX1_read_60 : decode cX1_read 60 = .ok (.aload_n 0, 1) := by decide +kernel
theorem dX1_read_61 : decode cX1_read 61 = .ok (.iload_n 1, 1) := by decide +kernel
theorem dX1_read_62 : decode cX1_read 62 = .ok (.invokevirtual 52, 3) := by decide +kernel
theorem dX1_read_65 : decode cX1_read 65 = .ok (.ireturn, 1) := by decide +kernel
theorem dX1_commonSigns_0 : decode cX1_commonSigns 0 = .ok (.aload_n 0, 1) := by decide +kernel
theorem dX1_commonSigns_1 : decode cX1_commonSigns 1 = .ok (.getfield 18, 3) := by decide +kernel
theorem dX1_commonSigns_4 : decode cX1_commonSigns 4 = .ok (.aload_n 1, 1) := by decide +kernel
theorem dX1_commonSigns_5 : decode cX1_commonSigns 5 = .ok (.invokevirtual 47, 3) := by decide +kernel
theorem dX1_commonSigns_8 : decode cX1_commonSigns 8 = .ok (.invokestatic 56, 3) := by decide +kernel
theorem dX1_commonSigns_11 : decode cX1_commonSigns 11 = .ok (.istore_n 2, 1) := by decide +kernel
theorem dX1_commonSigns_12 : decode cX1_commonSigns 12 = .ok (.iconst 0, 1) := by decide +kernel
theorem dX1_commonSigns_13 : decode cX1_commonSigns 13 = .ok (.istore_n 3, 1) := by decide +kernel
theorem dX1_commonSigns_14 : decode cX1_commonSigns 14 = .ok (.iload_n 3, 1) := by decide +kernel
theorem dX1_commonSigns_15 : decode cX1_commonSigns 15 = .ok (.iload_n 2, 1) := by decide +kernel
theorem dX1_commonSigns_16 : decode cX1_commonSigns 16 = .ok (.if_icmp .ge 23, 3) := by decide +kernel
theorem dX1_commonSigns_19 : decode cX1_commonSigns 19 = .ok (.aload_n 0, 1) := by decide +kernel
theorem dX1_commonSigns_20 : decode cX1_commonSigns 20 = .ok (.getfield 9, 3) := by decide +kernel
theorem dX1_commonSigns_23 : decode cX1_commonSigns 23 = .ok (.iload_n 3, 1) := by decide +kernel
theorem dX1_commonSigns_24 : decode cX1_commonSigns 24 = .ok (.iaload, 1) := by decide +kernel
theorem dX1_commonSigns_25 : decode cX1_commonSigns 25 = .ok (.aload_n 1, 1) := by decide +kernel
theorem dX1_commonSigns_26 : decode cX1_commonSigns 26 = .ok (.iload_n 3, 1) := by decide +kernel
theorem dX1_commonSigns_27 : decode cX1_commonSigns 27 = .ok (.invokevirtual 62, 3) := by decide +kernel
theorem dX1_commonSigns_30 : decode cX1_commonSigns 30 = .ok (.if_icmp .ne 9, 3) := by decide +kernel
theorem dX1_commonSigns_33 : decode cX1_commonSigns 33 = .ok (.iinc 3 1, 3) := by decide +kernel
theorem dX1_commonSigns_36 : decode cX1_commonSigns 36 = .ok (.goto (-22), 3) := by decide +kernel
theorem dX1_commonSigns_39 : decode cX1_commonSigns 39 = .ok (.iload_n 3, 1) := by decide +kernel
theorem dX1_commonSigns_40 : decode cX1_commonSigns 40 = .ok (.ireturn, 1) := by decide +kernel
theorem dX1_readNumbers_0 : decode cX1_readNumbers 0 = .ok (.iload_n 1, 1) := by decide +kernel
theorem dX1_readNumbers_1 : decode cX1_readNumbers 1 = .ok (.istore_n 2, 1) := by decide +kernel
theorem dX1_readNumbers_2 : decode cX1_readNumbers 2 = .ok (.aload_n 0, 1) := by decide +kernel
theorem dX1_readNumbers_3 : decode cX1_readNumbers 3 = .ok (.getfield 22, 3) := by decide +kernel
theorem dX1_readNumbers_6 : decode cX1_readNumbers 6 = .ok (.invokestatic 66, 3) := by decide +kernel
theorem dX1_readNumbers_9 : decode cX1_readNumbers 9 = .ok (.istore_n 3, 1) := by decide +kernel
theorem dX1_readNumbers_10 : decode cX1_readNumbers 10 = .ok (.iconst 0, 1) := by decide +kernel
theorem dX1_readNumbers_11 : decode cX1_readNumbers 11 = .ok (.istore 4, 2) := by decide +kernel
theorem dX1_readNumbers_13 : decode cX1_readNumbers 13 = .ok (.iload 4, 2) := by decide +kernel
theorem dX1_readNumbers_15 : decode cX1_readNumbers 15 = .ok (.iload_n 3, 1) := by decide +kernel
theorem dX1_readNumbers_16 : decode cX1_readNumbers 16 = .ok (.if_icmp .ge 91, 3) := by decide +kernel
theorem dX1_readNumbers_19 : decode cX1_readNumbers 19 = .ok (.aload_n 0, 1) := by decide +kernel
theorem dX1_readNumbers_20 : decode cX1_readNumbers 20 = .ok (.iload_n 2, 1) := by decide +kernel
theorem dX1_readNumbers_21 : decode cX1_readNumbers 21 = .ok (.bipush 32, 2) := by decide +kernel
theorem dX1_readNumbers_23 : decode cX1_readNumbers 23 = .ok (.invokevirtual 69, 3) := by decide +kernel
theorem dX1_readNumbers_26 : decode cX1_readNumbers 26 = .ok (.ifCond .ne 5, 3) := by decide +kernel
theorem dX1_readNumbers_29 : decode cX1_readNumbers 29 = .ok (.iload_n 2, 1) := by decide +kernel
theorem dX1_readNumbers_30 : decode cX1_readNumbers 30 = .ok (.ireturn, 1) := by decide +kernel
theorem dX1_readNumbers_31 : decode cX1_readNumbers 31 = .ok (.iinc 2 1, 3) := by decide +kernel
theorem dX1_readNumbers_34 : decode cX1_readNumbers 34 = .ok (.aload_n 0, 1) := by decide +kernel
theorem dX1_readNumbers_35 : decode cX1_readNumbers 35 = .ok (.iload_n 2, 1) := by decide +kernel
theorem dX1_readNumbers_36 : decode cX1_readNumbers 36 = .ok (.invokevirtual 73, 3) := by decide +kernel
theorem dX1_readNumbers_39 : decode cX1_readNumbers 39 = .ok (.ifCond .ne 5, 3) := by decide +kernel
theorem dX1_readNumbers_42 : decode cX1_readNumbers 42 = .ok (.iload_n 2, 1) := by decide +kernel
theorem dX1_readNumbers_43 : decode cX1_readNumbers 43 = .ok (.ireturn, 1) := by decide +kernel
theorem dX1_readNumbers_44 : decode cX1_readNumbers 44 = .ok (.aload_n 0, 1) := by decide +kernel
theorem dX1_readNumbers_45 : decode cX1_readNumbers 45 = .ok (.getfield 15, 3) := by decide +kernel
theorem dX1_readNumbers_48 : decode cX1_readNumbers 48 = .ok (.iload 4, 2) := by decide +kernel
theorem dX1_readNumbers_50 : decode cX1_readNumbers 50 = .ok (.aload_n 0, 1) := by decide +kernel
theorem dX1_readNumbers_51 : decode cX1_readNumbers 51 = .ok (.getfield 9, 3) := by decide +kernel
theorem dX1_readNumbers_54 : decode cX1_readNumbers 54 = .ok (.iload_n 2, 1) := by decide +kernel
theorem dX1_readNumbers_55 : decode cX1_readNumbers 55 = .ok (.iaload, 1) := by decide +kernel
theorem dX1_readNumbers_56 : decode cX1_readNumbers 56 = .ok (.bipush 48, 2) := by decide +kernel
theorem dX1_readNumbers_58 : decode cX1_readNumbers 58 = .ok (.isub, 1) := by decide +kernel
theorem dX1_readNumbers_59 : decode cX1_readNumbers 59 = .ok (.iastore, 1) := by decide +kernel
theorem dX1_readNumbers_60 : decode cX1_readNumbers 60 = .ok (.iinc 2 1, 3) := by decide +kernel
theorem dX1_readNumbers_63 : decode cX1_readNumbers 63 = .ok (.aload_n 0, 1) := by decide +kernel
theorem dX1_readNumbers_64 : decode cX1_readNumbers 64 = .ok (.iload_n 2, 1) := by decide +kernel
theorem dX1_readNumbers_65 : decode cX1_readNumbers 65 = .ok (.invokevirtual 73, 3) := by decide +kernel
theorem dX1_readNumbers_68 : decode cX1_readNumbers 68 = .ok (.ifCond .eq 33, 3) := by decide +kernel
theorem dX1_readNumbers_71 : decode cX1_readNumbers 71 = .ok (.aload_n 0, 1) := by decide +kernel
theorem dX1_readNumbers_72 : decode cX1_readNumbers 72 = .ok (.getfield 15, 3) := by decide +kernel
theorem dX1_readNumbers_75 : decode cX1_readNumbers 75 = .ok (.iload 4, 2) := by decide +kernel
theorem dX1_readNumbers_77 : decode cX1_readNumbers 77 = .ok (.aload_n 0, 1) := by decide +kernel
theorem dX1_readNumbers_78 : decode cX1_readNumbers 78 = .ok (.getfield 15, 3) := by decide +kernel
theorem dX1_readNumbers_81 : decode cX1_readNumbers 81 = .ok (.iload 4, 2) := by decide +kernel
theorem dX1_readNumbers_83 : decode cX1_readNumbers 83 = .ok (.iaload, 1) := by decide +kernel
theorem dX1_readNumbers_84 : decode cX1_readNumbers 84 = .ok (.bipush 10, 2) := by decide +kernel
theorem dX1_readNumbers_86 : decode cX1_readNumbers 86 = .ok (.imul, 1) := by decide +kernel
theorem dX1_readNumbers_87 : decode cX1_readNumbers 87 = .ok (.aload_n 0, 1) := by decide +kernel
theorem dX1_readNumbers_88 : decode cX1_readNumbers 88 = .ok (.getfield 9, 3) := by decide +kernel
theorem dX1_readNumbers_91 : decode cX1_readNumbers 91 = .ok (.iload_n 2, 1) := by decide +kernel
theorem dX1_readNumbers_92 : decode cX1_readNumbers 92 = .ok (.iaload, 1) := by decide +kernel
theorem dX1_readNumbers_93 : decode cX1_readNumbers 93 = .ok (.iadd, 1) := by decide +kernel
theorem dX1_readNumbers_94 : decode cX1_readNumbers 94 = .ok (.bipush 48, 2) := by decide +kernel
theorem dX1_readNumbers_96 : decode cX1_readNumbers 96 = .ok (.isub, 1) := by decide +kernel
theorem dX1_readNumbers_97 : decode cX1_readNumbers 97 = .ok (.iastore, 1) := by decide +kernel
theorem dX1_readNumbers_98 : decode cX1_readNumbers 98 = .ok (.iinc 2 1, 3) := by decide +kernel
theorem dX1_readNumbers_101 : decode cX1_readNumbers 101 = .ok (.iinc 4 1, 3) := by decide +kernel
theorem dX1_readNumbers_104 : decode cX1_readNumbers 104 = .ok (.goto (-91), 3) := by decide +kernel
theorem dX1_readNumbers_107 : decode cX1_readNumbers 107 = .ok (.iload_n 2, 1) := by decide +kernel
theorem dX1_readNumbers_108 : decode cX1_readNumbers 108 = .ok (.aload_n 0, 1) := by decide +kernel
theorem dX1_readNumbers_109 : decode cX1_readNumbers 109 = .ok (.getfield 18, 3) := by decide +kernel
theorem dX1_readNumbers_112 : decode cX1_readNumbers 112 = .ok (.if_icmp .ge 7, 3) := by decide +kernel
theorem dX1_readNumbers_115 : decode cX1_readNumbers 115 = .ok (.iload_n 2, 1) := by decide +kernel
theorem dX1_readNumbers_116 : decode cX1_readNumbers 116 = .ok (.goto 5, 3) := by decide +kernel
theorem dX1_readNumbers_119 : decode cX1_readNumbers 119 = .ok (.bipush (-6), 2) := by decide +kernel
theorem dX1_readNumbers_121 : decode cX1_readNumbers 121 = .ok (.ireturn, 1) := by decide +kernel
theorem dX1_isSign_0 : decode cX1_isSign 0 = .ok (.iload_n 1, 1) := by decide +kernel
theorem dX1_isSign_1 : decode cX1_isSign 1 = .ok (.aload_n 0, 1) := by decide +kernel
theorem dX1_isSign_2 : decode cX1_isSign 2 = .ok (.getfield 18, 3) := by decide +kernel
theorem dX1_isSign_5 : decode cX1_isSign 5 = .ok (.if_icmp .ge 17, 3) := by decide +kernel
theorem dX1_isSign_8 : decode cX1_isSign 8 = .ok (.aload_n 0, 1) := by decide +kernel
theorem dX1_isSign_9 : decode cX1_isSign 9 = .ok (.getfield 9, 3) := by decide +kernel
theorem dX1_isSign_12 : decode cX1_isSign 12 = .ok (.iload_n 1, 1) := by decide +kernel
theorem dX1_isSign_13 : decode cX1_isSign 13 = .ok (.iaload, 1) := by decide +kernel
theorem dX1_isSign_14 : decode cX1_isSign 14 = .ok (.iload_n 2, 1) := by decide +kernel
theorem dX1_isSign_15 : decode cX1_isSign 15 = .ok (.if_icmp .ne 7, 3) := by decide +kernel
theorem dX1_isSign_18 : decode cX1_isSign 18 = .ok (.iconst 1, 1) := by decide +kernel
theorem dX1_isSign_19 : decode cX1_isSign 19 = .ok (.goto 4, 3) := by decide +kernel
theorem dX1_isSign_22 : decode cX1_isSign 22 = .ok (.iconst 0, 1) := by decide +kernel
theorem dX1_isSign_23 : decode cX1_isSign 23 = .ok (.ireturn, 1) := by decide +kernel
theorem dX1_isFigure_0 : decode cX1_isFigure 0 = .ok (.iload_n 1, 1) := by decide +kernel
theorem dX1_isFigure_1 : decode cX1_isFigure 1 = .ok (.aload_n 0, 1) := by decide +kernel
theorem dX1_isFigure_2 : decode cX1_isFigure 2 = .ok (.getfield 18, 3) := by decide +kernel
theorem dX1_isFigure_5 : decode cX1_isFigure 5 = .ok (.if_icmp .ge 23, 3) := by decide +kernel
theorem dX1_isFigure_8 : decode cX1_isFigure 8 = .ok (.aload_n 0, 1) := by decide +kernel
theorem dX1_isFigure_9 : decode cX1_isFigure 9 = .ok (.getfield 9, 3) := by decide +kernel
theorem dX1_isFigure_12 : decode cX1_isFigure 12 = .ok (.iload_n 1, 1) := by decide +kernel
theorem dX1_isFigure_13 : decode cX1_isFigure 13 = .ok (.iaload, 1) := by decide +kernel
theorem dX1_isFigure_14 : decode cX1_isFigure 14 = .ok (.bipush 48, 2) := by decide +kernel
theorem dX1_isFigure_16 : decode cX1_isFigure 16 = .ok (.bipush 57, 2) := by decide +kernel
theorem dX1_isFigure_18 : decode cX1_isFigure 18 = .ok (.invokestatic 77, 3) := by decide +kernel
theorem dX1_isFigure_21 : decode cX1_isFigure 21 = .ok (.ifCond .eq 7, 3) := by decide +kernel
theorem dX1_isFigure_24 : decode cX1_isFigure 24 = .ok (.iconst 1, 1) := by decide +kernel
theorem dX1_isFigure_25 : decode cX1_isFigure 25 = .ok (.goto 4, 3) := by decide +kernel
theorem dX1_isFigure_28 : decode cX1_isFigure 28 = .ok (.iconst 0, 1) := by decide +kernel
theorem dX1_isFigure_29 : decode cX1_isFigure 29 = .ok (.ireturn, 1) := by decide +kernel
theorem dX2_init_0 : decode cX2_init 0 = .ok (.aload_n 0, 1) := by decide +kernel
theorem dX2_init_1 : decode cX2_init 1 = .ok (.invokespecial 3, 3) := by decide +kernel
theorem dX2_init_4 : decode cX2_init 4 = .ok (.aload_n 0, 1) := by decide +kernel
theorem dX2_init_5 : decode cX2_init 5 = .ok (.iconst 4, 1) := by decide +kernel
theorem dX2_init_6 : decode cX2_init 6 = .ok (.anewarray 9, 3) := by decide +kernel
theorem dX2_init_9 : decode cX2_init 9 = .ok (.putfield 11, 3) := by decide +kernel
theorem dX2_init_12 : decode cX2_init 12 = .ok (.aload_n 0, 1) := by decide +kernel
theorem dX2_init_13 : decode cX2_init 13 = .ok (.bipush 20, 2) := by decide +kernel
theorem dX2_init_15 : decode cX2_init 15 = .ok (.putfield 17, 3) := by decide +kernel
theorem dX2_init_18 : decode cX2_init 18 = .ok (.aload_n 0, 1) := by decide +kernel
theorem dX2_init_19 : decode cX2_init 19 = .ok (.iconst 1, 1) := by decide +kernel
theorem dX2_init_20 : decode cX2_init 20 = .ok (.putfield 21, 3) := by decide +kernel
theorem dX2_init_23 : decode cX2_init 23 = .ok (.iconst 0, 1) := by decide +kernel
theorem dX2_init_24 : decode cX2_init 24 = .ok (.istore_n 1, 1) := by decide +kernel
theorem dX2_init_25 : decode cX2_init 25 = .ok (.iload_n 1, 1) := by decide +kernel
theorem dX2_init_26 : decode cX2_init 26 = .ok (.iconst 4, 1) := by decide +kernel
theorem dX2_init_27 : decode cX2_init 27 = .ok (.if_icmp .ge 22, 3) := by decide +kernel
theorem dX2_init_30 : decode cX2_init 30 = .ok (.aload_n 0, 1) := by decide +kernel
theorem dX2_init_31 : decode cX2_init 31 = .ok (.getfield 11, 3) := by decide +kernel
theorem dX2_init_34 : decode cX2_init 34 = .ok (.iload_n 1, 1) := by decide +kernel
theorem dX2_init_35 : decode cX2_init 35 = .ok (.new 9, 3) := by decide +kernel
theorem dX2_init_38 : decode cX2_init 38 = .ok (.dup, 1) := by decide +kernel
theorem dX2_init_39 : decode cX2_init 39 = .ok (.invokespecial 24, 3) := by decide +kernel
theorem dX2_init_42 : decode cX2_init 42 = .ok (.aastore, 1) := by decide +kernel
theorem dX2_init_43 : decode cX2_init 43 = .ok (.iinc 1 1, 3) := by decide +kernel
theorem dX2_init_46 : decode cX2_init 46 = .ok (.goto (-21), 3) := by decide +kernel
theorem dX2_init_49 : decode cX2_init 49 = .ok (.return_, 1) := by decide +kernel
theorem dX2_framesInAll_0 : decode cX2_framesInAll 0 = .ok (.iconst 0, 1) := by decide +kernel
theorem dX2_framesInAll_1 : decode cX2_framesInAll 1 = .ok (.istore_n 1, 1) := by decide +kernel
theorem dX2_framesInAll_2 : decode cX2_framesInAll 2 = .ok (.iconst 0, 1) := by decide +kernel
theorem dX2_framesInAll_3 : decode cX2_framesInAll 3 = .ok (.istore_n 2, 1) := by decide +kernel
theorem dX2_framesInAll_4 : decode cX2_framesInAll 4 = .ok (.iload_n 2, 1) := by decide +kernel
theorem dX2_framesInAll_5 : decode cX2_framesInAll 5 = .ok (.iconst 4, 1) := by decide +kernel
theorem dX2_framesInAll_6 : decode cX2_framesInAll 6 = .ok (.if_icmp .ge 21, 3) := by decide +kernel
theorem dX2_framesInAll_9 : decode cX2_framesInAll 9 = .ok (.iload_n 1, 1) := by decide +kernel
theorem dX2_framesInAll_10 : decode cX2_framesInAll 10 = .ok (.aload_n 0, 1) := by decide +kernel
theorem dX2_framesInAll_11 : decode cX2_framesInAll 11 = .ok (.getfield 11, 3) := by decide +kernel
theorem dX2_framesInAll_14 : decode cX2_framesInAll 14 = .ok (.iload_n 2, 1) := by decide +kernel
theorem dX2_framesInAll_15 : decode cX2_framesInAll 15 = .ok (.aaload, 1) := by decide +kernel
theorem dX2_framesInAll_16 : decode cX2_framesInAll 16 = .ok (.getfield 25, 3) := by decide +kernel
theorem dX2_framesInAll_19 : decode cX2_framesInAll 19 = .ok (.iadd, 1) := by decide +kernel
theorem dX2_framesInAll_20 : decode cX2_framesInAll 20 = .ok (.istore_n 1, 1) := by decide +kernel
theorem dX2_framesInAll_21 : decode cX2_framesInAll 21 = .ok (.iinc 2 1, 3) := by decide +kernel
theorem dX2_framesInAll_24 : decode cX2_framesInAll 24 = .ok (.goto (-20), 3) := by decide +kernel
theorem dX2_framesInAll_27 : decode cX2_framesInAll 27 = .ok (.iload_n 1, 1) := by decide +kernel
theorem dX2_framesInAll_28 : decode cX2_framesInAll 28 = .ok (.ireturn, 1) := by decide +kernel
theorem dX2_copyFrom_0 : decode cX2_copyFrom 0 = .ok (.iconst 0, 1) := by decide +kernel
theorem dX2_copyFrom_1 : decode cX2_copyFrom 1 = .ok (.istore_n 2, 1) := by decide +kernel
theorem dX2_copyFrom_2 : decode cX2_copyFrom 2 = .ok (.iload_n 2, 1) := by decide +kernel
theorem dX2_copyFrom_3 : decode cX2_copyFrom 3 = .ok (.iconst 4, 1) := by decide +kernel
theorem dX2_copyFrom_4 : decode cX2_copyFrom 4 = .ok (.if_icmp .ge 24, 3) := by decide +kernel
theorem dX2_copyFrom_7 : decode cX2_copyFrom 7 = .ok (.aload_n 0, 1) := by decide +kernel
theorem dX2_copyFrom_8 : decode cX2_copyFrom 8 = .ok (.getfield 11, 3) := by decide +kernel
theorem dX2_copyFrom_11 : decode cX2_copyFrom 11 = .ok (.iload_n 2, 1) := by decide +kernel
theorem dX2_copyFrom_12 : decode cX2_copyFrom 12 = .ok (.aaload, 1) := by decide +kernel
theorem dX2_copyFrom_13 : decode cX2_copyFrom 13 = .ok (.aload_n 1, 1) := by decide +kernel
theorem dX2_copyFrom_14 : decode cX2_copyFrom 14 = .ok (.getfield 11, 3) := by decide +kernel
theorem dX2_copyFrom_17 : decode cX2_copyFrom 17 = .ok (.iload_n 2, 1) := by decide +kernel
theorem dX2_copyFrom_18 : decode cX2_copyFrom 18 = .ok (.aaload, 1) := by decide +kernel
theorem dX2_copyFrom_19 : decode cX2_copyFrom 19 = .ok (.invokevirtual 28, 3) := by decide +kernel
theorem dX2_copyFrom_22 : decode cX2_copyFrom 22 = .ok (.iinc 2 1, 3) := by decide +kernel
theorem dX2_copyFrom_25 : decode cX2_copyFrom 25 = .ok (.goto (-23), 3) := by decide +kernel
theorem dX2_copyFrom_28 : decode cX2_copyFrom 28 = .ok (.aload_n 0, 1) := by decide +kernel
theorem dX2_copyFrom_29 : decode cX2_copyFrom 29 = .ok (.aload_n 1, 1) := by decide +kernel
theorem dX2_copyFrom_30 : decode cX2_copyFrom 30 = .ok (.getfield 17, 3) := by decide +kernel
theorem dX2_copyFrom_33 : decode cX2_copyFrom 33 = .ok (.putfield 17, 3) := by decide +kernel
theorem dX2_copyFrom_36 : decode cX2_copyFrom 36 = .ok (.aload_n 0, 1) := by decide +kernel
theorem dX2_copyFrom_37 : decode cX2_copyFrom 37 = .ok (.aload_n 1, 1) := by decide +kernel
theorem dX2_copyFrom_38 : decode cX2_copyFrom 38 = .ok (.getfield 21, 3) := by decide +kernel
theorem dX2_copyFrom_41 : decode cX2_copyFrom 41 = .ok (.putfield 21, 3) := by decide +kernel
theorem dX2_copyFrom_44 : decode cX2_copyFrom 44 = .ok (.return_, 1) := by decide +kernel
theorem dX3_init_0 : decode cX3_init 0 = .ok (.aload_n 0, 1) := by decide +kernel
theorem dX3_init_1 : decode cX3_init 1 = .ok (.invokespecial 3, 3) := by decide +kernel
theorem dX3_init_4 : decode cX3_init 4 = .ok (.aload_n 0, 1) := by decide +kernel
theorem dX3_init_5 : decode cX3_init 5 = .ok (.bipush 10, 2) := by decide +kernel
theorem dX3_init_7 : decode cX3_init 7 = .ok (.newarray .int, 2) := by decide +kernel
theorem dX3_init_9 : decode cX3_init 9 = .ok (.putfield 9, 3) := by decide +kernel
theorem dX3_init_12 : decode cX3_init 12 = .ok (.aload_n 0, 1) := by decide +kernel
theorem dX3_init_13 : decode cX3_init 13 = .ok (.bipush 10, 2) := by decide +kernel
theorem dX3_init_15 : decode cX3_init 15 = .ok (.newarray .int, 2) := by decide +kernel
theorem dX3_init_17 : decode cX3_init 17 = .ok (.putfield 15, 3) := by decide +kernel
theorem dX3_init_20 : decode cX3_init 20 = .ok (.aload_n 0, 1) := by decide +kernel
theorem dX3_init_21 : decode cX3_init 21 = .ok (.iconst 0, 1) := by decide +kernel
theorem dX3_init_22 : decode cX3_init 22 = .ok (.putfield 18, 3) := by decide +kernel
theorem dX3_init_25 : decode cX3_init 25 = .ok (.aload_n 0, 1) := by decide +kernel
theorem dX3_init_26 : decode cX3_init 26 = .ok (.bipush 10, 2) := by decide +kernel
theorem dX3_init_28 : decode cX3_init 28 = .ok (.putfield 22, 3) := by decide +kernel
theorem dX3_init_31 : decode cX3_init 31 = .ok (.aload_n 0, 1) := by decide +kernel
theorem dX3_init_32 : decode cX3_init 32 = .ok (.iconst 0, 1) := by decide +kernel
theorem dX3_init_33 : decode cX3_init 33 = .ok (.putfield 25, 3) := by decide +kernel
theorem dX3_init_36 : decode cX3_init 36 = .ok (.return_, 1) := by decide +kernel
theorem dX3_hasFrame_0 : decode cX3_hasFrame 0 = .ok (.iload_n 1, 1) := by decide +kernel
theorem dX3_hasFrame_1 : decode cX3_hasFrame 1 = .ok (.iconst 0, 1) := by decide +kernel
theorem dX3_hasFrame_2 : decode cX3_hasFrame 2 = .ok (.aload_n 0, 1) := by decide +kernel
theorem dX3_hasFrame_3 : decode cX3_hasFrame 3 = .ok (.getfield 18, 3) := by decide +kernel
theorem dX3_hasFrame_6 : decode cX3_hasFrame 6 = .ok (.iconst 1, 1) := by decide +kernel
theorem dX3_hasFrame_7 : decode cX3_hasFrame 7 = .ok (.isub, 1) := by decide +kernel
theorem dX3_hasFrame_8 : decode cX3_hasFrame 8 = .ok (.invokestatic 28, 3) := by decide +kernel
theorem dX3_hasFrame_11 : decode cX3_hasFrame 11 = .ok (.ireturn, 1) := by decide +kernel
theorem dX3_add_0 : decode cX3_add 0 = .ok (.aload_n 0, 1) := by decide +kernel
theorem dX3_add_1 : decode cX3_add 1 = .ok (.getfield 18, 3) := by decide +kernel
theorem dX3_add_4 : decode cX3_add 4 = .ok (.bipush 10, 2) := by decide +kernel
theorem dX3_add_6 : decode cX3_add 6 = .ok (.if_icmp .lt 5, 3) := by decide +kernel
theorem dX3_add_9 : decode cX3_add 9 = .ok (.iconst 0, 1) := by decide +kernel
theorem dX3_add_10 : decode cX3_add 10 = .ok (.ireturn, 1) := by decide +kernel
theorem dX3_add_11 : decode cX3_add 11 = .ok (.aload_n 0, 1) := by decide +kernel
theorem dX3_add_12 : decode cX3_add 12 = .ok (.getfield 9, 3) := by decide +kernel
theorem dX3_add_15 : decode cX3_add 15 = .ok (.aload_n 0, 1) := by decide +kernel
theorem dX3_add_16 : decode cX3_add 16 = .ok (.getfield 18, 3) := by decide +kernel
theorem dX3_add_19 : decode cX3_add 19 = .ok (.iload_n 1, 1) := by decide +kernel
theorem dX3_add_20 : decode cX3_add 20 = .ok (.iastore, 1) := by decide +kernel
theorem dX3_add_21 : decode cX3_add 21 = .ok (.aload_n 0, 1) := by decide +kernel
theorem dX3_add_22 : decode cX3_add 22 = .ok (.getfield 15, 3) := by decide +kernel
theorem dX3_add_25 : decode cX3_add 25 = .ok (.aload_n 0, 1) := by decide +kernel
theorem dX3_add_26 : decode cX3_add 26 = .ok (.getfield 18, 3) := by decide +kernel
theorem dX3_add_29 : decode cX3_add 29 = .ok (.iload_n 2, 1) := by decide +kernel
theorem dX3_add_30 : decode cX3_add 30 = .ok (.iastore, 1) := by decide +kernel
theorem dX3_add_31 : decode cX3_add 31 = .ok (.aload_n 0, 1) := by decide +kernel
theorem dX3_add_32 : decode cX3_add 32 = .ok (.dup, 1) := by decide +kernel
theorem dX3_add_33 : decode cX3_add 33 = .ok (.getfield 18, 3) := by decide +kernel
theorem dX3_add_36 : decode cX3_add 36 = .ok (.iconst 1, 1) := by decide +kernel
theorem dX3_add_37 : decode cX3_add 37 = .ok (.iadd, 1) := by decide +kernel
theorem dX3_add_38 : decode cX3_add 38 = .ok (.putfield 18, 3) := by decide +kernel
theorem dX3_add_41 : decode cX3_add 41 = .ok (.iconst 1, 1) := by decide +kernel
theorem dX3_add_42 : decode cX3_add 42 = .ok (.ireturn, 1) := by decide +kernel
theorem dX3_lastDue_0 : decode cX3_lastDue 0 = .ok (.aload_n 0, 1) := by decide +kernel
theorem dX3_lastDue_1 : decode cX3_lastDue 1 = .ok (.getfield 18, 3) := by decide +kernel
theorem dX3_lastDue_4 : decode cX3_lastDue 4 = .ok (.ifCond .le 17, 3) := by decide +kernel
theorem dX3_lastDue_7 : decode cX3_lastDue 7 = .ok (.aload_n 0, 1) := by decide +kernel
theorem dX3_lastDue_8 : decode cX3_lastDue 8 = .ok (.getfield 15, 3) := by decide +kernel
theorem dX3_lastDue_11 : decode cX3_lastDue 11 = .ok (.aload_n 0, 1) := by decide +kernel
theorem dX3_lastDue_12 : decode cX3_lastDue 12 = .ok (.getfield 18, 3) := by decide +kernel
theorem dX3_lastDue_15 : decode cX3_lastDue 15 = .ok (.iconst 1, 1) := by decide +kernel
theorem dX3_lastDue_16 : decode cX3_lastDue 16 = .ok (.isub, 1) := by decide +kernel
theorem dX3_lastDue_17 : decode cX3_lastDue 17 = .ok (.iaload, 1) := by decide +kernel
theorem dX3_lastDue_18 : decode cX3_lastDue 18 = .ok (.goto 5, 3) := by decide +kernel
theorem dX3_lastDue_21 : decode cX3_lastDue 21 = .ok (.bipush (-6), 2) := by decide +kernel
theorem dX3_lastDue_23 : decode cX3_lastDue 23 = .ok (.ireturn, 1) := by decide +kernel
theorem dX3_packets_0 : decode cX3_packets 0 = .ok (.iconst 0, 1) := by decide +kernel
theorem dX3_packets_1 : decode cX3_packets 1 = .ok (.istore_n 1, 1) := by decide +kernel
theorem dX3_packets_2 : decode cX3_packets 2 = .ok (.iconst 0, 1) := by decide +kernel
theorem dX3_packets_3 : decode cX3_packets 3 = .ok (.istore_n 2, 1) := by decide +kernel
theorem dX3_packets_4 : decode cX3_packets 4 = .ok (.iload_n 2, 1) := by decide +kernel
theorem dX3_packets_5 : decode cX3_packets 5 = .ok (.aload_n 0, 1) := by decide +kernel
theorem dX3_packets_6 : decode cX3_packets 6 = .ok (.getfield 18, 3) := by decide +kernel
theorem dX3_packets_9 : decode cX3_packets 9 = .ok (.if_icmp .ge 18, 3) := by decide +kernel
theorem dX3_packets_12 : decode cX3_packets 12 = .ok (.iload_n 1, 1) := by decide +kernel
theorem dX3_packets_13 : decode cX3_packets 13 = .ok (.aload_n 0, 1) := by decide +kernel
theorem dX3_packets_14 : decode cX3_packets 14 = .ok (.getfield 9, 3) := by decide +kernel
theorem dX3_packets_17 : decode cX3_packets 17 = .ok (.iload_n 2, 1) := by decide +kernel
theorem dX3_packets_18 : decode cX3_packets 18 = .ok (.iaload, 1) := by decide +kernel
theorem dX3_packets_19 : decode cX3_packets 19 = .ok (.iadd, 1) := by decide +kernel
theorem dX3_packets_20 : decode cX3_packets 20 = .ok (.istore_n 1, 1) := by decide +kernel
theorem dX3_packets_21 : decode cX3_packets 21 = .ok (.iinc 2 1, 3) := by decide +kernel
theorem dX3_packets_24 : decode cX3_packets 24 = .ok (.goto (-20), 3) := by decide +kernel
theorem dX3_packets_27 : decode cX3_packets 27 = .ok (.iload_n 1, 1) := by decide +kernel
theorem dX3_packets_28 : decode cX3_packets 28 = .ok (.ireturn, 1) := by decide +kernel
theorem dX3_framesBefore_0 : decode cX3_framesBefore 0 = .ok (.iconst 0, 1) := by decide +kernel
theorem dX3_framesBefore_1 : decode cX3_framesBefore 1 = .ok (.istore_n 2, 1) := by decide +kernel
theorem dX3_framesBefore_2 : decode cX3_framesBefore 2 = .ok (.iload_n 2, 1) := by decide +kernel
theorem dX3_framesBefore_3 : decode cX3_framesBefore 3 = .ok (.aload_n 0, 1) := by decide +kernel
theorem dX3_framesBefore_4 : decode cX3_framesBefore 4 = .ok (.getfield 18, 3) := by decide +kernel
theorem dX3_framesBefore_7 : decode cX3_framesBefore 7 = .ok (.if_icmp .ge 19, 3) := by decide +kernel
theorem dX3_framesBefore_10 : decode cX3_framesBefore 10 = .ok (.aload_n 0, 1) := by decide +kernel
theorem dX3_framesBefore_11 : decode cX3_framesBefore 11 = .ok (.getfield 15, 3) := by decide +kernel
theorem dX3_framesBefore_14 : decode cX3_framesBefore 14 = .ok (.iload_n 2, 1) := by decide +kernel
theorem dX3_framesBefore_15 : decode cX3_framesBefore 15 = .ok (.iaload, 1) := by decide +kernel
theorem dX3_framesBefore_16 : decode cX3_framesBefore 16 = .ok (.iload_n 1, 1) := by decide +kernel
theorem dX3_framesBefore_17 : decode cX3_framesBefore 17 = .ok (.if_icmp .ge 9, 3) := by decide +kernel
theorem dX3_framesBefore_20 : decode cX3_framesBefore 20 = .ok (.iinc 2 1, 3) := by decide +kernel
theorem dX3_framesBefore_23 : decode cX3_framesBefore 23 = .ok (.goto (-21), 3) := by decide +kernel
theorem dX3_framesBefore_26 : decode cX3_framesBefore 26 = .ok (.iload_n 2, 1) := by decide +kernel
theorem dX3_framesBefore_27 : decode cX3_framesBefore 27 = .ok (.ireturn, 1) := by decide +kernel
theorem dX3_copyFrom_0 : decode cX3_copyFrom 0 = .ok (.aload_n 1, 1) := by decide +kernel
theorem dX3_copyFrom_1 : decode cX3_copyFrom 1 = .ok (.getfield 9, 3) := by decide +kernel
theorem dX3_copyFrom_4 : decode cX3_copyFrom 4 = .ok (.iconst 0, 1) := by decide +kernel
theorem dX3_copyFrom_5 : decode cX3_copyFrom 5 = .ok (.aload_n 0, 1) := by decide +kernel
theorem dX3_copyFrom_6 : decode cX3_copyFrom 6 = .ok (.getfield 9, 3) := by decide +kernel
theorem dX3_copyFrom_9 : decode cX3_copyFrom 9 = .ok (.iconst 0, 1) := by decide +kernel
theorem dX3_copyFrom_10 : decode cX3_copyFrom 10 = .ok (.bipush 10, 2) := by decide +kernel
theorem dX3_copyFrom_12 : decode cX3_copyFrom 12 = .ok (.invokestatic 32, 3) := by decide +kernel
theorem dX3_copyFrom_15 : decode cX3_copyFrom 15 = .ok (.aload_n 1, 1) := by decide +kernel
theorem dX3_copyFrom_16 : decode cX3_copyFrom 16 = .ok (.getfield 15, 3) := by decide +kernel
theorem dX3_copyFrom_19 : decode cX3_copyFrom 19 = .ok (.iconst 0, 1) := by decide +kernel
theorem dX3_copyFrom_20 : decode cX3_copyFrom 20 = .ok (.aload_n 0, 1) := by decide +kernel
theorem dX3_copyFrom_21 : decode cX3_copyFrom 21 = .ok (.getfield 15, 3) := by decide +kernel
theorem dX3_copyFrom_24 : decode cX3_copyFrom 24 = .ok (.iconst 0, 1) := by decide +kernel
theorem dX3_copyFrom_25 : decode cX3_copyFrom 25 = .ok (.bipush 10, 2) := by decide +kernel
theorem dX3_copyFrom_27 : decode cX3_copyFrom 27 = .ok (.invokestatic 32, 3) := by decide +kernel
theorem dX3_copyFrom_30 : decode cX3_copyFrom 30 = .ok (.aload_n 0, 1) := by decide +kernel
theorem dX3_copyFrom_31 : decode cX3_copyFrom 31 = .ok (.aload_n 1, 1) := by decide +kernel
theorem dX3_copyFrom_32 : decode cX3_copyFrom 32 = .ok (.getfield 18, 3) := by decide +kernel
theorem dX3_copyFrom_35 : decode cX3_copyFrom 35 = .ok (.putfield 18, 3) := by decide +kernel
theorem dX3_copyFrom_38 : decode cX3_copyFrom 38 = .ok (.aload_n 0, 1) := by decide +kernel
theorem dX3_copyFrom_39 : decode cX3_copyFrom 39 = .ok (.aload_n 1, 1) := by decide +kernel
theorem dX3_copyFrom_40 : decode cX3_copyFrom 40 = .ok (.getfield 22, 3) := by decide +kernel
theorem dX3_copyFrom_43 : decode cX3_copyFrom 43 = .ok (.putfield 22, 3) := by decide +kernel
theorem dX3_copyFrom_46 : decode cX3_copyFrom 46 = .ok (.aload_n 0, 1) := by decide +kernel
theorem dX3_copyFrom_47 : decode cX3_copyFrom 47 = .ok (.aload_n 1, 1) := by decide +kernel
theorem dX3_copyFrom_48 : decode cX3_copyFrom 48 = .ok (.getfield 25, 3) := by decide +kernel
theorem dX3_copyFrom_51 : decode cX3_copyFrom 51 = .ok (.putfield 25, 3) := by decide +kernel
theorem dX3_copyFrom_54 : decode cX3_copyFrom 54 = .ok (.return_, 1) := by decide +kernel
theorem dX4_init_0 : decode cX4_init 0 = .ok (.aload_n 0, 1) := by decide +kernel
theorem dX4_init_1 : decode cX4_init 1 = .ok (.invokespecial 3, 3) := by decide +kernel
theorem dX4_init_4 : decode cX4_init 4 = .ok (.aload_n 0, 1) := by decide +kernel
theorem dX4_init_5 : decode cX4_init 5 = .ok (.sipush 400, 3) := by decide +kernel
theorem dX4_init_8 : decode cX4_init 8 = .ok (.newarray .int, 2) := by decide +kernel
theorem dX4_init_10 : decode cX4_init 10 = .ok (.putfield 9, 3) := by decide +kernel
theorem dX4_init_13 : decode cX4_init 13 = .ok (.aload_n 0, 1) := by decide +kernel
theorem dX4_init_14 : decode cX4_init 14 = .ok (.sipush 400, 3) := by decide +kernel
theorem dX4_init_17 : decode cX4_init 17 = .ok (.newarray .int, 2) := by decide +kernel
theorem dX4_init_19 : decode cX4_init 19 = .ok (.putfield 15, 3) := by decide +kernel
theorem dX4_init_22 : decode cX4_init 22 = .ok (.aload_n 0, 1) := by decide +kernel
theorem dX4_init_23 : decode cX4_init 23 = .ok (.sipush 400, 3) := by decide +kernel
theorem dX4_init_26 : decode cX4_init 26 = .ok (.newarray .int, 2) := by decide +kernel
theorem dX4_init_28 : decode cX4_init 28 = .ok (.putfield 18, 3) := by decide +kernel
theorem dX4_init_31 : decode cX4_init 31 = .ok (.aload_n 0, 1) := by decide +kernel
theorem dX4_init_32 : decode cX4_init 32 = .ok (.sipush 400, 3) := by decide +kernel
theorem dX4_init_35 : decode cX4_init 35 = .ok (.newarray .int, 2) := by decide +kernel
theorem dX4_init_37 : decode cX4_init 37 = .ok (.putfield 21, 3) := by decide +kernel
theorem dX4_init_40 : decode cX4_init 40 = .ok (.aload_n 0, 1) := by decide +kernel
theorem dX4_init_41 : decode cX4_init 41 = .ok (.iconst 4, 1) := by decide +kernel
theorem dX4_init_42 : decode cX4_init 42 = .ok (.anewarray 24, 3) := by decide +kernel
theorem dX4_init_45 : decode cX4_init 45 = .ok (.putfield 26, 3) := by decide +kernel
theorem dX4_init_48 : decode cX4_init 48 = .ok (.aload_n 0, 1) := by decide +kernel
theorem dX4_init_49 : decode cX4_init 49 = .ok (.iconst 4, 1) := by decide +kernel
theorem dX4_init_50 : decode cX4_init 50 = .ok (.newarray .int, 2) := by decide +kernel
theorem dX4_init_52 : decode cX4_init 52 = .ok (.putfield 30, 3) := by decide +kernel
theorem dX4_init_55 : decode cX4_init 55 = .ok (.aload_n 0, 1) := by decide +kernel
theorem dX4_init_56 : decode cX4_init 56 = .ok (.bipush (-6), 2) := by decide +kernel
theorem dX4_init_58 : decode cX4_init 58 = .ok (.putfield 33, 3) := by decide +kernel
theorem dX4_init_61 : decode cX4_init 61 = .ok (.aload_n 0, 1) := by decide +kernel
theorem dX4_init_62 : decode cX4_init 62 = .ok (.iconst 0, 1) := by decide +kernel
theorem dX4_init_63 : decode cX4_init 63 = .ok (.putfield 37, 3) := by decide +kernel
theorem dX4_init_66 : decode cX4_init 66 = .ok (.aload_n 0, 1) := by decide +kernel
theorem dX4_init_67 : decode cX4_init 67 = .ok (.iconst 0, 1) := by decide +kernel
theorem dX4_init_68 : decode cX4_init 68 = .ok (.putfield 40, 3) := by decide +kernel
theorem dX4_init_71 : decode cX4_init 71 = .ok (.aload_n 0, 1) := by decide +kernel
theorem dX4_init_72 : decode cX4_init 72 = .ok (.iconst 0, 1) := by decide +kernel
theorem dX4_init_73 : decode cX4_init 73 = .ok (.putfield 43, 3) := by decide +kernel
theorem dX4_init_76 : decode cX4_init 76 = .ok (.aload_n 0, 1) := by decide +kernel
theorem dX4_init_77 : decode cX4_init 77 = .ok (.bipush (-6), 2) := by decide +kernel
theorem dX4_init_79 : decode cX4_init 79 = .ok (.putfield 46, 3) := by decide +kernel
theorem dX4_init_82 : decode cX4_init 82 = .ok (.iconst 0, 1) := by decide +kernel
theorem dX4_init_83 : decode cX4_init 83 = .ok (.istore_n 1, 1) := by decide +kernel
theorem dX4_init_84 : decode cX4_init 84 = .ok (.iload_n 1, 1) := by decide +kernel
theorem dX4_init_85 : decode cX4_init 85 = .ok (.iconst 4, 1) := by decide +kernel
theorem dX4_init_86 : decode cX4_init 86 = .ok (.if_icmp .ge 22, 3) := by decide +kernel
theorem dX4_init_89 : decode cX4_init 89 = .ok (.aload_n 0, 1) := by decide +kernel
theorem dX4_init_90 : decode cX4_init 90 = .ok (.getfield 26, 3) := by decide +kernel
theorem dX4_init_93 : decode cX4_init 93 = .ok (.iload_n 1, 1) := by decide +kernel
theorem dX4_init_94 : decode cX4_init 94 = .ok (.new 24, 3) := by decide +kernel
theorem dX4_init_97 : decode cX4_init 97 = .ok (.dup, 1) := by decide +kernel
theorem dX4_init_98 : decode cX4_init 98 = .ok (.invokespecial 49, 3) := by decide +kernel
theorem dX4_init_101 : decode cX4_init 101 = .ok (.aastore, 1) := by decide +kernel
theorem dX4_init_102 : decode cX4_init 102 = .ok (.iinc 1 1, 3) := by decide +kernel
theorem dX4_init_105 : decode cX4_init 105 = .ok (.goto (-21), 3) := by decide +kernel
theorem dX4_init_108 : decode cX4_init 108 = .ok (.return_, 1) := by decide +kernel
theorem dX4_slot_0 : decode cX4_slot 0 = .ok (.iload_n 0, 1) := by decide +kernel
theorem dX4_slot_1 : decode cX4_slot 1 = .ok (.iconst 4, 1) := by decide +kernel
theorem dX4_slot_2 : decode cX4_slot 2 = .ok (.imul, 1) := by decide +kernel
theorem dX4_slot_3 : decode cX4_slot 3 = .ok (.iload_n 1, 1) := by decide +kernel
theorem dX4_slot_4 : decode cX4_slot 4 = .ok (.iadd, 1) := by decide +kernel
theorem dX4_slot_5 : decode cX4_slot 5 = .ok (.ireturn, 1) := by decide +kernel
theorem dX4_sentOfKind_0 : decode cX4_sentOfKind 0 = .ok (.iload_n 1, 1) := by decide +kernel
theorem dX4_sentOfKind_1 : decode cX4_sentOfKind 1 = .ok (.iconst 0, 1) := by decide +kernel
theorem dX4_sentOfKind_2 : decode cX4_sentOfKind 2 = .ok (.iconst 3, 1) := by decide +kernel
theorem dX4_sentOfKind_3 : decode cX4_sentOfKind 3 = .ok (.invokestatic 50, 3) := by decide +kernel
theorem dX4_sentOfKind_6 : decode cX4_sentOfKind 6 = .ok (.ifCond .eq 12, 3) := by decide +kernel
theorem dX4_sentOfKind_9 : decode cX4_sentOfKind 9 = .ok (.aload_n 0, 1) := by decide +kernel
theorem dX4_sentOfKind_10 : decode cX4_sentOfKind 10 = .ok (.getfield 30, 3) := by decide +kernel
theorem dX4_sentOfKind_13 : decode cX4_sentOfKind 13 = .ok (.iload_n 1, 1) := by decide +kernel
theorem dX4_sentOfKind_14 : decode cX4_sentOfKind 14 = .ok (.iaload, 1) := by decide +kernel
theorem dX4_sentOfKind_15 : decode cX4_sentOfKind 15 = .ok (.goto 4, 3) := by decide +kernel
theorem dX4_sentOfKind_18 : decode cX4_sentOfKind 18 = .ok (.iconst 0, 1) := by decide +kernel
theorem dX4_sentOfKind_19 : decode cX4_sentOfKind 19 = .ok (.ireturn, 1) := by decide +kernel
theorem dX4_weaveWhole_0 : decode cX4_weaveWhole 0 = .ok (.aload_n 0, 1) := by decide +kernel
theorem dX4_weaveWhole_1 : decode cX4_weaveWhole 1 = .ok (.invokevirtual 54, 3) := by decide +kernel
theorem dX4_weaveWhole_4 : decode cX4_weaveWhole 4 = .ok (.iconst 0, 1) := by decide +kernel
theorem dX4_weaveWhole_5 : decode cX4_weaveWhole 5 = .ok (.istore_n 2, 1) := by decide +kernel
theorem dX4_weaveWhole_6 : decode cX4_weaveWhole 6 = .ok (.iload_n 2, 1) := by decide +kernel
theorem dX4_weaveWhole_7 : decode cX4_weaveWhole 7 = .ok (.bipush 100, 2) := by decide +kernel
theorem dX4_weaveWhole_9 : decode cX4_weaveWhole 9 = .ok (.if_icmp .ge 15, 3) := by decide +kernel
theorem dX4_weaveWhole_12 : decode cX4_weaveWhole 12 = .ok (.aload_n 0, 1) := by decide +kernel
theorem dX4_weaveWhole_13 : decode cX4_weaveWhole 13 = .ok (.aload_n 1, 1) := by decide +kernel
theorem dX4_weaveWhole_14 : decode cX4_weaveWhole 14 = .ok (.iload_n 2, 1) := by decide +kernel
theorem dX4_weaveWhole_15 : decode cX4_weaveWhole 15 = .ok (.invokevirtual 57, 3) := by decide +kernel
theorem dX4_weaveWhole_18 : decode cX4_weaveWhole 18 = .ok (.iinc 2 1, 3) := by decide +kernel
theorem dX4_weaveWhole_21 : decode cX4_weaveWhole 21 = .ok (.goto (-15), 3) := by decide +kernel
theorem dX4_weaveWhole_24 : decode cX4_weaveWhole 24 = .ok (.return_, 1) := by decide +kernel
theorem dX4_showsAll_0 : decode cX4_showsAll 0 = .ok (.aload_n 0, 1) := by decide +kernel
theorem dX4_showsAll_1 : decode cX4_showsAll 1 = .ok (.invokevirtual 54, 3) := by decide +kernel
theorem dX4_showsAll_4 : decode cX4_showsAll 4 = .ok (.iconst 0, 1) := by decide +kernel
theorem dX4_showsAll_5 : decode cX4_showsAll 5 = .ok (.istore_n 2, 1) := by decide +kernel
theorem dX4_showsAll_6 : decode cX4_showsAll 6 = .ok (.iload_n 2, 1) := by decide +kernel
theorem dX4_showsAll_7 : decode cX4_showsAll 7 = .ok (.bipush 100, 2) := by decide +kernel
theorem dX4_showsAll_9 : decode cX4_showsAll 9 = .ok (.if_icmp .ge 22, 3) := by decide +kernel
theorem dX4_showsAll_12 : decode cX4_showsAll 12 = .ok (.aload_n 0, 1) := by decide +kernel
theorem dX4_showsAll_13 : decode cX4_showsAll 13 = .ok (.getfield 40, 3) := by decide +kernel
theorem dX4_showsAll_16 : decode cX4_showsAll 16 = .ok (.ifCond .ne 15, 3) := by decide +kernel
theorem dX4_showsAll_19 : decode cX4_showsAll 19 = .ok (.aload_n 0, 1) := by decide +kernel
theorem dX4_showsAll_20 : decode cX4_showsAll 20 = .ok (.aload_n 1, 1) := by decide +kernel
theorem dX4_showsAll_21 : decode cX4_showsAll 21 = .ok (.iload_n 2, 1) := by decide +kernel
theorem dX4_showsAll_22 : decode cX4_showsAll 22 = .ok (.invokevirtual 57, 3) := by decide +kernel
theorem dX4_showsAll_25 : decode cX4_showsAll 25 = .ok (.iinc 2 1, 3) := by decide +kernel
theorem dX4_showsAll_28 : decode cX4_showsAll 28 = .ok (.goto (-22), 3) := by decide +kernel
theorem dX4_showsAll_31 : decode cX4_showsAll 31 = .ok (.aload_n 0, 1) := by decide +kernel
theorem dX4_showsAll_32 : decode cX4_showsAll 32 = .ok (.getfield 40, 3) := by decide +kernel
theorem dX4_showsAll_35 : decode cX4_showsAll 35 = .ok (.ifCond .ne 7, 3) := by decide +kernel
theorem dX4_showsAll_38 : decode cX4_showsAll 38 = .ok (.iconst 1, 1) := by decide +kernel
theorem dX4_showsAll_39 : decode cX4_showsAll 39 = .ok (.goto 4, 3) := by decide +kernel
theorem dX4_showsAll_42 : decode cX4_showsAll 42 = .ok (.iconst 0, 1) := by decide +kernel
theorem dX4_showsAll_43 : decode cX4_showsAll 43 = .ok (.ireturn, 1) := by decide +kernel
theorem dX4_begin_0 : decode cX4_begin 0 = .ok (.iconst 0, 1) := by decide +kernel
theorem dX4_begin_1 : decode cX4_begin 1 = .ok (.istore_n 1, 1) := by decide +kernel
theorem dX4_begin_2 : decode cX4_begin 2 = .ok (.iload_n 1, 1) := by decide +kernel
theorem dX4_begin_3 : decode cX4_begin 3 = .ok (.iconst 4, 1) := by decide +kernel
theorem dX4_begin_4 : decode cX4_begin 4 = .ok (.if_icmp .ge 18, 3) := by decide +kernel
theorem dX4_begin_7 : decode cX4_begin 7 = .ok (.aload_n 0, 1) := by decide +kernel
theorem dX4_begin_8 : decode cX4_begin 8 = .ok (.getfield 26, 3) := by decide +kernel
theorem dX4_begin_11 : decode cX4_begin 11 = .ok (.iload_n 1, 1) := by decide +kernel
theorem dX4_begin_12 : decode cX4_begin 12 = .ok (.aaload, 1) := by decide +kernel
theorem dX4_begin_13 : decode cX4_begin 13 = .ok (.invokevirtual 61, 3) := by decide +kernel
theorem dX4_begin_16 : decode cX4_begin 16 = .ok (.iinc 1 1, 3) := by decide +kernel
theorem dX4_begin_19 : decode cX4_begin 19 = .ok (.goto (-17), 3) := by decide +kernel
theorem dX4_begin_22 : decode cX4_begin 22 = .ok (.aload_n 0, 1) := by decide +kernel
theorem dX4_begin_23 : decode cX4_begin 23 = .ok (.getfield 30, 3) := by decide +kernel
theorem dX4_begin_26 : decode cX4_begin 26 = .ok (.iconst 0, 1) := by decide +kernel
theorem dX4_begin_27 : decode cX4_begin 27 = .ok (.invokestatic 62, 3) := by decide +kernel
theorem dX4_begin_30 : decode cX4_begin 30 = .ok (.aload_n 0, 1) := by decide +kernel
theorem dX4_begin_31 : decode cX4_begin 31 = .ok (.bipush (-6), 2) := by decide +kernel
theorem dX4_begin_33 : decode cX4_begin 33 = .ok (.putfield 33, 3) := by decide +kernel
theorem dX4_begin_36 : decode cX4_begin 36 = .ok (.aload_n 0, 1) := by decide +kernel
theorem dX4_begin_37 : decode cX4_begin 37 = .ok (.iconst 0, 1) := by decide +kernel
theorem dX4_begin_38 : decode cX4_begin 38 = .ok (.putfield 37, 3) := by decide +kernel
theorem dX4_begin_41 : decode cX4_begin 41 = .ok (.aload_n 0, 1) := by decide +kernel
theorem dX4_begin_42 : decode cX4_begin 42 = .ok (.iconst 0, 1) := by decide +kernel
theorem dX4_begin_43 : decode cX4_begin 43 = .ok (.putfield 40, 3) := by decide +kernel
theorem dX4_begin_46 : decode cX4_begin 46 = .ok (.aload_n 0, 1) := by decide +kernel
theorem dX4_begin_47 : decode cX4_begin 47 = .ok (.iconst 0, 1) := by decide +kernel
theorem dX4_begin_48 : decode cX4_begin 48 = .ok (.putfield 43, 3) := by decide +kernel
theorem dX4_begin_51 : decode cX4_begin 51 = .ok (.aload_n 0, 1) := by decide +kernel
theorem dX4_begin_52 : decode cX4_begin 52 = .ok (.bipush (-6), 2) := by decide +kernel
theorem dX4_begin_54 : decode cX4_begin 54 = .ok (.putfield 46, 3) := by decide +kernel
theorem dX4_begin_57 : decode cX4_begin 57 = .ok (.return_, 1) := by decide +kernel
theorem dX4_weaveTick_0 : decode cX4_weaveTick 0 = .ok (.iconst 0, 1) := by decide +kernel
theorem dX4_weaveTick_1 : decode cX4_weaveTick 1 = .ok (.istore_n 3, 1) := by decide +kernel
theorem dX4_weaveTick_2 : decode cX4_weaveTick 2 = .ok (.iload_n 3, 1) := by decide +kernel
theorem dX4_weaveTick_3 : decode cX4_weaveTick 3 = .ok (.iconst 4, 1) := by decide +kernel
theorem dX4_weaveTick_4 : decode cX4_weaveTick 4 = .ok (.if_icmp .ge 26, 3) := by decide +kernel
theorem dX4_weaveTick_7 : decode cX4_weaveTick 7 = .ok (.aload_n 0, 1) := by decide +kernel
theorem dX4_weaveTick_8 : decode cX4_weaveTick 8 = .ok (.aload_n 1, 1) := by decide +kernel
theorem dX4_weaveTick_9 : decode cX4_weaveTick 9 = .ok (.getfield 68, 3) := by decide +kernel
theorem dX4_weaveTick_12 : decode cX4_weaveTick 12 = .ok (.iload_n 3, 1) := by decide +kernel
theorem dX4_weaveTick_13 : decode cX4_weaveTick 13 = .ok (.aaload, 1) := by decide +kernel
theorem dX4_weaveTick_14 : decode cX4_weaveTick 14 = .ok (.aload_n 0, 1) := by decide +kernel
theorem dX4_weaveTick_15 : decode cX4_weaveTick 15 = .ok (.getfield 26, 3) := by decide +kernel
theorem dX4_weaveTick_18 : decode cX4_weaveTick 18 = .ok (.iload_n 3, 1) := by decide +kernel
theorem dX4_weaveTick_19 : decode cX4_weaveTick 19 = .ok (.aaload, 1) := by decide +kernel
theorem dX4_weaveTick_20 : decode cX4_weaveTick 20 = .ok (.iload_n 2, 1) := by decide +kernel
theorem dX4_weaveTick_21 : decode cX4_weaveTick 21 = .ok (.invokevirtual 74, 3) := by decide +kernel
theorem dX4_weaveTick_24 : decode cX4_weaveTick 24 = .ok (.iinc 3 1, 3) := by decide +kernel
theorem dX4_weaveTick_27 : decode cX4_weaveTick 27 = .ok (.goto (-25), 3) := by decide +kernel
theorem dX4_weaveTick_30 : decode cX4_weaveTick 30 = .ok (.iconst 0, 1) := by decide +kernel
theorem dX4_weaveTick_31 : decode cX4_weaveTick 31 = .ok (.istore_n 3, 1) := by decide +kernel
theorem dX4_weaveTick_32 : decode cX4_weaveTick 32 = .ok (.iload_n 3, 1) := by decide +kernel
theorem dX4_weaveTick_33 : decode cX4_weaveTick 33 = .ok (.aload_n 1, 1) := by decide +kernel
theorem dX4_weaveTick_34 : decode cX4_weaveTick 34 = .ok (.getfield 78, 3) := by decide +kernel
theorem dX4_weaveTick_37 : decode cX4_weaveTick 37 = .ok (.if_icmp .ge 20, 3) := by decide +kernel
theorem dX4_weaveTick_40 : decode cX4_weaveTick 40 = .ok (.aload_n 0, 1) := by decide +kernel
theorem dX4_weaveTick_41 : decode cX4_weaveTick 41 = .ok (.aload_n 1, 1) := by decide +kernel
theorem dX4_weaveTick_42 : decode cX4_weaveTick 42 = .ok (.iload_n 2, 1) := by decide +kernel
theorem dX4_weaveTick_43 : decode cX4_weaveTick 43 = .ok (.iload_n 2, 1) := by decide +kernel
theorem dX4_weaveTick_44 : decode cX4_weaveTick 44 = .ok (.iload_n 3, 1) := by decide +kernel
theorem dX4_weaveTick_45 : decode cX4_weaveTick 45 = .ok (.invokestatic 81, 3) := by decide +kernel
theorem dX4_weaveTick_48 : decode cX4_weaveTick 48 = .ok (.invokevirtual 85, 3) := by decide +kernel
theorem dX4_weaveTick_51 : decode cX4_weaveTick 51 = .ok (.iinc 3 1, 3) := by decide +kernel
theorem dX4_weaveTick_54 : decode cX4_weaveTick 54 = .ok (.goto (-22), 3) := by decide +kernel
theorem dX4_weaveTick_57 : decode cX4_weaveTick 57 = .ok (.iconst 0, 1) := by decide +kernel
theorem dX4_weaveTick_58 : decode cX4_weaveTick 58 = .ok (.istore_n 3, 1) := by decide +kernel
theorem dX4_weaveTick_59 : decode cX4_weaveTick 59 = .ok (.iload_n 3, 1) := by decide +kernel
theorem dX4_weaveTick_60 : decode cX4_weaveTick 60 = .ok (.iconst 4, 1) := by decide +kernel
theorem dX4_weaveTick_61 : decode cX4_weaveTick 61 = .ok (.if_icmp .ge 29, 3) := by decide +kernel
theorem dX4_weaveTick_64 : decode cX4_weaveTick 64 = .ok (.aload_n 0, 1) := by decide +kernel
theorem dX4_weaveTick_65 : decode cX4_weaveTick 65 = .ok (.getfield 26, 3) := by decide +kernel
theorem dX4_weaveTick_68 : decode cX4_weaveTick 68 = .ok (.iload_n 3, 1) := by decide +kernel
theorem dX4_weaveTick_69 : decode cX4_weaveTick 69 = .ok (.aaload, 1) := by decide +kernel
theorem dX4_weaveTick_70 : decode cX4_weaveTick 70 = .ok (.getfield 89, 3) := by decide +kernel
theorem dX4_weaveTick_73 : decode cX4_weaveTick 73 = .ok (.iload_n 2, 1) := by decide +kernel
theorem dX4_weaveTick_74 : decode cX4_weaveTick 74 = .ok (.aload_n 0, 1) := by decide +kernel
theorem dX4_weaveTick_75 : decode cX4_weaveTick 75 = .ok (.getfield 26, 3) := by decide +kernel
theorem dX4_weaveTick_78 : decode cX4_weaveTick 78 = .ok (.iload_n 3, 1) := by decide +kernel
theorem dX4_weaveTick_79 : decode cX4_weaveTick 79 = .ok (.aaload, 1) := by decide +kernel
theorem dX4_weaveTick_80 : decode cX4_weaveTick 80 = .ok (.getfield 92, 3) := by decide +kernel
theorem dX4_weaveTick_83 : decode cX4_weaveTick 83 = .ok (.iastore, 1) := by decide +kernel
theorem dX4_weaveTick_84 : decode cX4_weaveTick 84 = .ok (.iinc 3 1, 3) := by decide +kernel
theorem dX4_weaveTick_87 : decode cX4_weaveTick 87 = .ok (.goto (-28), 3) := by decide +kernel
theorem dX4_weaveTick_90 : decode cX4_weaveTick 90 = .ok (.return_, 1) := by decide +kernel
theorem dX4_showDue_0 : decode cX4_showDue 0 = .ok (.aload_n 2, 1) := by decide +kernel
theorem dX4_showDue_1 : decode cX4_showDue 1 = .ok (.aload_n 1, 1) := by decide +kernel
theorem dX4_showDue_2 : decode cX4_showDue 2 = .ok (.iload_n 3, 1) := by decide +kernel
theorem dX4_showDue_3 : decode cX4_showDue 3 = .ok (.invokevirtual 95, 3) := by decide +kernel
theorem dX4_showDue_6 : decode cX4_showDue 6 = .ok (.istore 4, 2) := by decide +kernel
theorem dX4_showDue_8 : decode cX4_showDue 8 = .ok (.iload 4, 2) := by decide +kernel
theorem dX4_showDue_10 : decode cX4_showDue 10 = .ok (.bipush (-6), 2) := by decide +kernel
theorem dX4_showDue_12 : decode cX4_showDue 12 = .ok (.if_icmp .ne 4, 3) := by decide +kernel
theorem dX4_showDue_15 : decode cX4_showDue 15 = .ok (.return_, 1) := by decide +kernel
theorem dX4_showDue_16 : decode cX4_showDue 16 = .ok (.aload_n 1, 1) := by decide +kernel
theorem dX4_showDue_17 : decode cX4_showDue 17 = .ok (.getfield 99, 3) := by decide +kernel
theorem dX4_showDue_20 : decode cX4_showDue 20 = .ok (.iload 4, 2) := by decide +kernel
theorem dX4_showDue_22 : decode cX4_showDue 22 = .ok (.iaload, 1) := by decide +kernel
theorem dX4_showDue_23 : decode cX4_showDue 23 = .ok (.aload_n 2, 1) := by decide +kernel
theorem dX4_showDue_24 : decode cX4_showDue 24 = .ok (.getfield 104, 3) := by decide +kernel
theorem dX4_showDue_27 : decode cX4_showDue 27 = .ok (.iload 4, 2) := by decide +kernel
theorem dX4_showDue_29 : decode cX4_showDue 29 = .ok (.iaload, 1) := by decide +kernel
theorem dX4_showDue_30 : decode cX4_showDue 30 = .ok (.isub, 1) := by decide +kernel
theorem dX4_showDue_31 : decode cX4_showDue 31 = .ok (.istore 5, 2) := by decide +kernel
theorem dX4_showDue_33 : decode cX4_showDue 33 = .ok (.iload 5, 2) := by decide +kernel
theorem dX4_showDue_35 : decode cX4_showDue 35 = .ok (.ifCond .ne 14, 3) := by decide +kernel
theorem dX4_showDue_38 : decode cX4_showDue 38 = .ok (.aload_n 0, 1) := by decide +kernel
theorem dX4_showDue_39 : decode cX4_showDue 39 = .ok (.dup, 1) := by decide +kernel
theorem dX4_showDue_40 : decode cX4_showDue 40 = .ok (.getfield 37, 3) := by decide +kernel
theorem dX4_showDue_43 : decode cX4_showDue 43 = .ok (.iconst 1, 1) := by decide +kernel
theorem dX4_showDue_44 : decode cX4_showDue 44 = .ok (.iadd, 1) := by decide +kernel
theorem dX4_showDue_45 : decode cX4_showDue 45 = .ok (.putfield 37, 3) := by decide +kernel
theorem dX4_showDue_48 : decode cX4_showDue 48 = .ok (.return_, 1) := by decide +kernel
theorem dX4_showDue_49 : decode cX4_showDue 49 = .ok (.aload_n 0, 1) := by decide +kernel
theorem dX4_showDue_50 : decode cX4_showDue 50 = .ok (.dup, 1) := by decide +kernel
theorem dX4_showDue_51 : decode cX4_showDue 51 = .ok (.getfield 40, 3) := by decide +kernel
theorem dX4_showDue_54 : decode cX4_showDue 54 = .ok (.iconst 1, 1) := by decide +kernel
theorem dX4_showDue_55 : decode cX4_showDue 55 = .ok (.iadd, 1) := by decide +kernel
theorem dX4_showDue_56 : decode cX4_showDue 56 = .ok (.putfield 40, 3) := by decide +kernel
theorem dX4_showDue_59 : decode cX4_showDue 59 = .ok (.aload_n 0, 1) := by decide +kernel
theorem dX4_showDue_60 : decode cX4_showDue 60 = .ok (.dup, 1) := by decide +kernel
theorem dX4_showDue_61 : decode cX4_showDue 61 = .ok (.getfield 43, 3) := by decide +kernel
theorem dX4_showDue_64 : decode cX4_showDue 64 = .ok (.iload 5, 2) := by decide +kernel
theorem dX4_showDue_66 : decode cX4_showDue 66 = .ok (.iadd, 1) := by decide +kernel
theorem dX4_showDue_67 : decode cX4_showDue 67 = .ok (.putfield 43, 3) := by decide +kernel
theorem dX4_showDue_70 : decode cX4_showDue 70 = .ok (.aload_n 0, 1) := by decide +kernel
theorem dX4_showDue_71 : decode cX4_showDue 71 = .ok (.getfield 46, 3) := by decide +kernel
theorem dX4_showDue_74 : decode cX4_showDue 74 = .ok (.bipush (-6), 2) := by decide +kernel
theorem dX4_showDue_76 : decode cX4_showDue 76 = .ok (.if_icmp .ne 8, 3) := by decide +kernel
theorem dX4_showDue_79 : decode cX4_showDue 79 = .ok (.aload_n 0, 1) := by decide +kernel
theorem dX4_showDue_80 : decode cX4_showDue 80 = .ok (.iload_n 3, 1) := by decide +kernel
theorem dX4_showDue_81 : decode cX4_showDue 81 = .ok (.putfield 46, 3) := by decide +kernel
theorem dX4_showDue_84 : decode cX4_showDue 84 = .ok (.return_, 1) := by decide +kernel
theorem dX4_sendOne_0 : decode cX4_sendOne 0 = .ok (.aload_n 1, 1) := by decide +kernel
theorem dX4_sendOne_1 : decode cX4_sendOne 1 = .ok (.getfield 107, 3) := by decide +kernel
theorem dX4_sendOne_4 : decode cX4_sendOne 4 = .ok (.aload_n 0, 1) := by decide +kernel
theorem dX4_sendOne_5 : decode cX4_sendOne 5 = .ok (.getfield 33, 3) := by decide +kernel
theorem dX4_sendOne_8 : decode cX4_sendOne 8 = .ok (.iload_n 2, 1) := by decide +kernel
theorem dX4_sendOne_9 : decode cX4_sendOne 9 = .ok (.invokestatic 110, 3) := by decide +kernel
theorem dX4_sendOne_12 : decode cX4_sendOne 12 = .ok (.ifCond .eq 10, 3) := by decide +kernel
theorem dX4_sendOne_15 : decode cX4_sendOne 15 = .ok (.aload_n 0, 1) := by decide +kernel
theorem dX4_sendOne_16 : decode cX4_sendOne 16 = .ok (.iload_n 2, 1) := by decide +kernel
theorem dX4_sendOne_17 : decode cX4_sendOne 17 = .ok (.iload_n 3, 1) := by decide +kernel
theorem dX4_sendOne_18 : decode cX4_sendOne 18 = .ok (.invokevirtual 113, 3) := by decide +kernel
theorem dX4_sendOne_21 : decode cX4_sendOne 21 = .ok (.return_, 1) := by decide +kernel
theorem dX4_sendOne_22 : decode cX4_sendOne 22 = .ok (.aload_n 0, 1) := by decide +kernel
theorem dX4_sendOne_23 : decode cX4_sendOne 23 = .ok (.aload_n 1, 1) := by decide +kernel
theorem dX4_sendOne_24 : decode cX4_sendOne 24 = .ok (.iload_n 2, 1) := by decide +kernel
theorem dX4_sendOne_25 : decode cX4_sendOne 25 = .ok (.invokevirtual 117, 3) := by decide +kernel
theorem dX4_sendOne_28 : decode cX4_sendOne 28 = .ok (.istore 4, 2) := by decide +kernel
theorem dX4_sendOne_30 : decode cX4_sendOne 30 = .ok (.iload 4, 2) := by decide +kernel
theorem dX4_sendOne_32 : decode cX4_sendOne 32 = .ok (.bipush (-6), 2) := by decide +kernel
theorem dX4_sendOne_34 : decode cX4_sendOne 34 = .ok (.if_icmp .eq 35, 3) := by decide +kernel
theorem dX4_sendOne_37 : decode cX4_sendOne 37 = .ok (.aload_n 0, 1) := by decide +kernel
theorem dX4_sendOne_38 : decode cX4_sendOne 38 = .ok (.getfield 26, 3) := by decide +kernel
theorem dX4_sendOne_41 : decode cX4_sendOne 41 = .ok (.iload 4, 2) := by decide +kernel
theorem dX4_sendOne_43 : decode cX4_sendOne 43 = .ok (.aaload, 1) := by decide +kernel
theorem dX4_sendOne_44 : decode cX4_sendOne 44 = .ok (.iload_n 2, 1) := by decide +kernel
theorem dX4_sendOne_45 : decode cX4_sendOne 45 = .ok (.putfield 121, 3) := by decide +kernel
theorem dX4_sendOne_48 : decode cX4_sendOne 48 = .ok (.aload_n 0, 1) := by decide +kernel
theorem dX4_sendOne_49 : decode cX4_sendOne 49 = .ok (.iload_n 3, 1) := by decide +kernel
theorem dX4_sendOne_50 : decode cX4_sendOne 50 = .ok (.iconst 2, 1) := by decide +kernel
theorem dX4_sendOne_51 : decode cX4_sendOne 51 = .ok (.iload 4, 2) := by decide +kernel
theorem dX4_sendOne_53 : decode cX4_sendOne 53 = .ok (.bipush (-6), 2) := by decide +kernel
theorem dX4_sendOne_55 : decode cX4_sendOne 55 = .ok (.aload_n 0, 1) := by decide +kernel
theorem dX4_sendOne_56 : decode cX4_sendOne 56 = .ok (.getfield 26, 3) := by decide +kernel
theorem dX4_sendOne_59 : decode cX4_sendOne 59 = .ok (.iload 4, 2) := by decide +kernel
theorem dX4_sendOne_61 : decode cX4_sendOne 61 = .ok (.aaload, 1) := by decide +kernel
theorem dX4_sendOne_62 : decode cX4_sendOne 62 = .ok (.invokevirtual 124, 3) := by decide +kernel
theorem dX4_sendOne_65 : decode cX4_sendOne 65 = .ok (.invokevirtual 128, 3) := by decide +kernel
theorem dX4_sendOne_68 : decode cX4_sendOne 68 = .ok (.return_, 1) := by decide +kernel
theorem dX4_sendOne_69 : decode cX4_sendOne 69 = .ok (.aload_n 0, 1) := by decide +kernel
theorem dX4_sendOne_70 : decode cX4_sendOne 70 = .ok (.aload_n 1, 1) := by decide +kernel
theorem dX4_sendOne_71 : decode cX4_sendOne 71 = .ok (.iload_n 2, 1) := by decide +kernel
theorem dX4_sendOne_72 : decode cX4_sendOne 72 = .ok (.invokevirtual 132, 3) := by decide +kernel
theorem dX4_sendOne_75 : decode cX4_sendOne 75 = .ok (.istore 4, 2) := by decide +kernel
theorem dX4_sendOne_77 : decode cX4_sendOne 77 = .ok (.iload 4, 2) := by decide +kernel
theorem dX4_sendOne_79 : decode cX4_sendOne 79 = .ok (.bipush (-6), 2) := by decide +kernel
theorem dX4_sendOne_81 : decode cX4_sendOne 81 = .ok (.if_icmp .eq 49, 3) := by decide +kernel
theorem dX4_sendOne_84 : decode cX4_sendOne 84 = .ok (.aload_n 0, 1) := by decide +kernel
theorem dX4_sendOne_85 : decode cX4_sendOne 85 = .ok (.getfield 26, 3) := by decide +kernel
theorem dX4_sendOne_88 : decode cX4_sendOne 88 = .ok (.iload 4, 2) := by decide +kernel
theorem dX4_sendOne_90 : decode cX4_sendOne 90 = .ok (.aaload, 1) := by decide +kernel
theorem dX4_sendOne_91 : decode cX4_sendOne 91 = .ok (.getfield 135, 3) := by decide +kernel
theorem dX4_sendOne_94 : decode cX4_sendOne 94 = .ok (.istore 5, 2) := by decide +kernel
theorem dX4_sendOne_96 : decode cX4_sendOne 96 = .ok (.aload_n 0, 1) := by decide +kernel
theorem dX4_sendOne_97 : decode cX4_sendOne 97 = .ok (.getfield 26, 3) := by decide +kernel
theorem dX4_sendOne_100 : decode cX4_sendOne 100 = .ok (.iload 4, 2) := by decide +kernel
theorem dX4_sendOne_102 : decode cX4_sendOne 102 = .ok (.aaload, 1) := by decide +kernel
theorem dX4_sendOne_103 : decode cX4_sendOne 103 = .ok (.iload 5, 2) := by decide +kernel
theorem dX4_sendOne_105 : decode cX4_sendOne 105 = .ok (.iload_n 2, 1) := by decide +kernel
theorem dX4_sendOne_106 : decode cX4_sendOne 106 = .ok (.invokevirtual 138, 3) := by decide +kernel
theorem dX4_sendOne_109 : decode cX4_sendOne 109 = .ok (.aload_n 0, 1) := by decide +kernel
theorem dX4_sendOne_110 : decode cX4_sendOne 110 = .ok (.iload_n 3, 1) := by decide +kernel
theorem dX4_sendOne_111 : decode cX4_sendOne 111 = .ok (.iconst 3, 1) := by decide +kernel
theorem dX4_sendOne_112 : decode cX4_sendOne 112 = .ok (.iload 4, 2) := by decide +kernel
theorem dX4_sendOne_114 : decode cX4_sendOne 114 = .ok (.iload 5, 2) := by decide +kernel
theorem dX4_sendOne_116 : decode cX4_sendOne 116 = .ok (.aload_n 0, 1) := by decide +kernel
theorem dX4_sendOne_117 : decode cX4_sendOne 117 = .ok (.getfield 26, 3) := by decide +kernel
theorem dX4_sendOne_120 : decode cX4_sendOne 120 = .ok (.iload 4, 2) := by decide +kernel
theorem dX4_sendOne_122 : decode cX4_sendOne 122 = .ok (.aaload, 1) := by decide +kernel
theorem dX4_sendOne_123 : decode cX4_sendOne 123 = .ok (.invokevirtual 124, 3) := by decide +kernel
theorem dX4_sendOne_126 : decode cX4_sendOne 126 = .ok (.invokevirtual 128, 3) := by decide +kernel
theorem dX4_sendOne_129 : decode cX4_sendOne 129 = .ok (.return_, 1) := by decide +kernel
theorem dX4_sendOne_130 : decode cX4_sendOne 130 = .ok (.aload_n 0, 1) := by decide +kernel
theorem dX4_sendOne_131 : decode cX4_sendOne 131 = .ok (.iload_n 3, 1) := by decide +kernel
theorem dX4_sendOne_132 : decode cX4_sendOne 132 = .ok (.iconst 0, 1) := by decide +kernel
theorem dX4_sendOne_133 : decode cX4_sendOne 133 = .ok (.bipush (-6), 2) := by decide +kernel
theorem dX4_sendOne_135 : decode cX4_sendOne 135 = .ok (.bipush (-6), 2) := by decide +kernel
theorem dX4_sendOne_137 : decode cX4_sendOne 137 = .ok (.iconst 0, 1) := by decide +kernel
theorem dX4_sendOne_138 : decode cX4_sendOne 138 = .ok (.invokevirtual 128, 3) := by decide +kernel
theorem dX4_sendOne_141 : decode cX4_sendOne 141 = .ok (.return_, 1) := by decide +kernel
theorem dX4_sendTable_0 : decode cX4_sendTable 0 = .ok (.aload_n 0, 1) := by decide +kernel
theorem dX4_sendTable_1 : decode cX4_sendTable 1 = .ok (.iload_n 1, 1) := by decide +kernel
theorem dX4_sendTable_2 : decode cX4_sendTable 2 = .ok (.putfield 33, 3) := by decide +kernel
theorem dX4_sendTable_5 : decode cX4_sendTable 5 = .ok (.aload_n 0, 1) := by decide +kernel
theorem dX4_sendTable_6 : decode cX4_sendTable 6 = .ok (.iload_n 2, 1) := by decide +kernel
theorem dX4_sendTable_7 : decode cX4_sendTable 7 = .ok (.iconst 1, 1) := by decide +kernel
theorem dX4_sendTable_8 : decode cX4_sendTable 8 = .ok (.bipush (-6), 2) := by decide +kernel
theorem dX4_sendTable_10 : decode cX4_sendTable 10 = .ok (.bipush (-6), 2) := by decide +kernel
theorem dX4_sendTable_12 : decode cX4_sendTable 12 = .ok (.aload_n 0, 1) := by decide +kernel
theorem dX4_sendTable_13 : decode cX4_sendTable 13 = .ok (.getfield 30, 3) := by decide +kernel
theorem dX4_sendTable_16 : decode cX4_sendTable 16 = .ok (.iconst 1, 1) := by decide +kernel
theorem dX4_sendTable_17 : decode cX4_sendTable 17 = .ok (.iaload, 1) := by decide +kernel
theorem dX4_sendTable_18 : decode cX4_sendTable 18 = .ok (.bipush 16, 2) := by decide +kernel
theorem dX4_sendTable_20 : decode cX4_sendTable 20 = .ok (.irem, 1) := by decide +kernel
theorem dX4_sendTable_21 : decode cX4_sendTable 21 = .ok (.invokevirtual 128, 3) := by decide +kernel
theorem dX4_sendTable_24 : decode cX4_sendTable 24 = .ok (.return_, 1) := by decide +kernel
theorem dX4_note_0 : decode cX4_note 0 = .ok (.aload_n 0, 1) := by decide +kernel
theorem dX4_note_1 : decode cX4_note 1 = .ok (.getfield 9, 3) := by decide +kernel
theorem dX4_note_4 : decode cX4_note 4 = .ok (.iload_n 1, 1) := by decide +kernel
theorem dX4_note_5 : decode cX4_note 5 = .ok (.iload_n 2, 1) := by decide +kernel
theorem dX4_note_6 : decode cX4_note 6 = .ok (.iastore, 1) := by decide +kernel
theorem dX4_note_7 : decode cX4_note 7 = .ok (.aload_n 0, 1) := by decide +kernel
theorem dX4_note_8 : decode cX4_note 8 = .ok (.getfield 15, 3) := by decide +kernel
theorem dX4_note_11 : decode cX4_note 11 = .ok (.iload_n 1, 1) := by decide +kernel
theorem dX4_note_12 : decode cX4_note 12 = .ok (.iload_n 3, 1) := by decide +kernel
theorem dX4_note_13 : decode cX4_note 13 = .ok (.iastore, 1) := by decide +kernel
theorem dX4_note_14 : decode cX4_note 14 = .ok (.aload_n 0, 1) := by decide +kernel
theorem dX4_note_15 : decode cX4_note 15 = .ok (.getfield 18, 3) := by decide +kernel
theorem dX4_note_18 : decode cX4_note 18 = .ok (.iload_n 1, 1) := by decide +kernel
theorem dX4_note_19 : decode cX4_note 19 = .ok (.iload 4, 2) := by decide +kernel
theorem dX4_note_21 : decode cX4_note 21 = .ok (.iastore, 1) := by decide +kernel
theorem dX4_note_22 : decode cX4_note 22 = .ok (.aload_n 0, 1) := by decide +kernel
theorem dX4_note_23 : decode cX4_note 23 = .ok (.getfield 21, 3) := by decide +kernel
theorem dX4_note_26 : decode cX4_note 26 = .ok (.iload_n 1, 1) := by decide +kernel
theorem dX4_note_27 : decode cX4_note 27 = .ok (.iload 5, 2) := by decide +kernel
theorem dX4_note_29 : decode cX4_note 29 = .ok (.iastore, 1) := by decide +kernel
theorem dX4_note_30 : decode cX4_note 30 = .ok (.aload_n 0, 1) := by decide +kernel
theorem dX4_note_31 : decode cX4_note 31 = .ok (.getfield 30, 3) := by decide +kernel
theorem dX4_note_34 : decode cX4_note 34 = .ok (.iload_n 2, 1) := by decide +kernel
theorem dX4_note_35 : decode cX4_note 35 = .ok (.dup2, 1) := by decide +kernel
theorem dX4_note_36 : decode cX4_note 36 = .ok (.iaload, 1) := by decide +kernel
theorem dX4_note_37 : decode cX4_note 37 = .ok (.iconst 1, 1) := by decide +kernel
theorem dX4_note_38 : decode cX4_note 38 = .ok (.iadd, 1) := by decide +kernel
theorem dX4_note_39 : decode cX4_note 39 = .ok (.iastore, 1) := by decide +kernel
theorem dX4_note_40 : decode cX4_note 40 = .ok (.return_, 1) := by decide +kernel
theorem dX4_clockProgramme_0 : decode cX4_clockProgramme 0 = .ok (.iconst 0, 1) := by decide +kernel
theorem dX4_clockProgramme_1 : decode cX4_clockProgramme 1 = .ok (.istore_n 3, 1) := by decide +kernel
theorem dX4_clockProgramme_2 : decode cX4_clockProgramme 2 = .ok (.iload_n 3, 1) := by decide +kernel
theorem dX4_clockProgramme_3 : decode cX4_clockProgramme 3 = .ok (.iconst 4, 1) := by decide +kernel
theorem dX4_clockProgramme_4 : decode cX4_clockProgramme 4 = .ok (.if_icmp .ge 36, 3) := by decide +kernel
theorem dX4_clockProgramme_7 : decode cX4_clockProgramme 7 = .ok (.aload_n 1, 1) := by decide +kernel
theorem dX4_clockProgramme_8 : decode cX4_clockProgramme 8 = .ok (.getfield 68, 3) := by decide +kernel
theorem dX4_clockProgramme_11 : decode cX4_clockProgramme 11 = .ok (.iload_n 3, 1) := by decide +kernel
theorem dX4_clockProgramme_12 : decode cX4_clockProgramme 12 = .ok (.aaload, 1) := by decide +kernel
theorem dX4_clockProgramme_13 : decode cX4_clockProgramme 13 = .ok (.getfield 141, 3) := by decide +kernel
theorem dX4_clockProgramme_16 : decode cX4_clockProgramme 16 = .ok (.aload_n 0, 1) := by decide +kernel
theorem dX4_clockProgramme_17 : decode cX4_clockProgramme 17 = .ok (.getfield 26, 3) := by decide +kernel
theorem dX4_clockProgramme_20 : decode cX4_clockProgramme 20 = .ok (.iload_n 3, 1) := by decide +kernel
theorem dX4_clockProgramme_21 : decode cX4_clockProgramme 21 = .ok (.aaload, 1) := by decide +kernel
theorem dX4_clockProgramme_22 : decode cX4_clockProgramme 22 = .ok (.getfield 121, 3) := by decide +kernel
theorem dX4_clockProgramme_25 : decode cX4_clockProgramme 25 = .ok (.iload_n 2, 1) := by decide +kernel
theorem dX4_clockProgramme_26 : decode cX4_clockProgramme 26 = .ok (.invokestatic 110, 3) := by decide +kernel
theorem dX4_clockProgramme_29 : decode cX4_clockProgramme 29 = .ok (.ifCond .eq 5, 3) := by decide +kernel
theorem dX4_clockProgramme_32 : decode cX4_clockProgramme 32 = .ok (.iload_n 3, 1) := by decide +kernel
theorem dX4_clockProgramme_33 : decode cX4_clockProgramme 33 = .ok (.ireturn, 1) := by decide +kernel
theorem dX4_clockProgramme_34 : decode cX4_clockProgramme 34 = .ok (.iinc 3 1, 3) := by decide +kernel
theorem dX4_clockProgramme_37 : decode cX4_clockProgramme 37 = .ok (.goto (-35), 3) := by decide +kernel
theorem dX4_clockProgramme_40 : decode cX4_clockProgramme 40 = .ok (.bipush (-6), 2) := by decide +kernel
theorem dX4_clockProgramme_42 : decode cX4_clockProgramme 42 = .ok (.ireturn, 1) := by decide +kernel
theorem dX4_frameProgramme_0 : decode cX4_frameProgramme 0 = .ok (.bipush (-6), 2) := by decide +kernel
theorem dX4_frameProgramme_2 : decode cX4_frameProgramme 2 = .ok (.istore_n 3, 1) := by decide +kernel
theorem dX4_frameProgramme_3 : decode cX4_frameProgramme 3 = .ok (.bipush 100, 2) := by decide +kernel
theorem dX4_frameProgramme_5 : decode cX4_frameProgramme 5 = .ok (.istore 4, 2) := by decide +kernel
theorem dX4_frameProgramme_7 : decode cX4_frameProgramme 7 = .ok (.iconst 0, 1) := by decide +kernel
theorem dX4_frameProgramme_8 : decode cX4_frameProgramme 8 = .ok (.istore 5, 2) := by decide +kernel
theorem dX4_frameProgramme_10 : decode cX4_frameProgramme 10 = .ok (.iload 5, 2) := by decide +kernel
theorem dX4_frameProgramme_12 : decode cX4_frameProgramme 12 = .ok (.iconst 4, 1) := by decide +kernel
theorem dX4_frameProgramme_13 : decode cX4_frameProgramme 13 = .ok (.if_icmp .ge 72, 3) := by decide +kernel
theorem dX4_frameProgramme_16 : decode cX4_frameProgramme 16 = .ok (.aload_n 0, 1) := by decide +kernel
theorem dX4_frameProgramme_17 : decode cX4_frameProgramme 17 = .ok (.getfield 26, 3) := by decide +kernel
theorem dX4_frameProgramme_20 : decode cX4_frameProgramme 20 = .ok (.iload 5, 2) := by decide +kernel
theorem dX4_frameProgramme_22 : decode cX4_frameProgramme 22 = .ok (.aaload, 1) := by decide +kernel
theorem dX4_frameProgramme_23 : decode cX4_frameProgramme 23 = .ok (.aload_n 1, 1) := by decide +kernel
theorem dX4_frameProgramme_24 : decode cX4_frameProgramme 24 = .ok (.getfield 68, 3) := by decide +kernel
theorem dX4_frameProgramme_27 : decode cX4_frameProgramme 27 = .ok (.iload 5, 2) := by decide +kernel
theorem dX4_frameProgramme_29 : decode cX4_frameProgramme 29 = .ok (.aaload, 1) := by decide +kernel
theorem dX4_frameProgramme_30 : decode cX4_frameProgramme 30 = .ok (.iload_n 2, 1) := by decide +kernel
theorem dX4_frameProgramme_31 : decode cX4_frameProgramme 31 = .ok (.invokevirtual 144, 3) := by decide +kernel
theorem dX4_frameProgramme_34 : decode cX4_frameProgramme 34 = .ok (.istore 6, 2) := by decide +kernel
theorem dX4_frameProgramme_36 : decode cX4_frameProgramme 36 = .ok (.iload 6, 2) := by decide +kernel
theorem dX4_frameProgramme_38 : decode cX4_frameProgramme 38 = .ok (.bipush (-6), 2) := by decide +kernel
theorem dX4_frameProgramme_40 : decode cX4_frameProgramme 40 = .ok (.if_icmp .eq 39, 3) := by decide +kernel
theorem dX4_frameProgramme_43 : decode cX4_frameProgramme 43 = .ok (.aload_n 1, 1) := by decide +kernel
theorem dX4_frameProgramme_44 : decode cX4_frameProgramme 44 = .ok (.getfield 68, 3) := by decide +kernel
theorem dX4_frameProgramme_47 : decode cX4_frameProgramme 47 = .ok (.iload 5, 2) := by decide +kernel
theorem dX4_frameProgramme_49 : decode cX4_frameProgramme 49 = .ok (.aaload, 1) := by decide +kernel
theorem dX4_frameProgramme_50 : decode cX4_frameProgramme 50 = .ok (.getfield 147, 3) := by decide +kernel
theorem dX4_frameProgramme_53 : decode cX4_frameProgramme 53 = .ok (.iload 6, 2) := by decide +kernel
theorem dX4_frameProgramme_55 : decode cX4_frameProgramme 55 = .ok (.iaload, 1) := by decide +kernel
theorem dX4_frameProgramme_56 : decode cX4_frameProgramme 56 = .ok (.iload 4, 2) := by decide +kernel
theorem dX4_frameProgramme_58 : decode cX4_frameProgramme 58 = .ok (.if_icmp .ge 21, 3) := by decide +kernel
theorem dX4_frameProgramme_61 : decode cX4_frameProgramme 61 = .ok (.iload 5, 2) := by decide +kernel
theorem dX4_frameProgramme_63 : decode cX4_frameProgramme 63 = .ok (.istore_n 3, 1) := by decide +kernel
theorem dX4_frameProgramme_64 : decode cX4_frameProgramme 64 = .ok (.aload_n 1, 1) := by decide +kernel
theorem dX4_frameProgramme_65 : decode cX4_frameProgramme 65 = .ok (.getfield 68, 3) := by decide +kernel
theorem dX4_frameProgramme_68 : decode cX4_frameProgramme 68 = .ok (.iload 5, 2) := by decide +kernel
theorem dX4_frameProgramme_70 : decode cX4_frameProgramme 70 = .ok (.aaload, 1) := by decide +kernel
theorem dX4_frameProgramme_71 : decode cX4_frameProgramme 71 = .ok (.getfield 147, 3) := by decide +kernel
theorem dX4_frameProgramme_74 : decode cX4_frameProgramme 74 = .ok (.iload 6, 2) := by decide +kernel
theorem dX4_frameProgramme_76 : decode cX4_frameProgramme 76 = .ok (.iaload, 1) := by decide +kernel
theorem dX4_frameProgramme_77 : decode cX4_frameProgramme 77 = .ok (.istore 4, 2) := by decide +kernel
theorem dX4_frameProgramme_79 : decode cX4_frameProgramme 79 = .ok (.iinc 5 1, 3) := by decide +kernel
theorem dX4_frameProgramme_82 : decode cX4_frameProgramme 82 = .ok (.goto (-72), 3) := by decide +kernel
theorem dX4_frameProgramme_85 : decode cX4_frameProgramme 85 = .ok (.iload_n 3, 1) := by decide +kernel
theorem dX4_frameProgramme_86 : decode cX4_frameProgramme 86 = .ok (.ireturn, 1) := by decide +kernel
theorem dX4_comesAgain_0 : decode cX4_comesAgain 0 = .ok (.iload_n 0, 1) := by decide +kernel
theorem dX4_comesAgain_1 : decode cX4_comesAgain 1 = .ok (.ifCond .eq 20, 3) := by decide +kernel
theorem dX4_comesAgain_4 : decode cX4_comesAgain 4 = .ok (.iload_n 1, 1) := by decide +kernel
theorem dX4_comesAgain_5 : decode cX4_comesAgain 5 = .ok (.bipush (-6), 2) := by decide +kernel
theorem dX4_comesAgain_7 : decode cX4_comesAgain 7 = .ok (.if_icmp .eq 10, 3) := by decide +kernel
theorem dX4_comesAgain_10 : decode cX4_comesAgain 10 = .ok (.iload_n 2, 1) := by decide +kernel
theorem dX4_comesAgain_11 : decode cX4_comesAgain 11 = .ok (.iload_n 1, 1) := by decide +kernel
theorem dX4_comesAgain_12 : decode cX4_comesAgain 12 = .ok (.isub, 1) := by decide +kernel
theorem dX4_comesAgain_13 : decode cX4_comesAgain 13 = .ok (.iload_n 0, 1) := by decide +kernel
theorem dX4_comesAgain_14 : decode cX4_comesAgain 14 = .ok (.if_icmp .lt 7, 3) := by decide +kernel
theorem dX4_comesAgain_17 : decode cX4_comesAgain 17 = .ok (.iconst 1, 1) := by decide +kernel
theorem dX4_comesAgain_18 : decode cX4_comesAgain 18 = .ok (.goto 4, 3) := by decide +kernel
theorem dX4_comesAgain_21 : decode cX4_comesAgain 21 = .ok (.iconst 0, 1) := by decide +kernel
theorem dX4_comesAgain_22 : decode cX4_comesAgain 22 = .ok (.ireturn, 1) := by decide +kernel
theorem dX5_init_0 : decode cX5_init 0 = .ok (.aload_n 0, 1) := by decide +kernel
theorem dX5_init_1 : decode cX5_init 1 = .ok (.invokespecial 1, 3) := by decide +kernel
theorem dX5_init_4 : decode cX5_init 4 = .ok (.aload_n 0, 1) := by decide +kernel
theorem dX5_init_5 : decode cX5_init 5 = .ok (.new 7, 3) := by decide +kernel
theorem dX5_init_8 : decode cX5_init 8 = .ok (.dup, 1) := by decide +kernel
theorem dX5_init_9 : decode cX5_init 9 = .ok (.invokespecial 9, 3) := by decide +kernel
theorem dX5_init_12 : decode cX5_init 12 = .ok (.putfield 10, 3) := by decide +kernel
theorem dX5_init_15 : decode cX5_init 15 = .ok (.aload_n 0, 1) := by decide +kernel
theorem dX5_init_16 : decode cX5_init 16 = .ok (.new 16, 3) := by decide +kernel
theorem dX5_init_19 : decode cX5_init 19 = .ok (.dup, 1) := by decide +kernel
theorem dX5_init_20 : decode cX5_init 20 = .ok (.invokespecial 18, 3) := by decide +kernel
theorem dX5_init_23 : decode cX5_init 23 = .ok (.putfield 19, 3) := by decide +kernel
theorem dX5_init_26 : decode cX5_init 26 = .ok (.aload_n 0, 1) := by decide +kernel
theorem dX5_init_27 : decode cX5_init 27 = .ok (.new 16, 3) := by decide +kernel
theorem dX5_init_30 : decode cX5_init 30 = .ok (.dup, 1) := by decide +kernel
theorem dX5_init_31 : decode cX5_init 31 = .ok (.invokespecial 18, 3) := by decide +kernel
theorem dX5_init_34 : decode cX5_init 34 = .ok (.putfield 23, 3) := by decide +kernel
theorem dX5_init_37 : decode cX5_init 37 = .ok (.aload_n 0, 1) := by decide +kernel
theorem dX5_init_38 : decode cX5_init 38 = .ok (.iconst 2, 1) := by decide +kernel
theorem dX5_init_39 : decode cX5_init 39 = .ok (.anewarray 16, 3) := by decide +kernel
theorem dX5_init_42 : decode cX5_init 42 = .ok (.putfield 26, 3) := by decide +kernel
theorem dX5_init_45 : decode cX5_init 45 = .ok (.aload_n 0, 1) := by decide +kernel
theorem dX5_init_46 : decode cX5_init 46 = .ok (.new 30, 3) := by decide +kernel
theorem dX5_init_49 : decode cX5_init 49 = .ok (.dup, 1) := by decide +kernel
theorem dX5_init_50 : decode cX5_init 50 = .ok (.invokespecial 32, 3) := by decide +kernel
theorem dX5_init_53 : decode cX5_init 53 = .ok (.putfield 33, 3) := by decide +kernel
theorem dX5_init_56 : decode cX5_init 56 = .ok (.aload_n 0, 1) := by decide +kernel
theorem dX5_init_57 : decode cX5_init 57 = .ok (.iconst 0, 1) := by decide +kernel
theorem dX5_init_58 : decode cX5_init 58 = .ok (.putfield 37, 3) := by decide +kernel
theorem dX5_init_61 : decode cX5_init 61 = .ok (.aload_n 0, 1) := by decide +kernel
theorem dX5_init_62 : decode cX5_init 62 = .ok (.bipush (-6), 2) := by decide +kernel
theorem dX5_init_64 : decode cX5_init 64 = .ok (.putfield 41, 3) := by decide +kernel
theorem dX5_init_67 : decode cX5_init 67 = .ok (.aload_n 0, 1) := by decide +kernel
theorem dX5_init_68 : decode cX5_init 68 = .ok (.iconst 0, 1) := by decide +kernel
theorem dX5_init_69 : decode cX5_init 69 = .ok (.putfield 44, 3) := by decide +kernel
theorem dX5_init_72 : decode cX5_init 72 = .ok (.iconst 0, 1) := by decide +kernel
theorem dX5_init_73 : decode cX5_init 73 = .ok (.istore_n 1, 1) := by decide +kernel
theorem dX5_init_74 : decode cX5_init 74 = .ok (.iload_n 1, 1) := by decide +kernel
theorem dX5_init_75 : decode cX5_init 75 = .ok (.iconst 2, 1) := by decide +kernel
theorem dX5_init_76 : decode cX5_init 76 = .ok (.if_icmp .ge 22, 3) := by decide +kernel
theorem dX5_init_79 : decode cX5_init 79 = .ok (.aload_n 0, 1) := by decide +kernel
theorem dX5_init_80 : decode cX5_init 80 = .ok (.getfield 26, 3) := by decide +kernel
theorem dX5_init_83 : decode cX5_init 83 = .ok (.iload_n 1, 1) := by decide +kernel
theorem dX5_init_84 : decode cX5_init 84 = .ok (.new 16, 3) := by decide +kernel
theorem dX5_init_87 : decode cX5_init 87 = .ok (.dup, 1) := by decide +kernel
theorem dX5_init_88 : decode cX5_init 88 = .ok (.invokespecial 18, 3) := by decide +kernel
theorem dX5_init_91 : decode cX5_init 91 = .ok (.aastore, 1) := by decide +kernel
theorem dX5_init_92 : decode cX5_init 92 = .ok (.iinc 1 1, 3) := by decide +kernel
theorem dX5_init_95 : decode cX5_init 95 = .ok (.goto (-21), 3) := by decide +kernel
theorem dX5_init_98 : decode cX5_init 98 = .ok (.return_, 1) := by decide +kernel
theorem dX5_say_0 : decode cX5_say 0 = .ok (.iload_n 1, 1) := by decide +kernel
theorem dX5_say_1 : decode cX5_say 1 = .ok (.bipush 32, 2) := by decide +kernel
theorem dX5_say_3 : decode cX5_say 3 = .ok (.bipush 126, 2) := by decide +kernel
theorem dX5_say_5 : decode cX5_say 5 = .ok (.invokestatic 48, 3) := by decide +kernel
theorem dX5_say_8 : decode cX5_say 8 = .ok (.ifCond .ne 6, 3) := by decide +kernel
theorem dX5_say_11 : decode cX5_say 11 = .ok (.bipush (-2), 2) := by decide +kernel
theorem dX5_say_13 : decode cX5_say 13 = .ok (.ireturn, 1) := by decide +kernel
theorem dX5_say_14 : decode cX5_say 14 = .ok (.aload_n 0, 1) := by decide +kernel
theorem dX5_say_15 : decode cX5_say 15 = .ok (.getfield 10, 3) := by decide +kernel
theorem dX5_say_18 : decode cX5_say 18 = .ok (.iload_n 1, 1) := by decide +kernel
theorem dX5_say_19 : decode cX5_say 19 = .ok (.invokevirtual 52, 3) := by decide +kernel
theorem dX5_say_22 : decode cX5_say 22 = .ok (.ifCond .eq 13, 3) := by decide +kernel
theorem dX5_say_25 : decode cX5_say 25 = .ok (.aload_n 0, 1) := by decide +kernel
theorem dX5_say_26 : decode cX5_say 26 = .ok (.getfield 10, 3) := by decide +kernel
theorem dX5_say_29 : decode cX5_say 29 = .ok (.getfield 56, 3) := by decide +kernel
theorem dX5_say_32 : decode cX5_say 32 = .ok (.goto 5, 3) := by decide +kernel
theorem dX5_say_35 : decode cX5_say 35 = .ok (.bipush (-4), 2) := by decide +kernel
theorem dX5_say_37 : decode cX5_say 37 = .ok (.ireturn, 1) := by decide +kernel
theorem dX5_wipe_0 : decode cX5_wipe 0 = .ok (.aload_n 0, 1) := by decide +kernel
theorem dX5_wipe_1 : decode cX5_wipe 1 = .ok (.getfield 10, 3) := by decide +kernel
theorem dX5_wipe_4 : decode cX5_wipe 4 = .ok (.getfield 56, 3) := by decide +kernel
theorem dX5_wipe_7 : decode cX5_wipe 7 = .ok (.istore_n 1, 1) := by decide +kernel
theorem dX5_wipe_8 : decode cX5_wipe 8 = .ok (.aload_n 0, 1) := by decide +kernel
theorem dX5_wipe_9 : decode cX5_wipe 9 = .ok (.getfield 10, 3) := by decide +kernel
theorem dX5_wipe_12 : decode cX5_wipe 12 = .ok (.iconst 0, 1) := by decide +kernel
theorem dX5_wipe_13 : decode cX5_wipe 13 = .ok (.putfield 56, 3) := by decide +kernel
theorem dX5_wipe_16 : decode cX5_wipe 16 = .ok (.iload_n 1, 1) := by decide +kernel
theorem dX5_wipe_17 : decode cX5_wipe 17 = .ok (.ireturn, 1) := by decide +kernel
theorem dX5_line_0 : decode cX5_line 0 = .ok (.aload_n 0, 1) := by decide +kernel
theorem dX5_line_1 : decode cX5_line 1 = .ok (.getfield 10, 3) := by decide +kernel
theorem dX5_line_4 : decode cX5_line 4 = .ok (.invokevirtual 59, 3) := by decide +kernel
theorem dX5_line_7 : decode cX5_line 7 = .ok (.istore_n 1, 1) := by decide +kernel
theorem dX5_line_8 : decode cX5_line 8 = .ok (.iload_n 1, 1) := by decide +kernel
theorem dX5_line_9 : decode cX5_line 9 = .ok (.bipush (-6), 2) := by decide +kernel
theorem dX5_line_11 : decode cX5_line 11 = .ok (.if_icmp .eq 11, 3) := by decide +kernel
theorem dX5_line_14 : decode cX5_line 14 = .ok (.aload_n 0, 1) := by decide +kernel
theorem dX5_line_15 : decode cX5_line 15 = .ok (.iload_n 1, 1) := by decide +kernel
theorem dX5_line_16 : decode cX5_line 16 = .ok (.putfield 41, 3) := by decide +kernel
theorem dX5_line_19 : decode cX5_line 19 = .ok (.bipush (-7), 2) := by decide +kernel
theorem dX5_line_21 : decode cX5_line 21 = .ok (.ireturn, 1) := by decide +kernel
theorem dX5_line_22 : decode cX5_line 22 = .ok (.aload_n 0, 1) := by decide +kernel
theorem dX5_line_23 : decode cX5_line 23 = .ok (.aload_n 0, 1) := by decide +kernel
theorem dX5_line_24 : decode cX5_line 24 = .ok (.getfield 10, 3) := by decide +kernel
theorem dX5_line_27 : decode cX5_line 27 = .ok (.getfield 63, 3) := by decide +kernel
theorem dX5_line_30 : decode cX5_line 30 = .ok (.invokevirtual 67, 3) := by decide +kernel
theorem dX5_line_33 : decode cX5_line 33 = .ok (.istore_n 2, 1) := by decide +kernel
theorem dX5_line_34 : decode cX5_line 34 = .ok (.iload_n 2, 1) := by decide +kernel
theorem dX5_line_35 : decode cX5_line 35 = .ok (.ifCond .lt 16, 3) := by decide +kernel
theorem dX5_line_38 : decode cX5_line 38 = .ok (.aload_n 0, 1) := by decide +kernel
theorem dX5_line_39 : decode cX5_line 39 = .ok (.getfield 10, 3) := by decide +kernel
theorem dX5_line_42 : decode cX5_line 42 = .ok (.iconst 0, 1) := by decide +kernel
theorem dX5_line_43 : decode cX5_line 43 = .ok (.putfield 56, 3) := by decide +kernel
theorem dX5_line_46 : decode cX5_line 46 = .ok (.aload_n 0, 1) := by decide +kernel
theorem dX5_line_47 : decode cX5_line 47 = .ok (.iconst 0, 1) := by decide +kernel
theorem dX5_line_48 : decode cX5_line 48 = .ok (.putfield 44, 3) := by decide +kernel
theorem dX5_line_51 : decode cX5_line 51 = .ok (.iload_n 2, 1) := by decide +kernel
theorem dX5_line_52 : decode cX5_line 52 = .ok (.ireturn, 1) := by decide +kernel
theorem dX5_fault_0 : decode cX5_fault 0 = .ok (.aload_n 0, 1) := by decide +kernel
theorem dX5_fault_1 : decode cX5_fault 1 = .ok (.getfield 10, 3) := by decide +kernel
theorem dX5_fault_4 : decode cX5_fault 4 = .ok (.invokevirtual 59, 3) := by decide +kernel
theorem dX5_fault_7 : decode cX5_fault 7 = .ok (.ireturn, 1) := by decide +kernel
theorem dX5_written_0 : decode cX5_written 0 = .ok (.iload_n 1, 1) := by decide +kernel
theorem dX5_written_1 : decode cX5_written 1 = .ok (.invokestatic 71, 3) := by decide +kernel
theorem dX5_written_4 : decode cX5_written 4 = .ok (.ifCond .eq 8, 3) := by decide +kernel
theorem dX5_written_7 : decode cX5_written 7 = .ok (.iload_n 3, 1) := by decide +kernel
theorem dX5_written_8 : decode cX5_written 8 = .ok (.iconst (-1), 1) := by decide +kernel
theorem dX5_written_9 : decode cX5_written 9 = .ok (.if_icmp .ge 6, 3) := by decide +kernel
theorem dX5_written_12 : decode cX5_written 12 = .ok (.bipush (-2), 2) := by decide +kernel
theorem dX5_written_14 : decode cX5_written 14 = .ok (.ireturn, 1) := by decide +kernel
theorem dX5_written_15 : decode cX5_written 15 = .ok (.aload_n 0, 1) := by decide +kernel
theorem dX5_written_16 : decode cX5_written 16 = .ok (.getfield 19, 3) := by decide +kernel
theorem dX5_written_19 : decode cX5_written 19 = .ok (.getfield 74, 3) := by decide +kernel
theorem dX5_written_22 : decode cX5_written 22 = .ok (.iload_n 1, 1) := by decide +kernel
theorem dX5_written_23 : decode cX5_written 23 = .ok (.aaload, 1) := by decide +kernel
theorem dX5_written_24 : decode cX5_written 24 = .ok (.astore 4, 2) := by decide +kernel
theorem dX5_written_26 : decode cX5_written 26 = .ok (.aload 4, 2) := by decide +kernel
theorem dX5_written_28 : decode cX5_written 28 = .ok (.iload_n 2, 1) := by decide +kernel
theorem dX5_written_29 : decode cX5_written 29 = .ok (.invokevirtual 78, 3) := by decide +kernel
theorem dX5_written_32 : decode cX5_written 32 = .ok (.ifCond .ne 6, 3) := by decide +kernel
theorem dX5_written_35 : decode cX5_written 35 = .ok (.bipush (-6), 2) := by decide +kernel
theorem dX5_written_37 : decode cX5_written 37 = .ok (.ireturn, 1) := by decide +kernel
theorem dX5_written_38 : decode cX5_written 38 = .ok (.new 83, 3) := by decide +kernel
theorem dX5_written_41 : decode cX5_written 41 = .ok (.dup, 1) := by decide +kernel
theorem dX5_written_42 : decode cX5_written 42 = .ok (.invokespecial 85, 3) := by decide +kernel
theorem dX5_written_45 : decode cX5_written 45 = .ok (.astore 5, 2) := by decide +kernel
theorem dX5_written_47 : decode cX5_written 47 = .ok (.aload 5, 2) := by decide +kernel
theorem dX5_written_49 : decode cX5_written 49 = .ok (.iconst 0, 1) := by decide +kernel
theorem dX5_written_50 : decode cX5_written 50 = .ok (.invokestatic 86, 3) := by decide +kernel
theorem dX5_written_53 : decode cX5_written 53 = .ok (.invokevirtual 90, 3) := by decide +kernel
theorem dX5_written_56 : decode cX5_written 56 = .ok (.pop, 1) := by decide +kernel
theorem dX5_written_57 : decode cX5_written 57 = .ok (.aload 5, 2) := by decide +kernel
theorem dX5_written_59 : decode cX5_written 59 = .ok (.bipush 32, 2) := by decide +kernel
theorem dX5_written_61 : decode cX5_written 61 = .ok (.invokevirtual 94, 3) := by decide +kernel
theorem dX5_written_64 : decode cX5_written 64 = .ok (.iload_n 1, 1) := by decide +kernel
theorem dX5_written_65 : decode cX5_written 65 = .ok (.invokevirtual 97, 3) := by decide +kernel
theorem dX5_written_68 : decode cX5_written 68 = .ok (.pop, 1) := by decide +kernel
theorem dX5_written_69 : decode cX5_written 69 = .ok (.aload 5, 2) := by decide +kernel
theorem dX5_written_71 : decode cX5_written 71 = .ok (.bipush 32, 2) := by decide +kernel
theorem dX5_written_73 : decode cX5_written 73 = .ok (.invokevirtual 94, 3) := by decide +kernel
theorem dX5_written_76 : decode cX5_written 76 = .ok (.aload 4, 2) := by decide +kernel
theorem dX5_written_78 : decode cX5_written 78 = .ok (.getfield 100, 3) := by decide +kernel
theorem dX5_written_81 : decode cX5_written 81 = .ok (.iload_n 2, 1) := by decide +kernel
theorem dX5_written_82 : decode cX5_written 82 = .ok (.iaload, 1) := by decide +kernel
theorem dX5_written_83 : decode cX5_written 83 = .ok (.invokevirtual 97, 3) := by decide +kernel
theorem dX5_written_86 : decode cX5_written 86 = .ok (.pop, 1) := by decide +kernel
theorem dX5_written_87 : decode cX5_written 87 = .ok (.aload 5, 2) := by decide +kernel
theorem dX5_written_89 : decode cX5_written 89 = .ok (.bipush 32, 2) := by decide +kernel
theorem dX5_written_91 : decode cX5_written 91 = .ok (.invokevirtual 94, 3) := by decide +kernel
theorem dX5_written_94 : decode cX5_written 94 = .ok (.aload 4, 2) := by decide +kernel
theorem dX5_written_96 : decode cX5_written 96 = .ok (.getfield 103, 3) := by decide +kernel
theorem dX5_written_99 : decode cX5_written 99 = .ok (.iload_n 2, 1) := by decide +kernel
theorem dX5_written_100 : decode cX5_written 100 = .ok (.iaload, 1) := by decide +kernel
theorem dX5_written_101 : decode cX5_written 101 = .ok (.invokevirtual 97, 3) := by decide +kernel
theorem dX5_written_104 : decode cX5_written 104 = .ok (.pop, 1) := by decide +kernel
theorem dX5_written_105 : decode cX5_written 105 = .ok (.iload_n 3, 1) := by decide +kernel
theorem dX5_written_106 : decode cX5_written 106 = .ok (.iconst (-1), 1) := by decide +kernel
theorem dX5_written_107 : decode cX5_written 107 = .ok (.if_icmp .ne 9, 3) := by decide +kernel
theorem dX5_written_110 : decode cX5_written 110 = .ok (.aload 5, 2) := by decide +kernel
theorem dX5_written_112 : decode cX5_written 112 = .ok (.invokevirtual 106, 3) := by decide +kernel
theorem dX5_written_115 : decode cX5_written 115 = .ok (.ireturn, 1) := by decide +kernel
theorem dX5_written_116 : decode cX5_written 116 = .ok (.iload_n 3, 1) := by decide +kernel
theorem dX5_written_117 : decode cX5_written 117 = .ok (.aload 5, 2) := by decide +kernel
theorem dX5_written_119 : decode cX5_written 119 = .ok (.invokevirtual 106, 3) := by decide +kernel
theorem dX5_written_122 : decode cX5_written 122 = .ok (.if_icmp .lt 6, 3) := by decide +kernel
theorem dX5_written_125 : decode cX5_written 125 = .ok (.bipush (-6), 2) := by decide +kernel
theorem dX5_written_127 : decode cX5_written 127 = .ok (.ireturn, 1) := by decide +kernel
theorem dX5_written_128 : decode cX5_written 128 = .ok (.aload 5, 2) := by decide +kernel
theorem dX5_written_130 : decode cX5_written 130 = .ok (.iload_n 3, 1) := by decide +kernel
theorem dX5_written_131 : decode cX5_written 131 = .ok (.invokevirtual 108, 3) := by decide +kernel
theorem dX5_written_134 : decode cX5_written 134 = .ok (.ireturn, 1) := by decide +kernel
theorem dX5_told_0 : decode cX5_told 0 = .ok (.iload_n 1, 1) := by decide +kernel
theorem dX5_told_1 : decode cX5_told 1 = .ok (.invokestatic 71, 3) := by decide +kernel
theorem dX5_told_4 : decode cX5_told 4 = .ok (.ifCond .ne 6, 3) := by decide +kernel
theorem dX5_told_7 : decode cX5_told 7 = .ok (.bipush (-2), 2) := by decide +kernel
theorem dX5_told_9 : decode cX5_told 9 = .ok (.ireturn, 1) := by decide +kernel
theorem dX5_told_10 : decode cX5_told 10 = .ok (.aload_n 0, 1) := by decide +kernel
theorem dX5_told_11 : decode cX5_told 11 = .ok (.getfield 19, 3) := by decide +kernel
theorem dX5_told_14 : decode cX5_told 14 = .ok (.getfield 74, 3) := by decide +kernel
theorem dX5_told_17 : decode cX5_told 17 = .ok (.iload_n 1, 1) := by decide +kernel
theorem dX5_told_18 : decode cX5_told 18 = .ok (.aaload, 1) := by decide +kernel
theorem dX5_told_19 : decode cX5_told 19 = .ok (.astore_n 3, 1) := by decide +kernel
theorem dX5_told_20 : decode cX5_told 20 = .ok (.iload_n 2, 1) := by decide +kernel
theorem dX5_told_21 : decode cX5_told 21 = .ok (.tableswitch 60 0 4 #[35, 40, 45, 50, 55], 35) := by decide +kernel
theorem dX5_told_56 : decode cX5_told 56 = .ok (.aload_n 3, 1) := by decide +kernel
theorem dX5_told_57 : decode cX5_told 57 = .ok (.getfield 112, 3) := by decide +kernel
theorem dX5_told_60 : decode cX5_told 60 = .ok (.ireturn, 1) := by decide +kernel
theorem dX5_told_61 : decode cX5_told 61 = .ok (.aload_n 3, 1) := by decide +kernel
theorem dX5_told_62 : decode cX5_told 62 = .ok (.getfield 115, 3) := by decide +kernel
theorem dX5_told_65 : decode cX5_told 65 = .ok (.ireturn, 1) := by decide +kernel
theorem dX5_told_66 : decode cX5_told 66 = .ok (.aload_n 3, 1) := by decide +kernel
theorem dX5_told_67 : decode cX5_told 67 = .ok (.getfield 118, 3) := by decide +kernel
theorem dX5_told_70 : decode cX5_told 70 = .ok (.ireturn, 1) := by decide +kernel
theorem dX5_told_71 : decode cX5_told 71 = .ok (.aload_n 3, 1) := by decide +kernel
theorem dX5_told_72 : decode cX5_told 72 = .ok (.invokevirtual 121, 3) := by decide +kernel
theorem dX5_told_75 : decode cX5_told 75 = .ok (.ireturn, 1) := by decide +kernel
theorem dX5_told_76 : decode cX5_told 76 = .ok (.aload_n 3, 1) := by decide +kernel
theorem dX5_told_77 : decode cX5_told 77 = .ok (.invokevirtual 124, 3) := by decide +kernel
theorem dX5_told_80 : decode cX5_told 80 = .ok (.ireturn, 1) := by decide +kernel
theorem dX5_told_81 : decode cX5_told 81 = .ok (.bipush (-2), 2) := by decide +kernel
theorem dX5_told_83 : decode cX5_told 83 = .ok (.ireturn, 1) := by decide +kernel
theorem dX5_packet_0 : decode cX5_packet 0 = .ok (.iload_n 1, 1) := by decide +kernel
theorem dX5_packet_1 : decode cX5_packet 1 = .ok (.invokestatic 127, 3) := by decide +kernel
theorem dX5_packet_4 : decode cX5_packet 4 = .ok (.ifCond .eq 20, 3) := by decide +kernel
theorem dX5_packet_7 : decode cX5_packet 7 = .ok (.iload_n 2, 1) := by decide +kernel
theorem dX5_packet_8 : decode cX5_packet 8 = .ok (.iconst 0, 1) := by decide +kernel
theorem dX5_packet_9 : decode cX5_packet 9 = .ok (.aload_n 0, 1) := by decide +kernel
theorem dX5_packet_10 : decode cX5_packet 10 = .ok (.getfield 19, 3) := by decide +kernel
theorem dX5_packet_13 : decode cX5_packet 13 = .ok (.getfield 130, 3) := by decide +kernel
theorem dX5_packet_16 : decode cX5_packet 16 = .ok (.iconst 1, 1) := by decide +kernel
theorem dX5_packet_17 : decode cX5_packet 17 = .ok (.isub, 1) := by decide +kernel
theorem dX5_packet_18 : decode cX5_packet 18 = .ok (.invokestatic 48, 3) := by decide +kernel
theorem dX5_packet_21 : decode cX5_packet 21 = .ok (.ifCond .ne 6, 3) := by decide +kernel
theorem dX5_packet_24 : decode cX5_packet 24 = .ok (.bipush (-2), 2) := by decide +kernel
theorem dX5_packet_26 : decode cX5_packet 26 = .ok (.ireturn, 1) := by decide +kernel
theorem dX5_packet_27 : decode cX5_packet 27 = .ok (.aload_n 0, 1) := by decide +kernel
theorem dX5_packet_28 : decode cX5_packet 28 = .ok (.invokevirtual 133, 3) := by decide +kernel
theorem dX5_packet_31 : decode cX5_packet 31 = .ok (.iload_n 1, 1) := by decide +kernel
theorem dX5_packet_32 : decode cX5_packet 32 = .ok (.iload_n 2, 1) := by decide +kernel
theorem dX5_packet_33 : decode cX5_packet 33 = .ok (.invokestatic 136, 3) := by decide +kernel
theorem dX5_packet_36 : decode cX5_packet 36 = .ok (.istore 4, 2) := by decide +kernel
theorem dX5_packet_38 : decode cX5_packet 38 = .ok (.iload_n 3, 1) := by decide +kernel
theorem dX5_packet_39 : decode cX5_packet 39 = .ok (.tableswitch 73 0 3 #[29, 40, 51, 62], 29) := by decide +kernel
theorem dX5_packet_68 : decode cX5_packet 68 = .ok (.aload_n 0, 1) := by decide +kernel
theorem dX5_packet_69 : decode cX5_packet 69 = .ok (.getfield 33, 3) := by decide +kernel
theorem dX5_packet_72 : decode cX5_packet 72 = .ok (.getfield 140, 3) := by decide +kernel
theorem dX5_packet_75 : decode cX5_packet 75 = .ok (.iload 4, 2) := by decide +kernel
theorem dX5_packet_77 : decode cX5_packet 77 = .ok (.iaload, 1) := by decide +kernel
theorem dX5_packet_78 : decode cX5_packet 78 = .ok (.ireturn, 1) := by decide +kernel
theorem dX5_packet_79 : decode cX5_packet 79 = .ok (.aload_n 0, 1) := by decide +kernel
theorem dX5_packet_80 : decode cX5_packet 80 = .ok (.getfield 33, 3) := by decide +kernel
theorem dX5_packet_83 : decode cX5_packet 83 = .ok (.getfield 143, 3) := by decide +kernel
theorem dX5_packet_86 : decode cX5_packet 86 = .ok (.iload 4, 2) := by decide +kernel
theorem dX5_packet_88 : decode cX5_packet 88 = .ok (.iaload, 1) := by decide +kernel
theorem dX5_packet_89 : decode cX5_packet 89 = .ok (.ireturn, 1) := by decide +kernel
theorem dX5_packet_90 : decode cX5_packet 90 = .ok (.aload_n 0, 1) := by decide +kernel
theorem dX5_packet_91 : decode cX5_packet 91 = .ok (.getfield 33, 3) := by decide +kernel
theorem dX5_packet_94 : decode cX5_packet 94 = .ok (.getfield 146, 3) := by decide +kernel
theorem dX5_packet_97 : decode cX5_packet 97 = .ok (.iload 4, 2) := by decide +kernel
theorem dX5_packet_99 : decode cX5_packet 99 = .ok (.iaload, 1) := by decide +kernel
theorem dX5_packet_100 : decode cX5_packet 100 = .ok (.ireturn, 1) := by decide +kernel
theorem dX5_packet_101 : decode cX5_packet 101 = .ok (.aload_n 0, 1) := by decide +kernel
theorem dX5_packet_102 : decode cX5_packet 102 = .ok (.getfield 33, 3) := by decide +kernel
theorem dX5_packet_105 : decode cX5_packet 105 = .ok (.getfield 149, 3) := by decide +kernel
theorem dX5_packet_108 : decode cX5_packet 108 = .ok (.iload 4, 2) := by decide +kernel
theorem dX5_packet_110 : decode cX5_packet 110 = .ok (.iaload, 1) := by decide +kernel
theorem dX5_packet_111 : decode cX5_packet 111 = .ok (.ireturn, 1) := by decide +kernel
theorem dX5_packet_112 : decode cX5_packet 112 = .ok (.bipush (-2), 2) := by decide +kernel
theorem dX5_packet_114 : decode cX5_packet 114 = .ok (.ireturn, 1) := by decide +kernel
theorem dX5_held_0 : decode cX5_held 0 = .ok (.iload_n 1, 1) := by decide +kernel
theorem dX5_held_1 : decode cX5_held 1 = .ok (.invokestatic 71, 3) := by decide +kernel
theorem dX5_held_4 : decode cX5_held 4 = .ok (.ifCond .eq 10, 3) := by decide +kernel
theorem dX5_held_7 : decode cX5_held 7 = .ok (.iload_n 2, 1) := by decide +kernel
theorem dX5_held_8 : decode cX5_held 8 = .ok (.invokestatic 127, 3) := by decide +kernel
theorem dX5_held_11 : decode cX5_held 11 = .ok (.ifCond .ne 6, 3) := by decide +kernel
theorem dX5_held_14 : decode cX5_held 14 = .ok (.bipush (-2), 2) := by decide +kernel
theorem dX5_held_16 : decode cX5_held 16 = .ok (.ireturn, 1) := by decide +kernel
theorem dX5_held_17 : decode cX5_held 17 = .ok (.aload_n 0, 1) := by decide +kernel
theorem dX5_held_18 : decode cX5_held 18 = .ok (.invokevirtual 133, 3) := by decide +kernel
theorem dX5_held_21 : decode cX5_held 21 = .ok (.aload_n 0, 1) := by decide +kernel
theorem dX5_held_22 : decode cX5_held 22 = .ok (.getfield 33, 3) := by decide +kernel
theorem dX5_held_25 : decode cX5_held 25 = .ok (.getfield 152, 3) := by decide +kernel
theorem dX5_held_28 : decode cX5_held 28 = .ok (.iload_n 1, 1) := by decide +kernel
theorem dX5_held_29 : decode cX5_held 29 = .ok (.aaload, 1) := by decide +kernel
theorem dX5_held_30 : decode cX5_held 30 = .ok (.getfield 156, 3) := by decide +kernel
theorem dX5_held_33 : decode cX5_held 33 = .ok (.iload_n 2, 1) := by decide +kernel
theorem dX5_held_34 : decode cX5_held 34 = .ok (.iaload, 1) := by decide +kernel
theorem dX5_held_35 : decode cX5_held 35 = .ok (.ireturn, 1) := by decide +kernel
theorem dX5_frame_0 : decode cX5_frame 0 = .ok (.iload_n 1, 1) := by decide +kernel
theorem dX5_frame_1 : decode cX5_frame 1 = .ok (.invokestatic 71, 3) := by decide +kernel
theorem dX5_frame_4 : decode cX5_frame 4 = .ok (.ifCond .eq 12, 3) := by decide +kernel
theorem dX5_frame_7 : decode cX5_frame 7 = .ok (.iload_n 3, 1) := by decide +kernel
theorem dX5_frame_8 : decode cX5_frame 8 = .ok (.iconst 0, 1) := by decide +kernel
theorem dX5_frame_9 : decode cX5_frame 9 = .ok (.iconst 5, 1) := by decide +kernel
theorem dX5_frame_10 : decode cX5_frame 10 = .ok (.invokestatic 48, 3) := by decide +kernel
theorem dX5_frame_13 : decode cX5_frame 13 = .ok (.ifCond .ne 6, 3) := by decide +kernel
theorem dX5_frame_16 : decode cX5_frame 16 = .ok (.bipush (-2), 2) := by decide +kernel
theorem dX5_frame_18 : decode cX5_frame 18 = .ok (.ireturn, 1) := by decide +kernel
theorem dX5_frame_19 : decode cX5_frame 19 = .ok (.aload_n 0, 1) := by decide +kernel
theorem dX5_frame_20 : decode cX5_frame 20 = .ok (.getfield 19, 3) := by decide +kernel
theorem dX5_frame_23 : decode cX5_frame 23 = .ok (.getfield 74, 3) := by decide +kernel
theorem dX5_frame_26 : decode cX5_frame 26 = .ok (.iload_n 1, 1) := by decide +kernel
theorem dX5_frame_27 : decode cX5_frame 27 = .ok (.aaload, 1) := by decide +kernel
theorem dX5_frame_28 : decode cX5_frame 28 = .ok (.astore 4, 2) := by decide +kernel
theorem dX5_frame_30 : decode cX5_frame 30 = .ok (.aload 4, 2) := by decide +kernel
theorem dX5_frame_32 : decode cX5_frame 32 = .ok (.iload_n 2, 1) := by decide +kernel
theorem dX5_frame_33 : decode cX5_frame 33 = .ok (.invokevirtual 78, 3) := by decide +kernel
theorem dX5_frame_36 : decode cX5_frame 36 = .ok (.ifCond .ne 6, 3) := by decide +kernel
theorem dX5_frame_39 : decode cX5_frame 39 = .ok (.bipush (-6), 2) := by decide +kernel
theorem dX5_frame_41 : decode cX5_frame 41 = .ok (.ireturn, 1) := by decide +kernel
theorem dX5_frame_42 : decode cX5_frame 42 = .ok (.aload_n 0, 1) := by decide +kernel
theorem dX5_frame_43 : decode cX5_frame 43 = .ok (.invokevirtual 133, 3) := by decide +kernel
theorem dX5_frame_46 : decode cX5_frame 46 = .ok (.aload_n 0, 1) := by decide +kernel
theorem dX5_frame_47 : decode cX5_frame 47 = .ok (.getfield 33, 3) := by decide +kernel
theorem dX5_frame_50 : decode cX5_frame 50 = .ok (.getfield 152, 3) := by decide +kernel
theorem dX5_frame_53 : decode cX5_frame 53 = .ok (.iload_n 1, 1) := by decide +kernel
theorem dX5_frame_54 : decode cX5_frame 54 = .ok (.aaload, 1) := by decide +kernel
theorem dX5_frame_55 : decode cX5_frame 55 = .ok (.astore 5, 2) := by decide +kernel
theorem dX5_frame_57 : decode cX5_frame 57 = .ok (.iload_n 3, 1) := by decide +kernel
theorem dX5_frame_58 : decode cX5_frame 58 = .ok (.tableswitch 74 0 4 #[34, 42, 50, 58, 66], 34) := by decide +kernel
theorem dX5_frame_92 : decode cX5_frame 92 = .ok (.aload 4, 2) := by decide +kernel
theorem dX5_frame_94 : decode cX5_frame 94 = .ok (.getfield 100, 3) := by decide +kernel
theorem dX5_frame_97 : decode cX5_frame 97 = .ok (.iload_n 2, 1) := by decide +kernel
theorem dX5_frame_98 : decode cX5_frame 98 = .ok (.iaload, 1) := by decide +kernel
theorem dX5_frame_99 : decode cX5_frame 99 = .ok (.ireturn, 1) := by decide +kernel
theorem dX5_frame_100 : decode cX5_frame 100 = .ok (.aload 4, 2) := by decide +kernel
theorem dX5_frame_102 : decode cX5_frame 102 = .ok (.getfield 103, 3) := by decide +kernel
theorem dX5_frame_105 : decode cX5_frame 105 = .ok (.iload_n 2, 1) := by decide +kernel
theorem dX5_frame_106 : decode cX5_frame 106 = .ok (.iaload, 1) := by decide +kernel
theorem dX5_frame_107 : decode cX5_frame 107 = .ok (.ireturn, 1) := by decide +kernel
theorem dX5_frame_108 : decode cX5_frame 108 = .ok (.aload 5, 2) := by decide +kernel
theorem dX5_frame_110 : decode cX5_frame 110 = .ok (.getfield 161, 3) := by decide +kernel
theorem dX5_frame_113 : decode cX5_frame 113 = .ok (.iload_n 2, 1) := by decide +kernel
theorem dX5_frame_114 : decode cX5_frame 114 = .ok (.iaload, 1) := by decide +kernel
theorem dX5_frame_115 : decode cX5_frame 115 = .ok (.ireturn, 1) := by decide +kernel
theorem dX5_frame_116 : decode cX5_frame 116 = .ok (.aload 5, 2) := by decide +kernel
theorem dX5_frame_118 : decode cX5_frame 118 = .ok (.getfield 164, 3) := by decide +kernel
theorem dX5_frame_121 : decode cX5_frame 121 = .ok (.iload_n 2, 1) := by decide +kernel
theorem dX5_frame_122 : decode cX5_frame 122 = .ok (.iaload, 1) := by decide +kernel
theorem dX5_frame_123 : decode cX5_frame 123 = .ok (.ireturn, 1) := by decide +kernel
theorem dX5_frame_124 : decode cX5_frame 124 = .ok (.aload 5, 2) := by decide +kernel
theorem dX5_frame_126 : decode cX5_frame 126 = .ok (.getfield 167, 3) := by decide +kernel
theorem dX5_frame_129 : decode cX5_frame 129 = .ok (.iload_n 2, 1) := by decide +kernel
theorem dX5_frame_130 : decode cX5_frame 130 = .ok (.iaload, 1) := by decide +kernel
theorem dX5_frame_131 : decode cX5_frame 131 = .ok (.ireturn, 1) := by decide +kernel
theorem dX5_frame_132 : decode cX5_frame 132 = .ok (.aload 5, 2) := by decide +kernel
theorem dX5_frame_134 : decode cX5_frame 134 = .ok (.getfield 161, 3) := by decide +kernel
theorem dX5_frame_137 : decode cX5_frame 137 = .ok (.iload_n 2, 1) := by decide +kernel
theorem dX5_frame_138 : decode cX5_frame 138 = .ok (.iaload, 1) := by decide +kernel
theorem dX5_frame_139 : decode cX5_frame 139 = .ok (.aload 4, 2) := by decide +kernel
theorem dX5_frame_141 : decode cX5_frame 141 = .ok (.getfield 100, 3) := by decide +kernel
theorem dX5_frame_144 : decode cX5_frame 144 = .ok (.iload_n 2, 1) := by decide +kernel
theorem dX5_frame_145 : decode cX5_frame 145 = .ok (.iaload, 1) := by decide +kernel
theorem dX5_frame_146 : decode cX5_frame 146 = .ok (.if_icmp .ne 7, 3) := by decide +kernel
theorem dX5_frame_149 : decode cX5_frame 149 = .ok (.iconst 1, 1) := by decide +kernel
theorem dX5_frame_150 : decode cX5_frame 150 = .ok (.goto 4, 3) := by decide +kernel
theorem dX5_frame_153 : decode cX5_frame 153 = .ok (.iconst 0, 1) := by decide +kernel
theorem dX5_frame_154 : decode cX5_frame 154 = .ok (.ireturn, 1) := by decide +kernel
theorem dX5_sent_0 : decode cX5_sent 0 = .ok (.iload_n 1, 1) := by decide +kernel
theorem dX5_sent_1 : decode cX5_sent 1 = .ok (.iconst 0, 1) := by decide +kernel
theorem dX5_sent_2 : decode cX5_sent 2 = .ok (.bipush 7, 2) := by decide +kernel
theorem dX5_sent_4 : decode cX5_sent 4 = .ok (.invokestatic 48, 3) := by decide +kernel
theorem dX5_sent_7 : decode cX5_sent 7 = .ok (.ifCond .ne 6, 3) := by decide +kernel
theorem dX5_sent_10 : decode cX5_sent 10 = .ok (.bipush (-2), 2) := by decide +kernel
theorem dX5_sent_12 : decode cX5_sent 12 = .ok (.ireturn, 1) := by decide +kernel
theorem dX5_sent_13 : decode cX5_sent 13 = .ok (.aload_n 0, 1) := by decide +kernel
theorem dX5_sent_14 : decode cX5_sent 14 = .ok (.invokevirtual 133, 3) := by decide +kernel
theorem dX5_sent_17 : decode cX5_sent 17 = .ok (.iload_n 1, 1) := by decide +kernel
theorem dX5_sent_18 : decode cX5_sent 18 = .ok (.tableswitch 62 4 7 #[30, 38, 46, 54], 30) := by decide +kernel
theorem dX5_sent_48 : decode cX5_sent 48 = .ok (.aload_n 0, 1) := by decide +kernel
theorem dX5_sent_49 : decode cX5_sent 49 = .ok (.getfield 33, 3) := by decide +kernel
theorem dX5_sent_52 : decode cX5_sent 52 = .ok (.getfield 170, 3) := by decide +kernel
theorem dX5_sent_55 : decode cX5_sent 55 = .ok (.ireturn, 1) := by decide +kernel
theorem dX5_sent_56 : decode cX5_sent 56 = .ok (.aload_n 0, 1) := by decide +kernel
theorem dX5_sent_57 : decode cX5_sent 57 = .ok (.getfield 33, 3) := by decide +kernel
theorem dX5_sent_60 : decode cX5_sent 60 = .ok (.getfield 173, 3) := by decide +kernel
theorem dX5_sent_63 : decode cX5_sent 63 = .ok (.ireturn, 1) := by decide +kernel
theorem dX5_sent_64 : decode cX5_sent 64 = .ok (.aload_n 0, 1) := by decide +kernel
theorem dX5_sent_65 : decode cX5_sent 65 = .ok (.getfield 33, 3) := by decide +kernel
theorem dX5_sent_68 : decode cX5_sent 68 = .ok (.getfield 176, 3) := by decide +kernel
theorem dX5_sent_71 : decode cX5_sent 71 = .ok (.ireturn, 1) := by decide +kernel
theorem dX5_sent_72 : decode cX5_sent 72 = .ok (.aload_n 0, 1) := by decide +kernel
theorem dX5_sent_73 : decode cX5_sent 73 = .ok (.getfield 33, 3) := by decide +kernel
theorem dX5_sent_76 : decode cX5_sent 76 = .ok (.getfield 179, 3) := by decide +kernel
theorem dX5_sent_79 : decode cX5_sent 79 = .ok (.ireturn, 1) := by decide +kernel
theorem dX5_sent_80 : decode cX5_sent 80 = .ok (.aload_n 0, 1) := by decide +kernel
theorem dX5_sent_81 : decode cX5_sent 81 = .ok (.getfield 33, 3) := by decide +kernel
theorem dX5_sent_84 : decode cX5_sent 84 = .ok (.iload_n 1, 1) := by decide +kernel
theorem dX5_sent_85 : decode cX5_sent 85 = .ok (.invokevirtual 182, 3) := by decide +kernel
theorem dX5_sent_88 : decode cX5_sent 88 = .ok (.ireturn, 1) := by decide +kernel
theorem dX5_most_0 : decode cX5_most 0 = .ok (.iload_n 1, 1) := by decide +kernel
theorem dX5_most_1 : decode cX5_most 1 = .ok (.invokestatic 71, 3) := by decide +kernel
theorem dX5_most_4 : decode cX5_most 4 = .ok (.ifCond .ne 6, 3) := by decide +kernel
theorem dX5_most_7 : decode cX5_most 7 = .ok (.bipush (-2), 2) := by decide +kernel
theorem dX5_most_9 : decode cX5_most 9 = .ok (.ireturn, 1) := by decide +kernel
theorem dX5_most_10 : decode cX5_most 10 = .ok (.aload_n 0, 1) := by decide +kernel
theorem dX5_most_11 : decode cX5_most 11 = .ok (.invokevirtual 133, 3) := by decide +kernel
theorem dX5_most_14 : decode cX5_most 14 = .ok (.aload_n 0, 1) := by decide +kernel
theorem dX5_most_15 : decode cX5_most 15 = .ok (.getfield 33, 3) := by decide +kernel
theorem dX5_most_18 : decode cX5_most 18 = .ok (.getfield 152, 3) := by decide +kernel
theorem dX5_most_21 : decode cX5_most 21 = .ok (.iload_n 1, 1) := by decide +kernel
theorem dX5_most_22 : decode cX5_most 22 = .ok (.aaload, 1) := by decide +kernel
theorem dX5_most_23 : decode cX5_most 23 = .ok (.invokevirtual 186, 3) := by decide +kernel
theorem dX5_most_26 : decode cX5_most 26 = .ok (.ireturn, 1) := by decide +kernel
theorem dX5_needs_0 : decode cX5_needs 0 = .ok (.aload_n 0, 1) := by decide +kernel
theorem dX5_needs_1 : decode cX5_needs 1 = .ok (.getfield 23, 3) := by decide +kernel
theorem dX5_needs_4 : decode cX5_needs 4 = .ok (.aload_n 0, 1) := by decide +kernel
theorem dX5_needs_5 : decode cX5_needs 5 = .ok (.getfield 19, 3) := by decide +kernel
theorem dX5_needs_8 : decode cX5_needs 8 = .ok (.invokevirtual 189, 3) := by decide +kernel
theorem dX5_needs_11 : decode cX5_needs 11 = .ok (.iconst 1, 1) := by decide +kernel
theorem dX5_needs_12 : decode cX5_needs 12 = .ok (.istore_n 1, 1) := by decide +kernel
theorem dX5_needs_13 : decode cX5_needs 13 = .ok (.iload_n 1, 1) := by decide +kernel
theorem dX5_needs_14 : decode cX5_needs 14 = .ok (.iconst 4, 1) := by decide +kernel
theorem dX5_needs_15 : decode cX5_needs 15 = .ok (.if_icmp .gt 26, 3) := by decide +kernel
theorem dX5_needs_18 : decode cX5_needs 18 = .ok (.aload_n 0, 1) := by decide +kernel
theorem dX5_needs_19 : decode cX5_needs 19 = .ok (.getfield 23, 3) := by decide +kernel
theorem dX5_needs_22 : decode cX5_needs 22 = .ok (.iload_n 1, 1) := by decide +kernel
theorem dX5_needs_23 : decode cX5_needs 23 = .ok (.putfield 130, 3) := by decide +kernel
theorem dX5_needs_26 : decode cX5_needs 26 = .ok (.aload_n 0, 1) := by decide +kernel
theorem dX5_needs_27 : decode cX5_needs 27 = .ok (.invokevirtual 193, 3) := by decide +kernel
theorem dX5_needs_30 : decode cX5_needs 30 = .ok (.ifCond .eq 5, 3) := by decide +kernel
theorem dX5_needs_33 : decode cX5_needs 33 = .ok (.iload_n 1, 1) := by decide +kernel
theorem dX5_needs_34 : decode cX5_needs 34 = .ok (.ireturn, 1) := by decide +kernel
theorem dX5_needs_35 : decode cX5_needs 35 = .ok (.iinc 1 1, 3) := by decide +kernel
theorem dX5_needs_38 : decode cX5_needs 38 = .ok (.goto (-25), 3) := by decide +kernel
theorem dX5_needs_41 : decode cX5_needs 41 = .ok (.bipush (-6), 2) := by decide +kernel
theorem dX5_needs_43 : decode cX5_needs 43 = .ok (.ireturn, 1) := by decide +kernel
theorem dX5_room_0 : decode cX5_room 0 = .ok (.iload_n 1, 1) := by decide +kernel
theorem dX5_room_1 : decode cX5_room 1 = .ok (.invokestatic 71, 3) := by decide +kernel
theorem dX5_room_4 : decode cX5_room 4 = .ok (.ifCond .ne 6, 3) := by decide +kernel
theorem dX5_room_7 : decode cX5_room 7 = .ok (.bipush (-2), 2) := by decide +kernel
theorem dX5_room_9 : decode cX5_room 9 = .ok (.ireturn, 1) := by decide +kernel
theorem dX5_room_10 : decode cX5_room 10 = .ok (.aload_n 0, 1) := by decide +kernel
theorem dX5_room_11 : decode cX5_room 11 = .ok (.getfield 23, 3) := by decide +kernel
theorem dX5_room_14 : decode cX5_room 14 = .ok (.aload_n 0, 1) := by decide +kernel
theorem dX5_room_15 : decode cX5_room 15 = .ok (.getfield 19, 3) := by decide +kernel
theorem dX5_room_18 : decode cX5_room 18 = .ok (.invokevirtual 189, 3) := by decide +kernel
theorem dX5_room_21 : decode cX5_room 21 = .ok (.aload_n 0, 1) := by decide +kernel
theorem dX5_room_22 : decode cX5_room 22 = .ok (.getfield 23, 3) := by decide +kernel
theorem dX5_room_25 : decode cX5_room 25 = .ok (.getfield 74, 3) := by decide +kernel
theorem dX5_room_28 : decode cX5_room 28 = .ok (.iload_n 1, 1) := by decide +kernel
theorem dX5_room_29 : decode cX5_room 29 = .ok (.aaload, 1) := by decide +kernel
theorem dX5_room_30 : decode cX5_room 30 = .ok (.astore_n 2, 1) := by decide +kernel
theorem dX5_room_31 : decode cX5_room 31 = .ok (.iconst 1, 1) := by decide +kernel
theorem dX5_room_32 : decode cX5_room 32 = .ok (.bipush 40, 2) := by decide +kernel
theorem dX5_room_34 : decode cX5_room 34 = .ok (.aload_n 2, 1) := by decide +kernel
theorem dX5_room_35 : decode cX5_room 35 = .ok (.invokevirtual 124, 3) := by decide +kernel
theorem dX5_room_38 : decode cX5_room 38 = .ok (.invokestatic 197, 3) := by decide +kernel
theorem dX5_room_41 : decode cX5_room 41 = .ok (.invokestatic 202, 3) := by decide +kernel
theorem dX5_room_44 : decode cX5_room 44 = .ok (.istore_n 3, 1) := by decide +kernel
theorem dX5_room_45 : decode cX5_room 45 = .ok (.iconst 1, 1) := by decide +kernel
theorem dX5_room_46 : decode cX5_room 46 = .ok (.istore 4, 2) := by decide +kernel
theorem dX5_room_48 : decode cX5_room 48 = .ok (.iload 4, 2) := by decide +kernel
theorem dX5_room_50 : decode cX5_room 50 = .ok (.iload_n 3, 1) := by decide +kernel
theorem dX5_room_51 : decode cX5_room 51 = .ok (.if_icmp .gt 25, 3) := by decide +kernel
theorem dX5_room_54 : decode cX5_room 54 = .ok (.aload_n 2, 1) := by decide +kernel
theorem dX5_room_55 : decode cX5_room 55 = .ok (.iload 4, 2) := by decide +kernel
theorem dX5_room_57 : decode cX5_room 57 = .ok (.putfield 112, 3) := by decide +kernel
theorem dX5_room_60 : decode cX5_room 60 = .ok (.aload_n 0, 1) := by decide +kernel
theorem dX5_room_61 : decode cX5_room 61 = .ok (.invokevirtual 193, 3) := by decide +kernel
theorem dX5_room_64 : decode cX5_room 64 = .ok (.ifCond .eq 6, 3) := by decide +kernel
theorem dX5_room_67 : decode cX5_room 67 = .ok (.iload 4, 2) := by decide +kernel
theorem dX5_room_69 : decode cX5_room 69 = .ok (.ireturn, 1) := by decide +kernel
theorem dX5_room_70 : decode cX5_room 70 = .ok (.iinc 4 1, 3) := by decide +kernel
theorem dX5_room_73 : decode cX5_room 73 = .ok (.goto (-25), 3) := by decide +kernel
theorem dX5_room_76 : decode cX5_room 76 = .ok (.bipush (-6), 2) := by decide +kernel
theorem dX5_room_78 : decode cX5_room 78 = .ok (.ireturn, 1) := by decide +kernel
theorem dX5_without_0 : decode cX5_without 0 = .ok (.iload_n 1, 1) := by decide +kernel
theorem dX5_without_1 : decode cX5_without 1 = .ok (.invokestatic 71, 3) := by decide +kernel
theorem dX5_without_4 : decode cX5_without 4 = .ok (.ifCond .ne 6, 3) := by decide +kernel
theorem dX5_without_7 : decode cX5_without 7 = .ok (.bipush (-2), 2) := by decide +kernel
theorem dX5_without_9 : decode cX5_without 9 = .ok (.ireturn, 1) := by decide +kernel
theorem dX5_without_10 : decode cX5_without 10 = .ok (.aload_n 0, 1) := by decide +kernel
theorem dX5_without_11 : decode cX5_without 11 = .ok (.getfield 23, 3) := by decide +kernel
theorem dX5_without_14 : decode cX5_without 14 = .ok (.aload_n 0, 1) := by decide +kernel
theorem dX5_without_15 : decode cX5_without 15 = .ok (.getfield 19, 3) := by decide +kernel
theorem dX5_without_18 : decode cX5_without 18 = .ok (.invokevirtual 189, 3) := by decide +kernel
theorem dX5_without_21 : decode cX5_without 21 = .ok (.aload_n 0, 1) := by decide +kernel
theorem dX5_without_22 : decode cX5_without 22 = .ok (.getfield 23, 3) := by decide +kernel
theorem dX5_without_25 : decode cX5_without 25 = .ok (.getfield 74, 3) := by decide +kernel
theorem dX5_without_28 : decode cX5_without 28 = .ok (.iload_n 1, 1) := by decide +kernel
theorem dX5_without_29 : decode cX5_without 29 = .ok (.aaload, 1) := by decide +kernel
theorem dX5_without_30 : decode cX5_without 30 = .ok (.iconst 0, 1) := by decide +kernel
theorem dX5_without_31 : decode cX5_without 31 = .ok (.putfield 118, 3) := by decide +kernel
theorem dX5_without_34 : decode cX5_without 34 = .ok (.aload_n 0, 1) := by decide +kernel
theorem dX5_without_35 : decode cX5_without 35 = .ok (.getfield 23, 3) := by decide +kernel
theorem dX5_without_38 : decode cX5_without 38 = .ok (.getfield 74, 3) := by decide +kernel
theorem dX5_without_41 : decode cX5_without 41 = .ok (.iload_n 1, 1) := by decide +kernel
theorem dX5_without_42 : decode cX5_without 42 = .ok (.aaload, 1) := by decide +kernel
theorem dX5_without_43 : decode cX5_without 43 = .ok (.iconst 0, 1) := by decide +kernel
theorem dX5_without_44 : decode cX5_without 44 = .ok (.putfield 115, 3) := by decide +kernel
theorem dX5_without_47 : decode cX5_without 47 = .ok (.aload_n 0, 1) := by decide +kernel
theorem dX5_without_48 : decode cX5_without 48 = .ok (.iconst 0, 1) := by decide +kernel
theorem dX5_without_49 : decode cX5_without 49 = .ok (.putfield 44, 3) := by decide +kernel
theorem dX5_without_52 : decode cX5_without 52 = .ok (.aload_n 0, 1) := by decide +kernel
theorem dX5_without_53 : decode cX5_without 53 = .ok (.getfield 33, 3) := by decide +kernel
theorem dX5_without_56 : decode cX5_without 56 = .ok (.aload_n 0, 1) := by decide +kernel
theorem dX5_without_57 : decode cX5_without 57 = .ok (.getfield 23, 3) := by decide +kernel
theorem dX5_without_60 : decode cX5_without 60 = .ok (.invokevirtual 205, 3) := by decide +kernel
theorem dX5_without_63 : decode cX5_without 63 = .ok (.aload_n 0, 1) := by decide +kernel
theorem dX5_without_64 : decode cX5_without 64 = .ok (.getfield 33, 3) := by decide +kernel
theorem dX5_without_67 : decode cX5_without 67 = .ok (.getfield 173, 3) := by decide +kernel
theorem dX5_without_70 : decode cX5_without 70 = .ok (.ireturn, 1) := by decide +kernel
theorem dX5_image_0 : decode cX5_image 0 = .ok (.iload_n 1, 1) := by decide +kernel
theorem dX5_image_1 : decode cX5_image 1 = .ok (.iconst 0, 1) := by decide +kernel
theorem dX5_image_2 : decode cX5_image 2 = .ok (.iconst 1, 1) := by decide +kernel
theorem dX5_image_3 : decode cX5_image 3 = .ok (.invokestatic 48, 3) := by decide +kernel
theorem dX5_image_6 : decode cX5_image 6 = .ok (.ifCond .ne 6, 3) := by decide +kernel
theorem dX5_image_9 : decode cX5_image 9 = .ok (.bipush (-2), 2) := by decide +kernel
theorem dX5_image_11 : decode cX5_image 11 = .ok (.ireturn, 1) := by decide +kernel
theorem dX5_image_12 : decode cX5_image 12 = .ok (.aload_n 0, 1) := by decide +kernel
theorem dX5_image_13 : decode cX5_image 13 = .ok (.getfield 26, 3) := by decide +kernel
theorem dX5_image_16 : decode cX5_image 16 = .ok (.iload_n 1, 1) := by decide +kernel
theorem dX5_image_17 : decode cX5_image 17 = .ok (.aaload, 1) := by decide +kernel
theorem dX5_image_18 : decode cX5_image 18 = .ok (.aload_n 0, 1) := by decide +kernel
theorem dX5_image_19 : decode cX5_image 19 = .ok (.getfield 19, 3) := by decide +kernel
theorem dX5_image_22 : decode cX5_image 22 = .ok (.invokevirtual 189, 3) := by decide +kernel
theorem dX5_image_25 : decode cX5_image 25 = .ok (.aload_n 0, 1) := by decide +kernel
theorem dX5_image_26 : decode cX5_image 26 = .ok (.dup, 1) := by decide +kernel
theorem dX5_image_27 : decode cX5_image 27 = .ok (.getfield 37, 3) := by decide +kernel
theorem dX5_image_30 : decode cX5_image 30 = .ok (.iconst 1, 1) := by decide +kernel
theorem dX5_image_31 : decode cX5_image 31 = .ok (.iload_n 1, 1) := by decide +kernel
theorem dX5_image_32 : decode cX5_image 32 = .ok (.ishl, 1) := by decide +kernel
theorem dX5_image_33 : decode cX5_image 33 = .ok (.ior, 1) := by decide +kernel
theorem dX5_image_34 : decode cX5_image 34 = .ok (.putfield 37, 3) := by decide +kernel
theorem dX5_image_37 : decode cX5_image 37 = .ok (.iconst 1, 1) := by decide +kernel
theorem dX5_image_38 : decode cX5_image 38 = .ok (.ireturn, 1) := by decide +kernel
theorem dX5_restore_0 : decode cX5_restore 0 = .ok (.iload_n 1, 1) := by decide +kernel
theorem dX5_restore_1 : decode cX5_restore 1 = .ok (.iconst 0, 1) := by decide +kernel
theorem dX5_restore_2 : decode cX5_restore 2 = .ok (.iconst 1, 1) := by decide +kernel
theorem dX5_restore_3 : decode cX5_restore 3 = .ok (.invokestatic 48, 3) := by decide +kernel
theorem dX5_restore_6 : decode cX5_restore 6 = .ok (.ifCond .ne 6, 3) := by decide +kernel
theorem dX5_restore_9 : decode cX5_restore 9 = .ok (.bipush (-2), 2) := by decide +kernel
theorem dX5_restore_11 : decode cX5_restore 11 = .ok (.ireturn, 1) := by decide +kernel
theorem dX5_restore_12 : decode cX5_restore 12 = .ok (.aload_n 0, 1) := by decide +kernel
theorem dX5_restore_13 : decode cX5_restore 13 = .ok (.getfield 37, 3) := by decide +kernel
theorem dX5_restore_16 : decode cX5_restore 16 = .ok (.iconst 1, 1) := by decide +kernel
theorem dX5_restore_17 : decode cX5_restore 17 = .ok (.iload_n 1, 1) := by decide +kernel
theorem dX5_restore_18 : decode cX5_restore 18 = .ok (.ishl, 1) := by decide +kernel
theorem dX5_restore_19 : decode cX5_restore 19 = .ok (.iand, 1) := by decide +kernel
theorem dX5_restore_20 : decode cX5_restore 20 = .ok (.ifCond .ne 6, 3) := by decide +kernel
theorem dX5_restore_23 : decode cX5_restore 23 = .ok (.bipush (-3), 2) := by decide +kernel
theorem dX5_restore_25 : decode cX5_restore 25 = .ok (.ireturn, 1) := by decide +kernel
theorem dX5_restore_26 : decode cX5_restore 26 = .ok (.aload_n 0, 1) := by decide +kernel
theorem dX5_restore_27 : decode cX5_restore 27 = .ok (.getfield 19, 3) := by decide +kernel
theorem dX5_restore_30 : decode cX5_restore 30 = .ok (.aload_n 0, 1) := by decide +kernel
theorem dX5_restore_31 : decode cX5_restore 31 = .ok (.getfield 26, 3) := by decide +kernel
theorem dX5_restore_34 : decode cX5_restore 34 = .ok (.iload_n 1, 1) := by decide +kernel
theorem dX5_restore_35 : decode cX5_restore 35 = .ok (.aaload, 1) := by decide +kernel
theorem dX5_restore_36 : decode cX5_restore 36 = .ok (.invokevirtual 189, 3) := by decide +kernel
theorem dX5_restore_39 : decode cX5_restore 39 = .ok (.aload_n 0, 1) := by decide +kernel
theorem dX5_restore_40 : decode cX5_restore 40 = .ok (.iconst 0, 1) := by decide +kernel
theorem dX5_restore_41 : decode cX5_restore 41 = .ok (.putfield 44, 3) := by decide +kernel
theorem dX5_restore_44 : decode cX5_restore 44 = .ok (.iconst 1, 1) := by decide +kernel
theorem dX5_restore_45 : decode cX5_restore 45 = .ok (.ireturn, 1) := by decide +kernel
theorem dX5_count_0 : decode cX5_count 0 = .ok (.iload_n 1, 1) := by decide +kernel
theorem dX5_count_1 : decode cX5_count 1 = .ok (.tableswitch 81 0 5 #[39, 47, 55, 63, 71, 76], 39) := by decide +kernel
theorem dX5_count_40 : decode cX5_count 40 = .ok (.aload_n 0, 1) := by decide +kernel
theorem dX5_count_41 : decode cX5_count 41 = .ok (.getfield 19, 3) := by decide +kernel
theorem dX5_count_44 : decode cX5_count 44 = .ok (.getfield 130, 3) := by decide +kernel
theorem dX5_count_47 : decode cX5_count 47 = .ok (.ireturn, 1) := by decide +kernel
theorem dX5_count_48 : decode cX5_count 48 = .ok (.aload_n 0, 1) := by decide +kernel
theorem dX5_count_49 : decode cX5_count 49 = .ok (.getfield 19, 3) := by decide +kernel
theorem dX5_count_52 : decode cX5_count 52 = .ok (.getfield 208, 3) := by decide +kernel
theorem dX5_count_55 : decode cX5_count 55 = .ok (.ireturn, 1) := by decide +kernel
theorem dX5_count_56 : decode cX5_count 56 = .ok (.aload_n 0, 1) := by decide +kernel
theorem dX5_count_57 : decode cX5_count 57 = .ok (.getfield 19, 3) := by decide +kernel
theorem dX5_count_60 : decode cX5_count 60 = .ok (.invokevirtual 211, 3) := by decide +kernel
theorem dX5_count_63 : decode cX5_count 63 = .ok (.ireturn, 1) := by decide +kernel
theorem dX5_count_64 : decode cX5_count 64 = .ok (.aload_n 0, 1) := by decide +kernel
theorem dX5_count_65 : decode cX5_count 65 = .ok (.getfield 10, 3) := by decide +kernel
theorem dX5_count_68 : decode cX5_count 68 = .ok (.getfield 56, 3) := by decide +kernel
theorem dX5_count_71 : decode cX5_count 71 = .ok (.ireturn, 1) := by decide +kernel
theorem dX5_count_72 : decode cX5_count 72 = .ok (.aload_n 0, 1) := by decide +kernel
theorem dX5_count_73 : decode cX5_count 73 = .ok (.getfield 41, 3) := by decide +kernel
theorem dX5_count_76 : decode cX5_count 76 = .ok (.ireturn, 1) := by decide +kernel
theorem dX5_count_77 : decode cX5_count 77 = .ok (.aload_n 0, 1) := by decide +kernel
theorem dX5_count_78 : decode cX5_count 78 = .ok (.getfield 37, 3) := by decide +kernel
theorem dX5_count_81 : decode cX5_count 81 = .ok (.ireturn, 1) := by decide +kernel
theorem dX5_count_82 : decode cX5_count 82 = .ok (.bipush (-2), 2) := by decide +kernel
theorem dX5_count_84 : decode cX5_count 84 = .ok (.ireturn, 1) := by decide +kernel
theorem dX5_obey_0 : decode cX5_obey 0 = .ok (.aload_n 1, 1) := by decide +kernel
theorem dX5_obey_1 : decode cX5_obey 1 = .ok (.iconst 0, 1) := by decide +kernel
theorem dX5_obey_2 : decode cX5_obey 2 = .ok (.iaload, 1) := by decide +kernel
theorem dX5_obey_3 : decode cX5_obey 3 = .ok (.istore_n 2, 1) := by decide +kernel
theorem dX5_obey_4 : decode cX5_obey 4 = .ok (.aload_n 1, 1) := by decide +kernel
theorem dX5_obey_5 : decode cX5_obey 5 = .ok (.iconst 1, 1) := by decide +kernel
theorem dX5_obey_6 : decode cX5_obey 6 = .ok (.iaload, 1) := by decide +kernel
theorem dX5_obey_7 : decode cX5_obey 7 = .ok (.istore_n 3, 1) := by decide +kernel
theorem dX5_obey_8 : decode cX5_obey 8 = .ok (.aload_n 1, 1) := by decide +kernel
theorem dX5_obey_9 : decode cX5_obey 9 = .ok (.iconst 2, 1) := by decide +kernel
theorem dX5_obey_10 : decode cX5_obey 10 = .ok (.iaload, 1) := by decide +kernel
theorem dX5_obey_11 : decode cX5_obey 11 = .ok (.istore 4, 2) := by decide +kernel
theorem dX5_obey_13 : decode cX5_obey 13 = .ok (.aload_n 0, 1) := by decide +kernel
theorem dX5_obey_14 : decode cX5_obey 14 = .ok (.getfield 10, 3) := by decide +kernel
theorem dX5_obey_17 : decode cX5_obey 17 = .ok (.getfield 214, 3) := by decide +kernel
theorem dX5_obey_20 : decode cX5_obey 20 = .ok (.tableswitch 81 0 5 #[40, 49, 56, 63, 69, 75], 40) := by decide +kernel
theorem dX5_obey_60 : decode cX5_obey 60 = .ok (.aload_n 0, 1) := by decide +kernel
theorem dX5_obey_61 : decode cX5_obey 61 = .ok (.iload_n 2, 1) := by decide +kernel
theorem dX5_obey_62 : decode cX5_obey 62 = .ok (.iload_n 3, 1) := by decide +kernel
theorem dX5_obey_63 : decode cX5_obey 63 = .ok (.iload 4, 2) := by decide +kernel
theorem dX5_obey_65 : decode cX5_obey 65 = .ok (.invokevirtual 217, 3) := by decide +kernel
theorem dX5_obey_68 : decode cX5_obey 68 = .ok (.ireturn, 1) := by decide +kernel
theorem dX5_obey_69 : decode cX5_obey 69 = .ok (.aload_n 0, 1) := by decide +kernel
theorem dX5_obey_70 : decode cX5_obey 70 = .ok (.iload_n 2, 1) := by decide +kernel
theorem dX5_obey_71 : decode cX5_obey 71 = .ok (.iload_n 3, 1) := by decide +kernel
theorem dX5_obey_72 : decode cX5_obey 72 = .ok (.invokevirtual 221, 3) := by decide +kernel
theorem dX5_obey_75 : decode cX5_obey 75 = .ok (.ireturn, 1) := by decide +kernel
theorem dX5_obey_76 : decode cX5_obey 76 = .ok (.aload_n 0, 1) := by decide +kernel
theorem dX5_obey_77 : decode cX5_obey 77 = .ok (.iload_n 2, 1) := by decide +kernel
theorem dX5_obey_78 : decode cX5_obey 78 = .ok (.iload_n 3, 1) := by decide +kernel
theorem dX5_obey_79 : decode cX5_obey 79 = .ok (.invokevirtual 224, 3) := by decide +kernel
theorem dX5_obey_82 : decode cX5_obey 82 = .ok (.ireturn, 1) := by decide +kernel
theorem dX5_obey_83 : decode cX5_obey 83 = .ok (.aload_n 0, 1) := by decide +kernel
theorem dX5_obey_84 : decode cX5_obey 84 = .ok (.iload_n 2, 1) := by decide +kernel
theorem dX5_obey_85 : decode cX5_obey 85 = .ok (.invokevirtual 227, 3) := by decide +kernel
theorem dX5_obey_88 : decode cX5_obey 88 = .ok (.ireturn, 1) := by decide +kernel
theorem dX5_obey_89 : decode cX5_obey 89 = .ok (.aload_n 0, 1) := by decide +kernel
theorem dX5_obey_90 : decode cX5_obey 90 = .ok (.iload_n 2, 1) := by decide +kernel
theorem dX5_obey_91 : decode cX5_obey 91 = .ok (.invokevirtual 230, 3) := by decide +kernel
theorem dX5_obey_94 : decode cX5_obey 94 = .ok (.ireturn, 1) := by decide +kernel
theorem dX5_obey_95 : decode cX5_obey 95 = .ok (.aload_n 0, 1) := by decide +kernel
theorem dX5_obey_96 : decode cX5_obey 96 = .ok (.iload_n 2, 1) := by decide +kernel
theorem dX5_obey_97 : decode cX5_obey 97 = .ok (.invokevirtual 233, 3) := by decide +kernel
theorem dX5_obey_100 : decode cX5_obey 100 = .ok (.ireturn, 1) := by decide +kernel
theorem dX5_obey_101 : decode cX5_obey 101 = .ok (.aload_n 0, 1) := by decide +kernel
theorem dX5_obey_102 : decode cX5_obey 102 = .ok (.iload_n 2, 1) := by decide +kernel
theorem dX5_obey_103 : decode cX5_obey 103 = .ok (.iload_n 3, 1) := by decide +kernel
theorem dX5_obey_104 : decode cX5_obey 104 = .ok (.iload 4, 2) := by decide +kernel
theorem dX5_obey_106 : decode cX5_obey 106 = .ok (.invokevirtual 236, 3) := by decide +kernel
theorem dX5_obey_109 : decode cX5_obey 109 = .ok (.ireturn, 1) := by decide +kernel
theorem dX5_addFrame_0 : decode cX5_addFrame 0 = .ok (.iload_n 1, 1) := by decide +kernel
theorem dX5_addFrame_1 : decode cX5_addFrame 1 = .ok (.invokestatic 71, 3) := by decide +kernel
theorem dX5_addFrame_4 : decode cX5_addFrame 4 = .ok (.ifCond .eq 20, 3) := by decide +kernel
theorem dX5_addFrame_7 : decode cX5_addFrame 7 = .ok (.iload_n 2, 1) := by decide +kernel
theorem dX5_addFrame_8 : decode cX5_addFrame 8 = .ok (.iconst 1, 1) := by decide +kernel
theorem dX5_addFrame_9 : decode cX5_addFrame 9 = .ok (.bipush 9, 2) := by decide +kernel
theorem dX5_addFrame_11 : decode cX5_addFrame 11 = .ok (.invokestatic 48, 3) := by decide +kernel
theorem dX5_addFrame_14 : decode cX5_addFrame 14 = .ok (.ifCond .eq 10, 3) := by decide +kernel
theorem dX5_addFrame_17 : decode cX5_addFrame 17 = .ok (.iload_n 3, 1) := by decide +kernel
theorem dX5_addFrame_18 : decode cX5_addFrame 18 = .ok (.invokestatic 239, 3) := by decide +kernel
theorem dX5_addFrame_21 : decode cX5_addFrame 21 = .ok (.ifCond .ne 6, 3) := by decide +kernel
theorem dX5_addFrame_24 : decode cX5_addFrame 24 = .ok (.bipush (-2), 2) := by decide +kernel
theorem dX5_addFrame_26 : decode cX5_addFrame 26 = .ok (.ireturn, 1) := by decide +kernel
theorem dX5_addFrame_27 : decode cX5_addFrame 27 = .ok (.aload_n 0, 1) := by decide +kernel
theorem dX5_addFrame_28 : decode cX5_addFrame 28 = .ok (.getfield 19, 3) := by decide +kernel
theorem dX5_addFrame_31 : decode cX5_addFrame 31 = .ok (.getfield 74, 3) := by decide +kernel
theorem dX5_addFrame_34 : decode cX5_addFrame 34 = .ok (.iload_n 1, 1) := by decide +kernel
theorem dX5_addFrame_35 : decode cX5_addFrame 35 = .ok (.aaload, 1) := by decide +kernel
theorem dX5_addFrame_36 : decode cX5_addFrame 36 = .ok (.astore 4, 2) := by decide +kernel
theorem dX5_addFrame_38 : decode cX5_addFrame 38 = .ok (.iload_n 3, 1) := by decide +kernel
theorem dX5_addFrame_39 : decode cX5_addFrame 39 = .ok (.aload 4, 2) := by decide +kernel
theorem dX5_addFrame_41 : decode cX5_addFrame 41 = .ok (.invokevirtual 121, 3) := by decide +kernel
theorem dX5_addFrame_44 : decode cX5_addFrame 44 = .ok (.if_icmp .gt 6, 3) := by decide +kernel
theorem dX5_addFrame_47 : decode cX5_addFrame 47 = .ok (.bipush (-3), 2) := by decide +kernel
theorem dX5_addFrame_49 : decode cX5_addFrame 49 = .ok (.ireturn, 1) := by decide +kernel
theorem dX5_addFrame_50 : decode cX5_addFrame 50 = .ok (.aload 4, 2) := by decide +kernel
theorem dX5_addFrame_52 : decode cX5_addFrame 52 = .ok (.iload_n 2, 1) := by decide +kernel
theorem dX5_addFrame_53 : decode cX5_addFrame 53 = .ok (.iload_n 3, 1) := by decide +kernel
theorem dX5_addFrame_54 : decode cX5_addFrame 54 = .ok (.invokevirtual 242, 3) := by decide +kernel
theorem dX5_addFrame_57 : decode cX5_addFrame 57 = .ok (.ifCond .eq 13, 3) := by decide +kernel
theorem dX5_addFrame_60 : decode cX5_addFrame 60 = .ok (.aload 4, 2) := by decide +kernel
theorem dX5_addFrame_62 : decode cX5_addFrame 62 = .ok (.getfield 118, 3) := by decide +kernel
theorem dX5_addFrame_65 : decode cX5_addFrame 65 = .ok (.iconst 1, 1) := by decide +kernel
theorem dX5_addFrame_66 : decode cX5_addFrame 66 = .ok (.isub, 1) := by decide +kernel
theorem dX5_addFrame_67 : decode cX5_addFrame 67 = .ok (.goto 5, 3) := by decide +kernel
theorem dX5_addFrame_70 : decode cX5_addFrame 70 = .ok (.bipush (-4), 2) := by decide +kernel
theorem dX5_addFrame_72 : decode cX5_addFrame 72 = .ok (.ireturn, 1) := by decide +kernel
theorem dX5_setRoom_0 : decode cX5_setRoom 0 = .ok (.iload_n 1, 1) := by decide +kernel
theorem dX5_setRoom_1 : decode cX5_setRoom 1 = .ok (.invokestatic 71, 3) := by decide +kernel
theorem dX5_setRoom_4 : decode cX5_setRoom 4 = .ok (.ifCond .eq 13, 3) := by decide +kernel
theorem dX5_setRoom_7 : decode cX5_setRoom 7 = .ok (.iload_n 2, 1) := by decide +kernel
theorem dX5_setRoom_8 : decode cX5_setRoom 8 = .ok (.iconst 1, 1) := by decide +kernel
theorem dX5_setRoom_9 : decode cX5_setRoom 9 = .ok (.bipush 40, 2) := by decide +kernel
theorem dX5_setRoom_11 : decode cX5_setRoom 11 = .ok (.invokestatic 48, 3) := by decide +kernel
theorem dX5_setRoom_14 : decode cX5_setRoom 14 = .ok (.ifCond .ne 6, 3) := by decide +kernel
theorem dX5_setRoom_17 : decode cX5_setRoom 17 = .ok (.bipush (-2), 2) := by decide +kernel
theorem dX5_setRoom_19 : decode cX5_setRoom 19 = .ok (.ireturn, 1) := by decide +kernel
theorem dX5_setRoom_20 : decode cX5_setRoom 20 = .ok (.aload_n 0, 1) := by decide +kernel
theorem dX5_setRoom_21 : decode cX5_setRoom 21 = .ok (.getfield 19, 3) := by decide +kernel
theorem dX5_setRoom_24 : decode cX5_setRoom 24 = .ok (.getfield 74, 3) := by decide +kernel
theorem dX5_setRoom_27 : decode cX5_setRoom 27 = .ok (.iload_n 1, 1) := by decide +kernel
theorem dX5_setRoom_28 : decode cX5_setRoom 28 = .ok (.aaload, 1) := by decide +kernel
theorem dX5_setRoom_29 : decode cX5_setRoom 29 = .ok (.getfield 112, 3) := by decide +kernel
theorem dX5_setRoom_32 : decode cX5_setRoom 32 = .ok (.istore_n 3, 1) := by decide +kernel
theorem dX5_setRoom_33 : decode cX5_setRoom 33 = .ok (.aload_n 0, 1) := by decide +kernel
theorem dX5_setRoom_34 : decode cX5_setRoom 34 = .ok (.getfield 19, 3) := by decide +kernel
theorem dX5_setRoom_37 : decode cX5_setRoom 37 = .ok (.getfield 74, 3) := by decide +kernel
theorem dX5_setRoom_40 : decode cX5_setRoom 40 = .ok (.iload_n 1, 1) := by decide +kernel
theorem dX5_setRoom_41 : decode cX5_setRoom 41 = .ok (.aaload, 1) := by decide +kernel
theorem dX5_setRoom_42 : decode cX5_setRoom 42 = .ok (.iload_n 2, 1) := by decide +kernel
theorem dX5_setRoom_43 : decode cX5_setRoom 43 = .ok (.putfield 112, 3) := by decide +kernel
theorem dX5_setRoom_46 : decode cX5_setRoom 46 = .ok (.iload_n 3, 1) := by decide +kernel
theorem dX5_setRoom_47 : decode cX5_setRoom 47 = .ok (.ireturn, 1) := by decide +kernel
theorem dX5_setClock_0 : decode cX5_setClock 0 = .ok (.iload_n 1, 1) := by decide +kernel
theorem dX5_setClock_1 : decode cX5_setClock 1 = .ok (.invokestatic 71, 3) := by decide +kernel
theorem dX5_setClock_4 : decode cX5_setClock 4 = .ok (.ifCond .eq 13, 3) := by decide +kernel
theorem dX5_setClock_7 : decode cX5_setClock 7 = .ok (.iload_n 2, 1) := by decide +kernel
theorem dX5_setClock_8 : decode cX5_setClock 8 = .ok (.iconst 0, 1) := by decide +kernel
theorem dX5_setClock_9 : decode cX5_setClock 9 = .ok (.bipush 50, 2) := by decide +kernel
theorem dX5_setClock_11 : decode cX5_setClock 11 = .ok (.invokestatic 48, 3) := by decide +kernel
theorem dX5_setClock_14 : decode cX5_setClock 14 = .ok (.ifCond .ne 6, 3) := by decide +kernel
theorem dX5_setClock_17 : decode cX5_setClock 17 = .ok (.bipush (-2), 2) := by decide +kernel
theorem dX5_setClock_19 : decode cX5_setClock 19 = .ok (.ireturn, 1) := by decide +kernel
theorem dX5_setClock_20 : decode cX5_setClock 20 = .ok (.aload_n 0, 1) := by decide +kernel
theorem dX5_setClock_21 : decode cX5_setClock 21 = .ok (.getfield 19, 3) := by decide +kernel
theorem dX5_setClock_24 : decode cX5_setClock 24 = .ok (.getfield 74, 3) := by decide +kernel
theorem dX5_setClock_27 : decode cX5_setClock 27 = .ok (.iload_n 1, 1) := by decide +kernel
theorem dX5_setClock_28 : decode cX5_setClock 28 = .ok (.aaload, 1) := by decide +kernel
theorem dX5_setClock_29 : decode cX5_setClock 29 = .ok (.getfield 115, 3) := by decide +kernel
theorem dX5_setClock_32 : decode cX5_setClock 32 = .ok (.istore_n 3, 1) := by decide +kernel
theorem dX5_setClock_33 : decode cX5_setClock 33 = .ok (.aload_n 0, 1) := by decide +kernel
theorem dX5_setClock_34 : decode cX5_setClock 34 = .ok (.getfield 19, 3) := by decide +kernel
theorem dX5_setClock_37 : decode cX5_setClock 37 = .ok (.getfield 74, 3) := by decide +kernel
theorem dX5_setClock_40 : decode cX5_setClock 40 = .ok (.iload_n 1, 1) := by decide +kernel
theorem dX5_setClock_41 : decode cX5_setClock 41 = .ok (.aaload, 1) := by decide +kernel
theorem dX5_setClock_42 : decode cX5_setClock 42 = .ok (.iload_n 2, 1) := by decide +kernel
theorem dX5_setClock_43 : decode cX5_setClock 43 = .ok (.putfield 115, 3) := by decide +kernel
theorem dX5_setClock_46 : decode cX5_setClock 46 = .ok (.iload_n 3, 1) := by decide +kernel
theorem dX5_setClock_47 : decode cX5_setClock 47 = .ok (.ireturn, 1) := by decide +kernel
theorem dX5_setTable_0 : decode cX5_setTable 0 = .ok (.iload_n 1, 1) := by decide +kernel
theorem dX5_setTable_1 : decode cX5_setTable 1 = .ok (.iconst 0, 1) := by decide +kernel
theorem dX5_setTable_2 : decode cX5_setTable 2 = .ok (.bipush 50, 2) := by decide +kernel
theorem dX5_setTable_4 : decode cX5_setTable 4 = .ok (.invokestatic 48, 3) := by decide +kernel
theorem dX5_setTable_7 : decode cX5_setTable 7 = .ok (.ifCond .ne 6, 3) := by decide +kernel
theorem dX5_setTable_10 : decode cX5_setTable 10 = .ok (.bipush (-2), 2) := by decide +kernel
theorem dX5_setTable_12 : decode cX5_setTable 12 = .ok (.ireturn, 1) := by decide +kernel
theorem dX5_setTable_13 : decode cX5_setTable 13 = .ok (.aload_n 0, 1) := by decide +kernel
theorem dX5_setTable_14 : decode cX5_setTable 14 = .ok (.getfield 19, 3) := by decide +kernel
theorem dX5_setTable_17 : decode cX5_setTable 17 = .ok (.getfield 208, 3) := by decide +kernel
theorem dX5_setTable_20 : decode cX5_setTable 20 = .ok (.istore_n 2, 1) := by decide +kernel
theorem dX5_setTable_21 : decode cX5_setTable 21 = .ok (.aload_n 0, 1) := by decide +kernel
theorem dX5_setTable_22 : decode cX5_setTable 22 = .ok (.getfield 19, 3) := by decide +kernel
theorem dX5_setTable_25 : decode cX5_setTable 25 = .ok (.iload_n 1, 1) := by decide +kernel
theorem dX5_setTable_26 : decode cX5_setTable 26 = .ok (.putfield 208, 3) := by decide +kernel
theorem dX5_setTable_29 : decode cX5_setTable 29 = .ok (.iload_n 2, 1) := by decide +kernel
theorem dX5_setTable_30 : decode cX5_setTable 30 = .ok (.ireturn, 1) := by decide +kernel
theorem dX5_setWide_0 : decode cX5_setWide 0 = .ok (.iload_n 1, 1) := by decide +kernel
theorem dX5_setWide_1 : decode cX5_setWide 1 = .ok (.iconst 1, 1) := by decide +kernel
theorem dX5_setWide_2 : decode cX5_setWide 2 = .ok (.iconst 4, 1) := by decide +kernel
theorem dX5_setWide_3 : decode cX5_setWide 3 = .ok (.invokestatic 48, 3) := by decide +kernel
theorem dX5_setWide_6 : decode cX5_setWide 6 = .ok (.ifCond .ne 6, 3) := by decide +kernel
theorem dX5_setWide_9 : decode cX5_setWide 9 = .ok (.bipush (-2), 2) := by decide +kernel
theorem dX5_setWide_11 : decode cX5_setWide 11 = .ok (.ireturn, 1) := by decide +kernel
theorem dX5_setWide_12 : decode cX5_setWide 12 = .ok (.aload_n 0, 1) := by decide +kernel
theorem dX5_setWide_13 : decode cX5_setWide 13 = .ok (.getfield 19, 3) := by decide +kernel
theorem dX5_setWide_16 : decode cX5_setWide 16 = .ok (.getfield 130, 3) := by decide +kernel
theorem dX5_setWide_19 : decode cX5_setWide 19 = .ok (.istore_n 2, 1) := by decide +kernel
theorem dX5_setWide_20 : decode cX5_setWide 20 = .ok (.aload_n 0, 1) := by decide +kernel
theorem dX5_setWide_21 : decode cX5_setWide 21 = .ok (.getfield 19, 3) := by decide +kernel
theorem dX5_setWide_24 : decode cX5_setWide 24 = .ok (.iload_n 1, 1) := by decide +kernel
theorem dX5_setWide_25 : decode cX5_setWide 25 = .ok (.putfield 130, 3) := by decide +kernel
theorem dX5_setWide_28 : decode cX5_setWide 28 = .ok (.iload_n 2, 1) := by decide +kernel
theorem dX5_setWide_29 : decode cX5_setWide 29 = .ok (.ireturn, 1) := by decide +kernel
theorem dX5_dropFrames_0 : decode cX5_dropFrames 0 = .ok (.iload_n 1, 1) := by decide +kernel
theorem dX5_dropFrames_1 : decode cX5_dropFrames 1 = .ok (.invokestatic 71, 3) := by decide +kernel
theorem dX5_dropFrames_4 : decode cX5_dropFrames 4 = .ok (.ifCond .ne 6, 3) := by decide +kernel
theorem dX5_dropFrames_7 : decode cX5_dropFrames 7 = .ok (.bipush (-2), 2) := by decide +kernel
theorem dX5_dropFrames_9 : decode cX5_dropFrames 9 = .ok (.ireturn, 1) := by decide +kernel
theorem dX5_dropFrames_10 : decode cX5_dropFrames 10 = .ok (.aload_n 0, 1) := by decide +kernel
theorem dX5_dropFrames_11 : decode cX5_dropFrames 11 = .ok (.getfield 19, 3) := by decide +kernel
theorem dX5_dropFrames_14 : decode cX5_dropFrames 14 = .ok (.getfield 74, 3) := by decide +kernel
theorem dX5_dropFrames_17 : decode cX5_dropFrames 17 = .ok (.iload_n 1, 1) := by decide +kernel
theorem dX5_dropFrames_18 : decode cX5_dropFrames 18 = .ok (.aaload, 1) := by decide +kernel
theorem dX5_dropFrames_19 : decode cX5_dropFrames 19 = .ok (.getfield 118, 3) := by decide +kernel
theorem dX5_dropFrames_22 : decode cX5_dropFrames 22 = .ok (.istore_n 2, 1) := by decide +kernel
theorem dX5_dropFrames_23 : decode cX5_dropFrames 23 = .ok (.aload_n 0, 1) := by decide +kernel
theorem dX5_dropFrames_24 : decode cX5_dropFrames 24 = .ok (.getfield 19, 3) := by decide +kernel
theorem dX5_dropFrames_27 : decode cX5_dropFrames 27 = .ok (.getfield 74, 3) := by decide +kernel
theorem dX5_dropFrames_30 : decode cX5_dropFrames 30 = .ok (.iload_n 1, 1) := by decide +kernel
theorem dX5_dropFrames_31 : decode cX5_dropFrames 31 = .ok (.aaload, 1) := by decide +kernel
theorem dX5_dropFrames_32 : decode cX5_dropFrames 32 = .ok (.iconst 0, 1) := by decide +kernel
theorem dX5_dropFrames_33 : decode cX5_dropFrames 33 = .ok (.putfield 118, 3) := by decide +kernel
theorem dX5_dropFrames_36 : decode cX5_dropFrames 36 = .ok (.iload_n 2, 1) := by decide +kernel
theorem dX5_dropFrames_37 : decode cX5_dropFrames 37 = .ok (.ireturn, 1) := by decide +kernel
theorem dX5_swapFrames_0 : decode cX5_swapFrames 0 = .ok (.iload_n 1, 1) := by decide +kernel
theorem dX5_swapFrames_1 : decode cX5_swapFrames 1 = .ok (.invokestatic 71, 3) := by decide +kernel
theorem dX5_swapFrames_4 : decode cX5_swapFrames 4 = .ok (.ifCond .eq 22, 3) := by decide +kernel
theorem dX5_swapFrames_7 : decode cX5_swapFrames 7 = .ok (.iload_n 2, 1) := by decide +kernel
theorem dX5_swapFrames_8 : decode cX5_swapFrames 8 = .ok (.invokestatic 71, 3) := by decide +kernel
theorem dX5_swapFrames_11 : decode cX5_swapFrames 11 = .ok (.ifCond .eq 15, 3) := by decide +kernel
theorem dX5_swapFrames_14 : decode cX5_swapFrames 14 = .ok (.iload_n 1, 1) := by decide +kernel
theorem dX5_swapFrames_15 : decode cX5_swapFrames 15 = .ok (.iload_n 2, 1) := by decide +kernel
theorem dX5_swapFrames_16 : decode cX5_swapFrames 16 = .ok (.if_icmp .eq 10, 3) := by decide +kernel
theorem dX5_swapFrames_19 : decode cX5_swapFrames 19 = .ok (.iload_n 3, 1) := by decide +kernel
theorem dX5_swapFrames_20 : decode cX5_swapFrames 20 = .ok (.invokestatic 239, 3) := by decide +kernel
theorem dX5_swapFrames_23 : decode cX5_swapFrames 23 = .ok (.ifCond .ne 6, 3) := by decide +kernel
theorem dX5_swapFrames_26 : decode cX5_swapFrames 26 = .ok (.bipush (-2), 2) := by decide +kernel
theorem dX5_swapFrames_28 : decode cX5_swapFrames 28 = .ok (.ireturn, 1) := by decide +kernel
theorem dX5_swapFrames_29 : decode cX5_swapFrames 29 = .ok (.aload_n 0, 1) := by decide +kernel
theorem dX5_swapFrames_30 : decode cX5_swapFrames 30 = .ok (.getfield 19, 3) := by decide +kernel
theorem dX5_swapFrames_33 : decode cX5_swapFrames 33 = .ok (.getfield 74, 3) := by decide +kernel
theorem dX5_swapFrames_36 : decode cX5_swapFrames 36 = .ok (.iload_n 1, 1) := by decide +kernel
theorem dX5_swapFrames_37 : decode cX5_swapFrames 37 = .ok (.aaload, 1) := by decide +kernel
theorem dX5_swapFrames_38 : decode cX5_swapFrames 38 = .ok (.astore 4, 2) := by decide +kernel
theorem dX5_swapFrames_40 : decode cX5_swapFrames 40 = .ok (.aload_n 0, 1) := by decide +kernel
theorem dX5_swapFrames_41 : decode cX5_swapFrames 41 = .ok (.getfield 19, 3) := by decide +kernel
theorem dX5_swapFrames_44 : decode cX5_swapFrames 44 = .ok (.getfield 74, 3) := by decide +kernel
theorem dX5_swapFrames_47 : decode cX5_swapFrames 47 = .ok (.iload_n 2, 1) := by decide +kernel
theorem dX5_swapFrames_48 : decode cX5_swapFrames 48 = .ok (.aaload, 1) := by decide +kernel
theorem dX5_swapFrames_49 : decode cX5_swapFrames 49 = .ok (.astore 5, 2) := by decide +kernel
theorem dX5_swapFrames_51 : decode cX5_swapFrames 51 = .ok (.aload 4, 2) := by decide +kernel
theorem dX5_swapFrames_53 : decode cX5_swapFrames 53 = .ok (.iload_n 3, 1) := by decide +kernel
theorem dX5_swapFrames_54 : decode cX5_swapFrames 54 = .ok (.invokevirtual 245, 3) := by decide +kernel
theorem dX5_swapFrames_57 : decode cX5_swapFrames 57 = .ok (.istore 6, 2) := by decide +kernel
theorem dX5_swapFrames_59 : decode cX5_swapFrames 59 = .ok (.aload 5, 2) := by decide +kernel
theorem dX5_swapFrames_61 : decode cX5_swapFrames 61 = .ok (.iload_n 3, 1) := by decide +kernel
theorem dX5_swapFrames_62 : decode cX5_swapFrames 62 = .ok (.invokevirtual 245, 3) := by decide +kernel
theorem dX5_swapFrames_65 : decode cX5_swapFrames 65 = .ok (.istore 7, 2) := by decide +kernel
theorem dX5_swapFrames_67 : decode cX5_swapFrames 67 = .ok (.iload 6, 2) := by decide +kernel
theorem dX5_swapFrames_69 : decode cX5_swapFrames 69 = .ok (.aload 5, 2) := by decide +kernel
theorem dX5_swapFrames_71 : decode cX5_swapFrames 71 = .ok (.getfield 118, 3) := by decide +kernel
theorem dX5_swapFrames_74 : decode cX5_swapFrames 74 = .ok (.iadd, 1) := by decide +kernel
theorem dX5_swapFrames_75 : decode cX5_swapFrames 75 = .ok (.iload 7, 2) := by decide +kernel
theorem dX5_swapFrames_77 : decode cX5_swapFrames 77 = .ok (.isub, 1) := by decide +kernel
theorem dX5_swapFrames_78 : decode cX5_swapFrames 78 = .ok (.bipush 10, 2) := by decide +kernel
theorem dX5_swapFrames_80 : decode cX5_swapFrames 80 = .ok (.if_icmp .le 6, 3) := by decide +kernel
theorem dX5_swapFrames_83 : decode cX5_swapFrames 83 = .ok (.bipush (-4), 2) := by decide +kernel
theorem dX5_swapFrames_85 : decode cX5_swapFrames 85 = .ok (.ireturn, 1) := by decide +kernel
theorem dX5_swapFrames_86 : decode cX5_swapFrames 86 = .ok (.aload 4, 2) := by decide +kernel
theorem dX5_swapFrames_88 : decode cX5_swapFrames 88 = .ok (.iload 6, 2) := by decide +kernel
theorem dX5_swapFrames_90 : decode cX5_swapFrames 90 = .ok (.putfield 118, 3) := by decide +kernel
theorem dX5_swapFrames_93 : decode cX5_swapFrames 93 = .ok (.iload 7, 2) := by decide +kernel
theorem dX5_swapFrames_95 : decode cX5_swapFrames 95 = .ok (.istore 8, 2) := by decide +kernel
theorem dX5_swapFrames_97 : decode cX5_swapFrames 97 = .ok (.iload 8, 2) := by decide +kernel
theorem dX5_swapFrames_99 : decode cX5_swapFrames 99 = .ok (.aload 5, 2) := by decide +kernel
theorem dX5_swapFrames_101 : decode cX5_swapFrames 101 = .ok (.getfield 118, 3) := by decide +kernel
theorem dX5_swapFrames_104 : decode cX5_swapFrames 104 = .ok (.if_icmp .ge 31, 3) := by decide +kernel
theorem dX5_swapFrames_107 : decode cX5_swapFrames 107 = .ok (.aload 4, 2) := by decide +kernel
theorem dX5_swapFrames_109 : decode cX5_swapFrames 109 = .ok (.aload 5, 2) := by decide +kernel
theorem dX5_swapFrames_111 : decode cX5_swapFrames 111 = .ok (.getfield 100, 3) := by decide +kernel
theorem dX5_swapFrames_114 : decode cX5_swapFrames 114 = .ok (.iload 8, 2) := by decide +kernel
theorem dX5_swapFrames_116 : decode cX5_swapFrames 116 = .ok (.iaload, 1) := by decide +kernel
theorem dX5_swapFrames_117 : decode cX5_swapFrames 117 = .ok (.aload 5, 2) := by decide +kernel
theorem dX5_swapFrames_119 : decode cX5_swapFrames 119 = .ok (.getfield 103, 3) := by decide +kernel
theorem dX5_swapFrames_122 : decode cX5_swapFrames 122 = .ok (.iload 8, 2) := by decide +kernel
theorem dX5_swapFrames_124 : decode cX5_swapFrames 124 = .ok (.iaload, 1) := by decide +kernel
theorem dX5_swapFrames_125 : decode cX5_swapFrames 125 = .ok (.invokevirtual 242, 3) := by decide +kernel
theorem dX5_swapFrames_128 : decode cX5_swapFrames 128 = .ok (.pop, 1) := by decide +kernel
theorem dX5_swapFrames_129 : decode cX5_swapFrames 129 = .ok (.iinc 8 1, 3) := by decide +kernel
theorem dX5_swapFrames_132 : decode cX5_swapFrames 132 = .ok (.goto (-35), 3) := by decide +kernel
theorem dX5_swapFrames_135 : decode cX5_swapFrames 135 = .ok (.aload 4, 2) := by decide +kernel
theorem dX5_swapFrames_137 : decode cX5_swapFrames 137 = .ok (.getfield 118, 3) := by decide +kernel
theorem dX5_swapFrames_140 : decode cX5_swapFrames 140 = .ok (.ireturn, 1) := by decide +kernel
theorem dX5_weave_0 : decode cX5_weave 0 = .ok (.aload_n 0, 1) := by decide +kernel
theorem dX5_weave_1 : decode cX5_weave 1 = .ok (.getfield 44, 3) := by decide +kernel
theorem dX5_weave_4 : decode cX5_weave 4 = .ok (.ifCond .ne 19, 3) := by decide +kernel
theorem dX5_weave_7 : decode cX5_weave 7 = .ok (.aload_n 0, 1) := by decide +kernel
theorem dX5_weave_8 : decode cX5_weave 8 = .ok (.getfield 33, 3) := by decide +kernel
theorem dX5_weave_11 : decode cX5_weave 11 = .ok (.aload_n 0, 1) := by decide +kernel
theorem dX5_weave_12 : decode cX5_weave 12 = .ok (.getfield 19, 3) := by decide +kernel
theorem dX5_weave_15 : decode cX5_weave 15 = .ok (.invokevirtual 205, 3) := by decide +kernel
theorem dX5_weave_18 : decode cX5_weave 18 = .ok (.aload_n 0, 1) := by decide +kernel
theorem dX5_weave_19 : decode cX5_weave 19 = .ok (.iconst 1, 1) := by decide +kernel
theorem dX5_weave_20 : decode cX5_weave 20 = .ok (.putfield 44, 3) := by decide +kernel
theorem dX5_weave_23 : decode cX5_weave 23 = .ok (.return_, 1) := by decide +kernel
theorem dX5_trialShowsAll_0 : decode cX5_trialShowsAll 0 = .ok (.aload_n 0, 1) := by decide +kernel
theorem dX5_trialShowsAll_1 : decode cX5_trialShowsAll 1 = .ok (.iconst 0, 1) := by decide +kernel
theorem dX5_trialShowsAll_2 : decode cX5_trialShowsAll 2 = .ok (.putfield 44, 3) := by decide +kernel
theorem dX5_trialShowsAll_5 : decode cX5_trialShowsAll 5 = .ok (.aload_n 0, 1) := by decide +kernel
theorem dX5_trialShowsAll_6 : decode cX5_trialShowsAll 6 = .ok (.getfield 33, 3) := by decide +kernel
theorem dX5_trialShowsAll_9 : decode cX5_trialShowsAll 9 = .ok (.aload_n 0, 1) := by decide +kernel
theorem dX5_trialShowsAll_10 : decode cX5_trialShowsAll 10 = .ok (.getfield 23, 3) := by decide +kernel
theorem dX5_trialShowsAll_13 : decode cX5_trialShowsAll 13 = .ok (.invokevirtual 248, 3) := by decide +kernel
theorem dX5_trialShowsAll_16 : decode cX5_trialShowsAll 16 = .ok (.ireturn, 1) := by decide +kernel
theorem dX5_isWithin_0 : decode cX5_isWithin 0 = .ok (.iload_n 0, 1) := by decide +kernel
theorem dX5_isWithin_1 : decode cX5_isWithin 1 = .ok (.iload_n 1, 1) := by decide +kernel
theorem dX5_isWithin_2 : decode cX5_isWithin 2 = .ok (.if_icmp .lt 12, 3) := by decide +kernel
theorem dX5_isWithin_5 : decode cX5_isWithin 5 = .ok (.iload_n 0, 1) := by decide +kernel
theorem dX5_isWithin_6 : decode cX5_isWithin 6 = .ok (.iload_n 2, 1) := by decide +kernel
theorem dX5_isWithin_7 : decode cX5_isWithin 7 = .ok (.if_icmp .gt 7, 3) := by decide +kernel
theorem dX5_isWithin_10 : decode cX5_isWithin 10 = .ok (.iconst 1, 1) := by decide +kernel
theorem dX5_isWithin_11 : decode cX5_isWithin 11 = .ok (.goto 4, 3) := by decide +kernel
theorem dX5_isWithin_14 : decode cX5_isWithin 14 = .ok (.iconst 0, 1) := by decide +kernel
theorem dX5_isWithin_15 : decode cX5_isWithin 15 = .ok (.ireturn, 1) := by decide +kernel
theorem dX5_isProgramme_0 : decode cX5_isProgramme 0 = .ok (.iload_n 0, 1) := by decide +kernel
theorem dX5_isProgramme_1 : decode cX5_isProgramme 1 = .ok (.iconst 0, 1) := by decide +kernel
theorem dX5_isProgramme_2 : decode cX5_isProgramme 2 = .ok (.iconst 3, 1) := by decide +kernel
theorem dX5_isProgramme_3 : decode cX5_isProgramme 3 = .ok (.invokestatic 48, 3) := by decide +kernel
theorem dX5_isProgramme_6 : decode cX5_isProgramme 6 = .ok (.ireturn, 1) := by decide +kernel
theorem dX5_isTick_0 : decode cX5_isTick 0 = .ok (.iload_n 0, 1) := by decide +kernel
theorem dX5_isTick_1 : decode cX5_isTick 1 = .ok (.iconst 0, 1) := by decide +kernel
theorem dX5_isTick_2 : decode cX5_isTick 2 = .ok (.bipush 99, 2) := by decide +kernel
theorem dX5_isTick_4 : decode cX5_isTick 4 = .ok (.invokestatic 48, 3) := by decide +kernel
theorem dX5_isTick_7 : decode cX5_isTick 7 = .ok (.ireturn, 1) := by decide +kernel
theorem dX5_isDue_0 : decode cX5_isDue 0 = .ok (.iload_n 0, 1) := by decide +kernel
theorem dX5_isDue_1 : decode cX5_isDue 1 = .ok (.iconst 1, 1) := by decide +kernel
theorem dX5_isDue_2 : decode cX5_isDue 2 = .ok (.bipush 99, 2) := by decide +kernel
theorem dX5_isDue_4 : decode cX5_isDue 4 = .ok (.invokestatic 48, 3) := by decide +kernel
theorem dX5_isDue_7 : decode cX5_isDue 7 = .ok (.ireturn, 1) := by decide +kernel
