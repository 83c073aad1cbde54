theorem dX0_init_0 : decode cX0_init 0 = .ok (.aload_n 0, 1) := by decide +kernel
theorem dX0_init_1 : decode cX0_init 1 = .ok (.invokespecial 3, 3) := by decide +kernel
theorem dX0_init_4 : decode cX0_init 4 = .ok (.aload_n 0, 1) := by decide +kernel
theorem dX0_init_5 : decode cX0_init 5 = .ok (.new 9, 3) := by decide +kernel
theorem dX0_init_8 : decode cX0_init 8 = .ok (.dup, 1) := by decide +kernel
theorem dX0_init_9 : decode cX0_init 9 = .ok (.invokespecial 11, 3) := by decide +kernel
theorem dX0_init_12 : decode cX0_init 12 = .ok (.putfield 12, 3) := by decide +kernel
theorem dX0_init_15 : decode cX0_init 15 = .ok (.aload_n 0, 1) := by decide +kernel
theorem dX0_init_16 : decode cX0_init 16 = .ok (.sipush 400, 3) := by decide +kernel
theorem dX0_init_19 : decode cX0_init 19 = .ok (.newarray .int, 2) := by decide +kernel
theorem dX0_init_21 : decode cX0_init 21 = .ok (.putfield 18, 3) := by decide +kernel
theorem dX0_init_24 : decode cX0_init 24 = .ok (.aload_n 0, 1) := by decide +kernel
theorem dX0_init_25 : decode cX0_init 25 = .ok (.sipush 400, 3) := by decide +kernel
theorem dX0_init_28 : decode cX0_init 28 = .ok (.newarray .int, 2) := by decide +kernel
theorem dX0_init_30 : decode cX0_init 30 = .ok (.putfield 22, 3) := by decide +kernel
theorem dX0_init_33 : decode cX0_init 33 = .ok (.aload_n 0, 1) := by decide +kernel
theorem dX0_init_34 : decode cX0_init 34 = .ok (.sipush 400, 3) := by decide +kernel
theorem dX0_init_37 : decode cX0_init 37 = .ok (.newarray .boolean, 2) := by decide +kernel
theorem dX0_init_39 : decode cX0_init 39 = .ok (.putfield 25, 3) := by decide +kernel
theorem dX0_init_42 : decode cX0_init 42 = .ok (.aload_n 0, 1) := by decide +kernel
theorem dX0_init_43 : decode cX0_init 43 = .ok (.iconst 2, 1) := by decide +kernel
theorem dX0_init_44 : decode cX0_init 44 = .ok (.putfield 29, 3) := by decide +kernel
theorem dX0_init_47 : decode cX0_init 47 = .ok (.aload_n 0, 1) := by decide +kernel
theorem dX0_init_48 : decode cX0_init 48 = .ok (.aload_n 1, 1) := by decide +kernel
theorem dX0_init_49 : decode cX0_init 49 = .ok (.putfield 33, 3) := by decide +kernel
theorem dX0_init_52 : decode cX0_init 52 = .ok (.aload_n 0, 1) := by decide +kernel
theorem dX0_init_53 : decode cX0_init 53 = .ok (.aload_n 2, 1) := by decide +kernel
theorem dX0_init_54 : decode cX0_init 54 = .ok (.putfield 37, 3) := by decide +kernel
theorem dX0_init_57 : decode cX0_init 57 = .ok (.return_, 1) := by decide +kernel
theorem dX0_beginAnew_0 : decode cX0_beginAnew 0 = .ok (.aload_n 0, 1) := by decide +kernel
theorem dX0_beginAnew_1 : decode cX0_beginAnew 1 = .ok (.iconst 0, 1) := by decide +kernel
theorem dX0_beginAnew_2 : decode cX0_beginAnew 2 = .ok (.putfield 41, 3) := by decide +kernel
theorem dX0_beginAnew_5 : decode cX0_beginAnew 5 = .ok (.aload_n 0, 1) := by decide +kernel
theorem dX0_beginAnew_6 : decode cX0_beginAnew 6 = .ok (.iconst 2, 1) := by decide +kernel
theorem dX0_beginAnew_7 : decode cX0_beginAnew 7 = .ok (.putfield 29, 3) := by decide +kernel
theorem dX0_beginAnew_10 : decode cX0_beginAnew 10 = .ok (.return_, 1) := by decide +kernel
theorem dX0_readOn_0 : decode cX0_readOn 0 = .ok (.aload_n 0, 1) := by decide +kernel
theorem dX0_readOn_1 : decode cX0_readOn 1 = .ok (.getfield 41, 3) := by decide +kernel
theorem dX0_readOn_4 : decode cX0_readOn 4 = .ok (.ifCond .ne 12, 3) := by decide +kernel
theorem dX0_readOn_7 : decode cX0_readOn 7 = .ok (.aload_n 0, 1) := by decide +kernel
theorem dX0_readOn_8 : decode cX0_readOn 8 = .ok (.iconst 1, 1) := by decide +kernel
theorem dX0_readOn_9 : decode cX0_readOn 9 = .ok (.putfield 41, 3) := by decide +kernel
theorem dX0_readOn_12 : decode cX0_readOn 12 = .ok (.aload_n 0, 1) := by decide +kernel
theorem dX0_readOn_13 : decode cX0_readOn 13 = .ok (.invokevirtual 45, 3) := by decide +kernel
theorem dX0_readOn_16 : decode cX0_readOn 16 = .ok (.iconst 0, 1) := by decide +kernel
theorem dX0_readOn_17 : decode cX0_readOn 17 = .ok (.istore_n 2, 1) := by decide +kernel
theorem dX0_readOn_18 : decode cX0_readOn 18 = .ok (.iload_n 2, 1) := by decide +kernel
theorem dX0_readOn_19 : decode cX0_readOn 19 = .ok (.iload_n 1, 1) := by decide +kernel
theorem dX0_readOn_20 : decode cX0_readOn 20 = .ok (.if_icmp .ge 25, 3) := by decide +kernel
theorem dX0_readOn_23 : decode cX0_readOn 23 = .ok (.aload_n 0, 1) := by decide +kernel
theorem dX0_readOn_24 : decode cX0_readOn 24 = .ok (.getfield 29, 3) := by decide +kernel
theorem dX0_readOn_27 : decode cX0_readOn 27 = .ok (.iconst 2, 1) := by decide +kernel
theorem dX0_readOn_28 : decode cX0_readOn 28 = .ok (.if_icmp .ne 17, 3) := by decide +kernel
theorem dX0_readOn_31 : decode cX0_readOn 31 = .ok (.aload_n 0, 1) := by decide +kernel
theorem dX0_readOn_32 : decode cX0_readOn 32 = .ok (.invokevirtual 48, 3) := by decide +kernel
theorem dX0_readOn_35 : decode cX0_readOn 35 = .ok (.aload_n 0, 1) := by decide +kernel
theorem dX0_readOn_36 : decode cX0_readOn 36 = .ok (.invokevirtual 51, 3) := by decide +kernel
theorem dX0_readOn_39 : decode cX0_readOn 39 = .ok (.iinc 2 1, 3) := by decide +kernel
theorem dX0_readOn_42 : decode cX0_readOn 42 = .ok (.goto (-24), 3) := by decide +kernel
theorem dX0_readOn_45 : decode cX0_readOn 45 = .ok (.aload_n 0, 1) := by decide +kernel
theorem dX0_readOn_46 : decode cX0_readOn 46 = .ok (.getfield 29, 3) := by decide +kernel
theorem dX0_readOn_49 : decode cX0_readOn 49 = .ok (.ireturn, 1) := by decide +kernel
theorem dX0_begin_0 : decode cX0_begin 0 = .ok (.aload_n 0, 1) := by decide +kernel
theorem dX0_begin_1 : decode cX0_begin 1 = .ok (.aload_n 0, 1) := by decide +kernel
theorem dX0_begin_2 : decode cX0_begin 2 = .ok (.getfield 37, 3) := by decide +kernel
theorem dX0_begin_5 : decode cX0_begin 5 = .ok (.getfield 54, 3) := by decide +kernel
theorem dX0_begin_8 : decode cX0_begin 8 = .ok (.iconst 2, 1) := by decide +kernel
theorem dX0_begin_9 : decode cX0_begin 9 = .ok (.isub, 1) := by decide +kernel
theorem dX0_begin_10 : decode cX0_begin 10 = .ok (.putfield 59, 3) := by decide +kernel
theorem dX0_begin_13 : decode cX0_begin 13 = .ok (.aload_n 0, 1) := by decide +kernel
theorem dX0_begin_14 : decode cX0_begin 14 = .ok (.getfield 59, 3) := by decide +kernel
theorem dX0_begin_17 : decode cX0_begin 17 = .ok (.iconst 1, 1) := by decide +kernel
theorem dX0_begin_18 : decode cX0_begin 18 = .ok (.if_icmp .lt 10, 3) := by decide +kernel
theorem dX0_begin_21 : decode cX0_begin 21 = .ok (.aload_n 0, 1) := by decide +kernel
theorem dX0_begin_22 : decode cX0_begin 22 = .ok (.invokevirtual 62, 3) := by decide +kernel
theorem dX0_begin_25 : decode cX0_begin 25 = .ok (.ifCond .ne 9, 3) := by decide +kernel
theorem dX0_begin_28 : decode cX0_begin 28 = .ok (.aload_n 0, 1) := by decide +kernel
theorem dX0_begin_29 : decode cX0_begin 29 = .ok (.iconst 0, 1) := by decide +kernel
theorem dX0_begin_30 : decode cX0_begin 30 = .ok (.putfield 29, 3) := by decide +kernel
theorem dX0_begin_33 : decode cX0_begin 33 = .ok (.return_, 1) := by decide +kernel
theorem dX0_begin_34 : decode cX0_begin 34 = .ok (.aload_n 0, 1) := by decide +kernel
theorem dX0_begin_35 : decode cX0_begin 35 = .ok (.aload_n 0, 1) := by decide +kernel
theorem dX0_begin_36 : decode cX0_begin 36 = .ok (.invokevirtual 66, 3) := by decide +kernel
theorem dX0_begin_39 : decode cX0_begin 39 = .ok (.invokestatic 70, 3) := by decide +kernel
theorem dX0_begin_42 : decode cX0_begin 42 = .ok (.putfield 74, 3) := by decide +kernel
theorem dX0_begin_45 : decode cX0_begin 45 = .ok (.aload_n 0, 1) := by decide +kernel
theorem dX0_begin_46 : decode cX0_begin 46 = .ok (.iconst 0, 1) := by decide +kernel
theorem dX0_begin_47 : decode cX0_begin 47 = .ok (.putfield 77, 3) := by decide +kernel
theorem dX0_begin_50 : decode cX0_begin 50 = .ok (.aload_n 0, 1) := by decide +kernel
theorem dX0_begin_51 : decode cX0_begin 51 = .ok (.iconst 0, 1) := by decide +kernel
theorem dX0_begin_52 : decode cX0_begin 52 = .ok (.putfield 80, 3) := by decide +kernel
theorem dX0_begin_55 : decode cX0_begin 55 = .ok (.aload_n 0, 1) := by decide +kernel
theorem dX0_begin_56 : decode cX0_begin 56 = .ok (.iconst 0, 1) := by decide +kernel
theorem dX0_begin_57 : decode cX0_begin 57 = .ok (.iconst 0, 1) := by decide +kernel
theorem dX0_begin_58 : decode cX0_begin 58 = .ok (.iconst 0, 1) := by decide +kernel
theorem dX0_begin_59 : decode cX0_begin 59 = .ok (.invokevirtual 83, 3) := by decide +kernel
theorem dX0_begin_62 : decode cX0_begin 62 = .ok (.return_, 1) := by decide +kernel
theorem dX0_claim_0 : decode cX0_claim 0 = .ok (.aload_n 0, 1) := by decide +kernel
theorem dX0_claim_1 : decode cX0_claim 1 = .ok (.getfield 37, 3) := by decide +kernel
theorem dX0_claim_4 : decode cX0_claim 4 = .ok (.aload_n 0, 1) := by decide +kernel
theorem dX0_claim_5 : decode cX0_claim 5 = .ok (.getfield 59, 3) := by decide +kernel
theorem dX0_claim_8 : decode cX0_claim 8 = .ok (.invokevirtual 87, 3) := by decide +kernel
theorem dX0_claim_11 : decode cX0_claim 11 = .ok (.ireturn, 1) := by decide +kernel
theorem dX0_claimHolds_0 : decode cX0_claimHolds 0 = .ok (.aload_n 0, 1) := by decide +kernel
theorem dX0_claimHolds_1 : decode cX0_claimHolds 1 = .ok (.invokevirtual 66, 3) := by decide +kernel
theorem dX0_claimHolds_4 : decode cX0_claimHolds 4 = .ok (.iconst (-1), 1) := by decide +kernel
theorem dX0_claimHolds_5 : decode cX0_claimHolds 5 = .ok (.if_icmp .ne 5, 3) := by decide +kernel
theorem dX0_claimHolds_8 : decode cX0_claimHolds 8 = .ok (.iconst 1, 1) := by decide +kernel
theorem dX0_claimHolds_9 : decode cX0_claimHolds 9 = .ok (.ireturn, 1) := by decide +kernel
theorem dX0_claimHolds_10 : decode cX0_claimHolds 10 = .ok (.aload_n 0, 1) := by decide +kernel
theorem dX0_claimHolds_11 : decode cX0_claimHolds 11 = .ok (.getfield 37, 3) := by decide +kernel
theorem dX0_claimHolds_14 : decode cX0_claimHolds 14 = .ok (.aload_n 0, 1) := by decide +kernel
theorem dX0_claimHolds_15 : decode cX0_claimHolds 15 = .ok (.getfield 59, 3) := by decide +kernel
theorem dX0_claimHolds_18 : decode cX0_claimHolds 18 = .ok (.iconst 1, 1) := by decide +kernel
theorem dX0_claimHolds_19 : decode cX0_claimHolds 19 = .ok (.iadd, 1) := by decide +kernel
theorem dX0_claimHolds_20 : decode cX0_claimHolds 20 = .ok (.invokevirtual 87, 3) := by decide +kernel
theorem dX0_claimHolds_23 : decode cX0_claimHolds 23 = .ok (.ldc 90, 2) := by decide +kernel
theorem dX0_claimHolds_25 : decode cX0_claimHolds 25 = .ok (.iand, 1) := by decide +kernel
theorem dX0_claimHolds_26 : decode cX0_claimHolds 26 = .ok (.istore_n 1, 1) := by decide +kernel
theorem dX0_claimHolds_27 : decode cX0_claimHolds 27 = .ok (.aload_n 0, 1) := by decide +kernel
theorem dX0_claimHolds_28 : decode cX0_claimHolds 28 = .ok (.getfield 12, 3) := by decide +kernel
theorem dX0_claimHolds_31 : decode cX0_claimHolds 31 = .ok (.iload_n 1, 1) := by decide +kernel
theorem dX0_claimHolds_32 : decode cX0_claimHolds 32 = .ok (.iload_n 1, 1) := by decide +kernel
theorem dX0_claimHolds_33 : decode cX0_claimHolds 33 = .ok (.iconst (-1), 1) := by decide +kernel
theorem dX0_claimHolds_34 : decode cX0_claimHolds 34 = .ok (.ixor, 1) := by decide +kernel
theorem dX0_claimHolds_35 : decode cX0_claimHolds 35 = .ok (.ldc 90, 2) := by decide +kernel
theorem dX0_claimHolds_37 : decode cX0_claimHolds 37 = .ok (.iand, 1) := by decide +kernel
theorem dX0_claimHolds_38 : decode cX0_claimHolds 38 = .ok (.invokevirtual 91, 3) := by decide +kernel
theorem dX0_claimHolds_41 : decode cX0_claimHolds 41 = .ok (.aload_n 0, 1) := by decide +kernel
theorem dX0_claimHolds_42 : decode cX0_claimHolds 42 = .ok (.getfield 33, 3) := by decide +kernel
theorem dX0_claimHolds_45 : decode cX0_claimHolds 45 = .ok (.aload_n 0, 1) := by decide +kernel
theorem dX0_claimHolds_46 : decode cX0_claimHolds 46 = .ok (.getfield 12, 3) := by decide +kernel
theorem dX0_claimHolds_49 : decode cX0_claimHolds 49 = .ok (.ldc 95, 2) := by decide +kernel
theorem dX0_claimHolds_51 : decode cX0_claimHolds 51 = .ok (.invokevirtual 96, 3) := by decide +kernel
theorem dX0_claimHolds_54 : decode cX0_claimHolds 54 = .ok (.ifCond .ne 22, 3) := by decide +kernel
theorem dX0_claimHolds_57 : decode cX0_claimHolds 57 = .ok (.aload_n 0, 1) := by decide +kernel
theorem dX0_claimHolds_58 : decode cX0_claimHolds 58 = .ok (.getfield 33, 3) := by decide +kernel
theorem dX0_claimHolds_61 : decode cX0_claimHolds 61 = .ok (.iload_n 1, 1) := by decide +kernel
theorem dX0_claimHolds_62 : decode cX0_claimHolds 62 = .ok (.invokevirtual 102, 3) := by decide +kernel
theorem dX0_claimHolds_65 : decode cX0_claimHolds 65 = .ok (.aload_n 0, 1) := by decide +kernel
theorem dX0_claimHolds_66 : decode cX0_claimHolds 66 = .ok (.invokevirtual 66, 3) := by decide +kernel
theorem dX0_claimHolds_69 : decode cX0_claimHolds 69 = .ok (.if_icmp .ne 7, 3) := by decide +kernel
theorem dX0_claimHolds_72 : decode cX0_claimHolds 72 = .ok (.iconst 1, 1) := by decide +kernel
theorem dX0_claimHolds_73 : decode cX0_claimHolds 73 = .ok (.goto 4, 3) := by decide +kernel
theorem dX0_claimHolds_76 : decode cX0_claimHolds 76 = .ok (.iconst 0, 1) := by decide +kernel
theorem dX0_claimHolds_77 : decode cX0_claimHolds 77 = .ok (.ireturn, 1) := by decide +kernel
theorem dX0_readWord_0 : decode cX0_readWord 0 = .ok (.aload_n 0, 1) := by decide +kernel
theorem dX0_readWord_1 : decode cX0_readWord 1 = .ok (.getfield 37, 3) := by decide +kernel
theorem dX0_readWord_4 : decode cX0_readWord 4 = .ok (.aload_n 0, 1) := by decide +kernel
theorem dX0_readWord_5 : decode cX0_readWord 5 = .ok (.getfield 77, 3) := by decide +kernel
theorem dX0_readWord_8 : decode cX0_readWord 8 = .ok (.invokevirtual 87, 3) := by decide +kernel
theorem dX0_readWord_11 : decode cX0_readWord 11 = .ok (.istore_n 1, 1) := by decide +kernel
theorem dX0_readWord_12 : decode cX0_readWord 12 = .ok (.aload_n 0, 1) := by decide +kernel
theorem dX0_readWord_13 : decode cX0_readWord 13 = .ok (.dup, 1) := by decide +kernel
theorem dX0_readWord_14 : decode cX0_readWord 14 = .ok (.getfield 77, 3) := by decide +kernel
theorem dX0_readWord_17 : decode cX0_readWord 17 = .ok (.iconst 1, 1) := by decide +kernel
theorem dX0_readWord_18 : decode cX0_readWord 18 = .ok (.iadd, 1) := by decide +kernel
theorem dX0_readWord_19 : decode cX0_readWord 19 = .ok (.putfield 77, 3) := by decide +kernel
theorem dX0_readWord_22 : decode cX0_readWord 22 = .ok (.iload_n 1, 1) := by decide +kernel
theorem dX0_readWord_23 : decode cX0_readWord 23 = .ok (.ifCond .ne 10, 3) := by decide +kernel
theorem dX0_readWord_26 : decode cX0_readWord 26 = .ok (.aload_n 0, 1) := by decide +kernel
theorem dX0_readWord_27 : decode cX0_readWord 27 = .ok (.invokevirtual 105, 3) := by decide +kernel
theorem dX0_readWord_30 : decode cX0_readWord 30 = .ok (.goto 23, 3) := by decide +kernel
theorem dX0_readWord_33 : decode cX0_readWord 33 = .ok (.iload_n 1, 1) := by decide +kernel
theorem dX0_readWord_34 : decode cX0_readWord 34 = .ok (.invokestatic 108, 3) := by decide +kernel
theorem dX0_readWord_37 : decode cX0_readWord 37 = .ok (.ifCond .eq 11, 3) := by decide +kernel
theorem dX0_readWord_40 : decode cX0_readWord 40 = .ok (.aload_n 0, 1) := by decide +kernel
theorem dX0_readWord_41 : decode cX0_readWord 41 = .ok (.iload_n 1, 1) := by decide +kernel
theorem dX0_readWord_42 : decode cX0_readWord 42 = .ok (.invokevirtual 112, 3) := by decide +kernel
theorem dX0_readWord_45 : decode cX0_readWord 45 = .ok (.goto 8, 3) := by decide +kernel
theorem dX0_readWord_48 : decode cX0_readWord 48 = .ok (.aload_n 0, 1) := by decide +kernel
theorem dX0_readWord_49 : decode cX0_readWord 49 = .ok (.iconst 0, 1) := by decide +kernel
theorem dX0_readWord_50 : decode cX0_readWord 50 = .ok (.putfield 29, 3) := by decide +kernel
theorem dX0_readWord_53 : decode cX0_readWord 53 = .ok (.aload_n 0, 1) := by decide +kernel
theorem dX0_readWord_54 : decode cX0_readWord 54 = .ok (.getfield 29, 3) := by decide +kernel
theorem dX0_readWord_57 : decode cX0_readWord 57 = .ok (.iconst 2, 1) := by decide +kernel
theorem dX0_readWord_58 : decode cX0_readWord 58 = .ok (.if_icmp .ne 19, 3) := by decide +kernel
theorem dX0_readWord_61 : decode cX0_readWord 61 = .ok (.aload_n 0, 1) := by decide +kernel
theorem dX0_readWord_62 : decode cX0_readWord 62 = .ok (.getfield 77, 3) := by decide +kernel
theorem dX0_readWord_65 : decode cX0_readWord 65 = .ok (.aload_n 0, 1) := by decide +kernel
theorem dX0_readWord_66 : decode cX0_readWord 66 = .ok (.getfield 59, 3) := by decide +kernel
theorem dX0_readWord_69 : decode cX0_readWord 69 = .ok (.if_icmp .lt 8, 3) := by decide +kernel
theorem dX0_readWord_72 : decode cX0_readWord 72 = .ok (.aload_n 0, 1) := by decide +kernel
theorem dX0_readWord_73 : decode cX0_readWord 73 = .ok (.iconst 0, 1) := by decide +kernel
theorem dX0_readWord_74 : decode cX0_readWord 74 = .ok (.putfield 29, 3) := by decide +kernel
theorem dX0_readWord_77 : decode cX0_readWord 77 = .ok (.return_, 1) := by decide +kernel
theorem dX0_closeTree_0 : decode cX0_closeTree 0 = .ok (.aload_n 0, 1) := by decide +kernel
theorem dX0_closeTree_1 : decode cX0_closeTree 1 = .ok (.getfield 116, 3) := by decide +kernel
theorem dX0_closeTree_4 : decode cX0_closeTree 4 = .ok (.ifCond .ne 11, 3) := by decide +kernel
theorem dX0_closeTree_7 : decode cX0_closeTree 7 = .ok (.aload_n 0, 1) := by decide +kernel
theorem dX0_closeTree_8 : decode cX0_closeTree 8 = .ok (.iconst 0, 1) := by decide +kernel
theorem dX0_closeTree_9 : decode cX0_closeTree 9 = .ok (.putfield 29, 3) := by decide +kernel
theorem dX0_closeTree_12 : decode cX0_closeTree 12 = .ok (.goto 74, 3) := by decide +kernel
theorem dX0_closeTree_15 : decode cX0_closeTree 15 = .ok (.aload_n 0, 1) := by decide +kernel
theorem dX0_closeTree_16 : decode cX0_closeTree 16 = .ok (.getfield 80, 3) := by decide +kernel
theorem dX0_closeTree_19 : decode cX0_closeTree 19 = .ok (.ifCond .ne 26, 3) := by decide +kernel
theorem dX0_closeTree_22 : decode cX0_closeTree 22 = .ok (.aload_n 0, 1) := by decide +kernel
theorem dX0_closeTree_23 : decode cX0_closeTree 23 = .ok (.aload_n 0, 1) := by decide +kernel
theorem dX0_closeTree_24 : decode cX0_closeTree 24 = .ok (.getfield 77, 3) := by decide +kernel
theorem dX0_closeTree_27 : decode cX0_closeTree 27 = .ok (.aload_n 0, 1) := by decide +kernel
theorem dX0_closeTree_28 : decode cX0_closeTree 28 = .ok (.getfield 59, 3) := by decide +kernel
theorem dX0_closeTree_31 : decode cX0_closeTree 31 = .ok (.if_icmp .ne 7, 3) := by decide +kernel
theorem dX0_closeTree_34 : decode cX0_closeTree 34 = .ok (.iconst 1, 1) := by decide +kernel
theorem dX0_closeTree_35 : decode cX0_closeTree 35 = .ok (.goto 4, 3) := by decide +kernel
theorem dX0_closeTree_38 : decode cX0_closeTree 38 = .ok (.iconst 0, 1) := by decide +kernel
theorem dX0_closeTree_39 : decode cX0_closeTree 39 = .ok (.putfield 29, 3) := by decide +kernel
theorem dX0_closeTree_42 : decode cX0_closeTree 42 = .ok (.goto 44, 3) := by decide +kernel
theorem dX0_closeTree_45 : decode cX0_closeTree 45 = .ok (.aload_n 0, 1) := by decide +kernel
theorem dX0_closeTree_46 : decode cX0_closeTree 46 = .ok (.dup, 1) := by decide +kernel
theorem dX0_closeTree_47 : decode cX0_closeTree 47 = .ok (.getfield 80, 3) := by decide +kernel
theorem dX0_closeTree_50 : decode cX0_closeTree 50 = .ok (.iconst 1, 1) := by decide +kernel
theorem dX0_closeTree_51 : decode cX0_closeTree 51 = .ok (.isub, 1) := by decide +kernel
theorem dX0_closeTree_52 : decode cX0_closeTree 52 = .ok (.putfield 80, 3) := by decide +kernel
theorem dX0_closeTree_55 : decode cX0_closeTree 55 = .ok (.aload_n 0, 1) := by decide +kernel
theorem dX0_closeTree_56 : decode cX0_closeTree 56 = .ok (.aload_n 0, 1) := by decide +kernel
theorem dX0_closeTree_57 : decode cX0_closeTree 57 = .ok (.getfield 18, 3) := by decide +kernel
theorem dX0_closeTree_60 : decode cX0_closeTree 60 = .ok (.aload_n 0, 1) := by decide +kernel
theorem dX0_closeTree_61 : decode cX0_closeTree 61 = .ok (.getfield 80, 3) := by decide +kernel
theorem dX0_closeTree_64 : decode cX0_closeTree 64 = .ok (.iaload, 1) := by decide +kernel
theorem dX0_closeTree_65 : decode cX0_closeTree 65 = .ok (.aload_n 0, 1) := by decide +kernel
theorem dX0_closeTree_66 : decode cX0_closeTree 66 = .ok (.getfield 22, 3) := by decide +kernel
theorem dX0_closeTree_69 : decode cX0_closeTree 69 = .ok (.aload_n 0, 1) := by decide +kernel
theorem dX0_closeTree_70 : decode cX0_closeTree 70 = .ok (.getfield 80, 3) := by decide +kernel
theorem dX0_closeTree_73 : decode cX0_closeTree 73 = .ok (.iaload, 1) := by decide +kernel
theorem dX0_closeTree_74 : decode cX0_closeTree 74 = .ok (.aload_n 0, 1) := by decide +kernel
theorem dX0_closeTree_75 : decode cX0_closeTree 75 = .ok (.getfield 25, 3) := by decide +kernel
theorem dX0_closeTree_78 : decode cX0_closeTree 78 = .ok (.aload_n 0, 1) := by decide +kernel
theorem dX0_closeTree_79 : decode cX0_closeTree 79 = .ok (.getfield 80, 3) := by decide +kernel
theorem dX0_closeTree_82 : decode cX0_closeTree 82 = .ok (.baload, 1) := by decide +kernel
theorem dX0_closeTree_83 : decode cX0_closeTree 83 = .ok (.invokevirtual 83, 3) := by decide +kernel
theorem dX0_closeTree_86 : decode cX0_closeTree 86 = .ok (.return_, 1) := by decide +kernel
theorem dX0_splitTree_0 : decode cX0_splitTree 0 = .ok (.aload_n 0, 1) := by decide +kernel
theorem dX0_splitTree_1 : decode cX0_splitTree 1 = .ok (.getfield 80, 3) := by decide +kernel
theorem dX0_splitTree_4 : decode cX0_splitTree 4 = .ok (.sipush 400, 3) := by decide +kernel
theorem dX0_splitTree_7 : decode cX0_splitTree 7 = .ok (.if_icmp .lt 9, 3) := by decide +kernel
theorem dX0_splitTree_10 : decode cX0_splitTree 10 = .ok (.aload_n 0, 1) := by decide +kernel
theorem dX0_splitTree_11 : decode cX0_splitTree 11 = .ok (.iconst 0, 1) := by decide +kernel
theorem dX0_splitTree_12 : decode cX0_splitTree 12 = .ok (.putfield 29, 3) := by decide +kernel
theorem dX0_splitTree_15 : decode cX0_splitTree 15 = .ok (.return_, 1) := by decide +kernel
theorem dX0_splitTree_16 : decode cX0_splitTree 16 = .ok (.iload_n 1, 1) := by decide +kernel
theorem dX0_splitTree_17 : decode cX0_splitTree 17 = .ok (.invokestatic 119, 3) := by decide +kernel
theorem dX0_splitTree_20 : decode cX0_splitTree 20 = .ok (.istore_n 2, 1) := by decide +kernel
theorem dX0_splitTree_21 : decode cX0_splitTree 21 = .ok (.aload_n 0, 1) := by decide +kernel
theorem dX0_splitTree_22 : decode cX0_splitTree 22 = .ok (.getfield 18, 3) := by decide +kernel
theorem dX0_splitTree_25 : decode cX0_splitTree 25 = .ok (.aload_n 0, 1) := by decide +kernel
theorem dX0_splitTree_26 : decode cX0_splitTree 26 = .ok (.getfield 80, 3) := by decide +kernel
theorem dX0_splitTree_29 : decode cX0_splitTree 29 = .ok (.aload_n 0, 1) := by decide +kernel
theorem dX0_splitTree_30 : decode cX0_splitTree 30 = .ok (.getfield 12, 3) := by decide +kernel
theorem dX0_splitTree_33 : decode cX0_splitTree 33 = .ok (.getfield 122, 3) := by decide +kernel
theorem dX0_splitTree_36 : decode cX0_splitTree 36 = .ok (.iload_n 2, 1) := by decide +kernel
theorem dX0_splitTree_37 : decode cX0_splitTree 37 = .ok (.ior, 1) := by decide +kernel
theorem dX0_splitTree_38 : decode cX0_splitTree 38 = .ok (.iastore, 1) := by decide +kernel
theorem dX0_splitTree_39 : decode cX0_splitTree 39 = .ok (.aload_n 0, 1) := by decide +kernel
theorem dX0_splitTree_40 : decode cX0_splitTree 40 = .ok (.getfield 22, 3) := by decide +kernel
theorem dX0_splitTree_43 : decode cX0_splitTree 43 = .ok (.aload_n 0, 1) := by decide +kernel
theorem dX0_splitTree_44 : decode cX0_splitTree 44 = .ok (.getfield 80, 3) := by decide +kernel
theorem dX0_splitTree_47 : decode cX0_splitTree 47 = .ok (.aload_n 0, 1) := by decide +kernel
theorem dX0_splitTree_48 : decode cX0_splitTree 48 = .ok (.getfield 12, 3) := by decide +kernel
theorem dX0_splitTree_51 : decode cX0_splitTree 51 = .ok (.getfield 125, 3) := by decide +kernel
theorem dX0_splitTree_54 : decode cX0_splitTree 54 = .ok (.iastore, 1) := by decide +kernel
theorem dX0_splitTree_55 : decode cX0_splitTree 55 = .ok (.aload_n 0, 1) := by decide +kernel
theorem dX0_splitTree_56 : decode cX0_splitTree 56 = .ok (.getfield 25, 3) := by decide +kernel
theorem dX0_splitTree_59 : decode cX0_splitTree 59 = .ok (.aload_n 0, 1) := by decide +kernel
theorem dX0_splitTree_60 : decode cX0_splitTree 60 = .ok (.getfield 80, 3) := by decide +kernel
theorem dX0_splitTree_63 : decode cX0_splitTree 63 = .ok (.aload_n 0, 1) := by decide +kernel
theorem dX0_splitTree_64 : decode cX0_splitTree 64 = .ok (.getfield 116, 3) := by decide +kernel
theorem dX0_splitTree_67 : decode cX0_splitTree 67 = .ok (.ifCond .ne 15, 3) := by decide +kernel
theorem dX0_splitTree_70 : decode cX0_splitTree 70 = .ok (.aload_n 0, 1) := by decide +kernel
theorem dX0_splitTree_71 : decode cX0_splitTree 71 = .ok (.getfield 12, 3) := by decide +kernel
theorem dX0_splitTree_74 : decode cX0_splitTree 74 = .ok (.getfield 125, 3) := by decide +kernel
theorem dX0_splitTree_77 : decode cX0_splitTree 77 = .ok (.iload_n 2, 1) := by decide +kernel
theorem dX0_splitTree_78 : decode cX0_splitTree 78 = .ok (.iand, 1) := by decide +kernel
theorem dX0_splitTree_79 : decode cX0_splitTree 79 = .ok (.ifCond .eq 7, 3) := by decide +kernel
theorem dX0_splitTree_82 : decode cX0_splitTree 82 = .ok (.iconst 1, 1) := by decide +kernel
theorem dX0_splitTree_83 : decode cX0_splitTree 83 = .ok (.goto 4, 3) := by decide +kernel
theorem dX0_splitTree_86 : decode cX0_splitTree 86 = .ok (.iconst 0, 1) := by decide +kernel
theorem dX0_splitTree_87 : decode cX0_splitTree 87 = .ok (.bastore, 1) := by decide +kernel
theorem dX0_splitTree_88 : decode cX0_splitTree 88 = .ok (.aload_n 0, 1) := by decide +kernel
theorem dX0_splitTree_89 : decode cX0_splitTree 89 = .ok (.dup, 1) := by decide +kernel
theorem dX0_splitTree_90 : decode cX0_splitTree 90 = .ok (.getfield 80, 3) := by decide +kernel
theorem dX0_splitTree_93 : decode cX0_splitTree 93 = .ok (.iconst 1, 1) := by decide +kernel
theorem dX0_splitTree_94 : decode cX0_splitTree 94 = .ok (.iadd, 1) := by decide +kernel
theorem dX0_splitTree_95 : decode cX0_splitTree 95 = .ok (.putfield 80, 3) := by decide +kernel
theorem dX0_splitTree_98 : decode cX0_splitTree 98 = .ok (.aload_n 0, 1) := by decide +kernel
theorem dX0_splitTree_99 : decode cX0_splitTree 99 = .ok (.aload_n 0, 1) := by decide +kernel
theorem dX0_splitTree_100 : decode cX0_splitTree 100 = .ok (.getfield 12, 3) := by decide +kernel
theorem dX0_splitTree_103 : decode cX0_splitTree 103 = .ok (.getfield 122, 3) := by decide +kernel
theorem dX0_splitTree_106 : decode cX0_splitTree 106 = .ok (.aload_n 0, 1) := by decide +kernel
theorem dX0_splitTree_107 : decode cX0_splitTree 107 = .ok (.getfield 12, 3) := by decide +kernel
theorem dX0_splitTree_110 : decode cX0_splitTree 110 = .ok (.getfield 125, 3) := by decide +kernel
theorem dX0_splitTree_113 : decode cX0_splitTree 113 = .ok (.iload_n 2, 1) := by decide +kernel
theorem dX0_splitTree_114 : decode cX0_splitTree 114 = .ok (.ior, 1) := by decide +kernel
theorem dX0_splitTree_115 : decode cX0_splitTree 115 = .ok (.aload_n 0, 1) := by decide +kernel
theorem dX0_splitTree_116 : decode cX0_splitTree 116 = .ok (.getfield 116, 3) := by decide +kernel
theorem dX0_splitTree_119 : decode cX0_splitTree 119 = .ok (.ifCond .ne 15, 3) := by decide +kernel
theorem dX0_splitTree_122 : decode cX0_splitTree 122 = .ok (.aload_n 0, 1) := by decide +kernel
theorem dX0_splitTree_123 : decode cX0_splitTree 123 = .ok (.getfield 12, 3) := by decide +kernel
theorem dX0_splitTree_126 : decode cX0_splitTree 126 = .ok (.getfield 122, 3) := by decide +kernel
theorem dX0_splitTree_129 : decode cX0_splitTree 129 = .ok (.iload_n 2, 1) := by decide +kernel
theorem dX0_splitTree_130 : decode cX0_splitTree 130 = .ok (.iand, 1) := by decide +kernel
theorem dX0_splitTree_131 : decode cX0_splitTree 131 = .ok (.ifCond .eq 7, 3) := by decide +kernel
theorem dX0_splitTree_134 : decode cX0_splitTree 134 = .ok (.iconst 1, 1) := by decide +kernel
theorem dX0_splitTree_135 : decode cX0_splitTree 135 = .ok (.goto 4, 3) := by decide +kernel
theorem dX0_splitTree_138 : decode cX0_splitTree 138 = .ok (.iconst 0, 1) := by decide +kernel
theorem dX0_splitTree_139 : decode cX0_splitTree 139 = .ok (.invokevirtual 83, 3) := by decide +kernel
theorem dX0_splitTree_142 : decode cX0_splitTree 142 = .ok (.return_, 1) := by decide +kernel
theorem dX0_enterTree_0 : decode cX0_enterTree 0 = .ok (.aload_n 0, 1) := by decide +kernel
theorem dX0_enterTree_1 : decode cX0_enterTree 1 = .ok (.getfield 12, 3) := by decide +kernel
theorem dX0_enterTree_4 : decode cX0_enterTree 4 = .ok (.iload_n 1, 1) := by decide +kernel
theorem dX0_enterTree_5 : decode cX0_enterTree 5 = .ok (.iload_n 2, 1) := by decide +kernel
theorem dX0_enterTree_6 : decode cX0_enterTree 6 = .ok (.invokevirtual 91, 3) := by decide +kernel
theorem dX0_enterTree_9 : decode cX0_enterTree 9 = .ok (.aload_n 0, 1) := by decide +kernel
theorem dX0_enterTree_10 : decode cX0_enterTree 10 = .ok (.iload_n 3, 1) := by decide +kernel
theorem dX0_enterTree_11 : decode cX0_enterTree 11 = .ok (.putfield 116, 3) := by decide +kernel
theorem dX0_enterTree_14 : decode cX0_enterTree 14 = .ok (.return_, 1) := by decide +kernel
theorem dX0_setWhatIsForced_0 : decode cX0_setWhatIsForced 0 = .ok (.iconst 0, 1) := by decide +kernel
theorem dX0_setWhatIsForced_1 : decode cX0_setWhatIsForced 1 = .ok (.istore_n 1, 1) := by decide +kernel
theorem dX0_setWhatIsForced_2 : decode cX0_setWhatIsForced 2 = .ok (.iload_n 1, 1) := by decide +kernel
theorem dX0_setWhatIsForced_3 : decode cX0_setWhatIsForced 3 = .ok (.bipush 16, 2) := by decide +kernel
theorem dX0_setWhatIsForced_5 : decode cX0_setWhatIsForced 5 = .ok (.if_icmp .gt 75, 3) := by decide +kernel
theorem dX0_setWhatIsForced_8 : decode cX0_setWhatIsForced 8 = .ok (.aload_n 0, 1) := by decide +kernel
theorem dX0_setWhatIsForced_9 : decode cX0_setWhatIsForced 9 = .ok (.getfield 116, 3) := by decide +kernel
theorem dX0_setWhatIsForced_12 : decode cX0_setWhatIsForced 12 = .ok (.ifCond .ne 68, 3) := by decide +kernel
theorem dX0_setWhatIsForced_15 : decode cX0_setWhatIsForced 15 = .ok (.aload_n 0, 1) := by decide +kernel
theorem dX0_setWhatIsForced_16 : decode cX0_setWhatIsForced 16 = .ok (.aload_n 0, 1) := by decide +kernel
theorem dX0_setWhatIsForced_17 : decode cX0_setWhatIsForced 17 = .ok (.getfield 33, 3) := by decide +kernel
theorem dX0_setWhatIsForced_20 : decode cX0_setWhatIsForced 20 = .ok (.aload_n 0, 1) := by decide +kernel
theorem dX0_setWhatIsForced_21 : decode cX0_setWhatIsForced 21 = .ok (.getfield 12, 3) := by decide +kernel
theorem dX0_setWhatIsForced_24 : decode cX0_setWhatIsForced 24 = .ok (.aload_n 0, 1) := by decide +kernel
theorem dX0_setWhatIsForced_25 : decode cX0_setWhatIsForced 25 = .ok (.getfield 74, 3) := by decide +kernel
theorem dX0_setWhatIsForced_28 : decode cX0_setWhatIsForced 28 = .ok (.invokevirtual 96, 3) := by decide +kernel
theorem dX0_setWhatIsForced_31 : decode cX0_setWhatIsForced 31 = .ok (.putfield 116, 3) := by decide +kernel
theorem dX0_setWhatIsForced_34 : decode cX0_setWhatIsForced 34 = .ok (.aload_n 0, 1) := by decide +kernel
theorem dX0_setWhatIsForced_35 : decode cX0_setWhatIsForced 35 = .ok (.getfield 116, 3) := by decide +kernel
theorem dX0_setWhatIsForced_38 : decode cX0_setWhatIsForced 38 = .ok (.ifCond .eq 7, 3) := by decide +kernel
theorem dX0_setWhatIsForced_41 : decode cX0_setWhatIsForced 41 = .ok (.iconst 0, 1) := by decide +kernel
theorem dX0_setWhatIsForced_42 : decode cX0_setWhatIsForced 42 = .ok (.goto 18, 3) := by decide +kernel
theorem dX0_setWhatIsForced_45 : decode cX0_setWhatIsForced 45 = .ok (.aload_n 0, 1) := by decide +kernel
theorem dX0_setWhatIsForced_46 : decode cX0_setWhatIsForced 46 = .ok (.getfield 33, 3) := by decide +kernel
theorem dX0_setWhatIsForced_49 : decode cX0_setWhatIsForced 49 = .ok (.aload_n 0, 1) := by decide +kernel
theorem dX0_setWhatIsForced_50 : decode cX0_setWhatIsForced 50 = .ok (.getfield 12, 3) := by decide +kernel
theorem dX0_setWhatIsForced_53 : decode cX0_setWhatIsForced 53 = .ok (.aload_n 0, 1) := by decide +kernel
theorem dX0_setWhatIsForced_54 : decode cX0_setWhatIsForced 54 = .ok (.getfield 74, 3) := by decide +kernel
theorem dX0_setWhatIsForced_57 : decode cX0_setWhatIsForced 57 = .ok (.invokevirtual 128, 3) := by decide +kernel
theorem dX0_setWhatIsForced_60 : decode cX0_setWhatIsForced 60 = .ok (.istore_n 2, 1) := by decide +kernel
theorem dX0_setWhatIsForced_61 : decode cX0_setWhatIsForced 61 = .ok (.iload_n 2, 1) := by decide +kernel
theorem dX0_setWhatIsForced_62 : decode cX0_setWhatIsForced 62 = .ok (.ifCond .ne 4, 3) := by decide +kernel
theorem dX0_setWhatIsForced_65 : decode cX0_setWhatIsForced 65 = .ok (.return_, 1) := by decide +kernel
theorem dX0_setWhatIsForced_66 : decode cX0_setWhatIsForced 66 = .ok (.aload_n 0, 1) := by decide +kernel
theorem dX0_setWhatIsForced_67 : decode cX0_setWhatIsForced 67 = .ok (.getfield 12, 3) := by decide +kernel
theorem dX0_setWhatIsForced_70 : decode cX0_setWhatIsForced 70 = .ok (.iload_n 2, 1) := by decide +kernel
theorem dX0_setWhatIsForced_71 : decode cX0_setWhatIsForced 71 = .ok (.invokevirtual 132, 3) := by decide +kernel
theorem dX0_setWhatIsForced_74 : decode cX0_setWhatIsForced 74 = .ok (.iinc 1 1, 3) := by decide +kernel
theorem dX0_setWhatIsForced_77 : decode cX0_setWhatIsForced 77 = .ok (.goto (-75), 3) := by decide +kernel
theorem dX0_setWhatIsForced_80 : decode cX0_setWhatIsForced 80 = .ok (.return_, 1) := by decide +kernel
theorem dX1_init_0 : decode cX1_init 0 = .ok (.aload_n 0, 1) := by decide +kernel
theorem dX1_init_1 : decode cX1_init 1 = .ok (.invokespecial 3, 3) := by decide +kernel
theorem dX1_init_4 : decode cX1_init 4 = .ok (.aload_n 0, 1) := by decide +kernel
theorem dX1_init_5 : decode cX1_init 5 = .ok (.sipush 400, 3) := by decide +kernel
theorem dX1_init_8 : decode cX1_init 8 = .ok (.newarray .int, 2) := by decide +kernel
theorem dX1_init_10 : decode cX1_init 10 = .ok (.putfield 9, 3) := by decide +kernel
theorem dX1_init_13 : decode cX1_init 13 = .ok (.return_, 1) := by decide +kernel
theorem dX1_has_0 : decode cX1_has 0 = .ok (.iload_n 1, 1) := by decide +kernel
theorem dX1_has_1 : decode cX1_has 1 = .ok (.ifCond .lt 15, 3) := by decide +kernel
theorem dX1_has_4 : decode cX1_has 4 = .ok (.iload_n 1, 1) := by decide +kernel
theorem dX1_has_5 : decode cX1_has 5 = .ok (.aload_n 0, 1) := by decide +kernel
theorem dX1_has_6 : decode cX1_has 6 = .ok (.getfield 15, 3) := by decide +kernel
theorem dX1_has_9 : decode cX1_has 9 = .ok (.if_icmp .ge 7, 3) := by decide +kernel
theorem dX1_has_12 : decode cX1_has 12 = .ok (.iconst 1, 1) := by decide +kernel
theorem dX1_has_13 : decode cX1_has 13 = .ok (.goto 4, 3) := by decide +kernel
theorem dX1_has_16 : decode cX1_has 16 = .ok (.iconst 0, 1) := by decide +kernel
theorem dX1_has_17 : decode cX1_has 17 = .ok (.ireturn, 1) := by decide +kernel
theorem dX1_wordAt_0 : decode cX1_wordAt 0 = .ok (.aload_n 0, 1) := by decide +kernel
theorem dX1_wordAt_1 : decode cX1_wordAt 1 = .ok (.iload_n 1, 1) := by decide +kernel
theorem dX1_wordAt_2 : decode cX1_wordAt 2 = .ok (.invokevirtual 19, 3) := by decide +kernel
theorem dX1_wordAt_5 : decode cX1_wordAt 5 = .ok (.ifCond .eq 12, 3) := by decide +kernel
theorem dX1_wordAt_8 : decode cX1_wordAt 8 = .ok (.aload_n 0, 1) := by decide +kernel
theorem dX1_wordAt_9 : decode cX1_wordAt 9 = .ok (.getfield 9, 3) := by decide +kernel
theorem dX1_wordAt_12 : decode cX1_wordAt 12 = .ok (.iload_n 1, 1) := by decide +kernel
theorem dX1_wordAt_13 : decode cX1_wordAt 13 = .ok (.iaload, 1) := by decide +kernel
theorem dX1_wordAt_14 : decode cX1_wordAt 14 = .ok (.goto 5, 3) := by decide +kernel
theorem dX1_wordAt_17 : decode cX1_wordAt 17 = .ok (.bipush (-9), 2) := by decide +kernel
theorem dX1_wordAt_19 : decode cX1_wordAt 19 = .ok (.ireturn, 1) := by decide +kernel
theorem dX1_append_0 : decode cX1_append 0 = .ok (.aload_n 0, 1) := by decide +kernel
theorem dX1_append_1 : decode cX1_append 1 = .ok (.getfield 15, 3) := by decide +kernel
theorem dX1_append_4 : decode cX1_append 4 = .ok (.sipush 400, 3) := by decide +kernel
theorem dX1_append_7 : decode cX1_append 7 = .ok (.if_icmp .lt 5, 3) := by decide +kernel
theorem dX1_append_10 : decode cX1_append 10 = .ok (.iconst 0, 1) := by decide +kernel
theorem dX1_append_11 : decode cX1_append 11 = .ok (.ireturn, 1) := by decide +kernel
theorem dX1_append_12 : decode cX1_append 12 = .ok (.aload_n 0, 1) := by decide +kernel
theorem dX1_append_13 : decode cX1_append 13 = .ok (.getfield 9, 3) := by decide +kernel
theorem dX1_append_16 : decode cX1_append 16 = .ok (.aload_n 0, 1) := by decide +kernel
theorem dX1_append_17 : decode cX1_append 17 = .ok (.getfield 15, 3) := by decide +kernel
theorem dX1_append_20 : decode cX1_append 20 = .ok (.iload_n 1, 1) := by decide +kernel
theorem dX1_append_21 : decode cX1_append 21 = .ok (.iastore, 1) := by decide +kernel
theorem dX1_append_22 : decode cX1_append 22 = .ok (.aload_n 0, 1) := by decide +kernel
theorem dX1_append_23 : decode cX1_append 23 = .ok (.dup, 1) := by decide +kernel
theorem dX1_append_24 : decode cX1_append 24 = .ok (.getfield 15, 3) := by decide +kernel
theorem dX1_append_27 : decode cX1_append 27 = .ok (.iconst 1, 1) := by decide +kernel
theorem dX1_append_28 : decode cX1_append 28 = .ok (.iadd, 1) := by decide +kernel
theorem dX1_append_29 : decode cX1_append 29 = .ok (.putfield 15, 3) := by decide +kernel
theorem dX1_append_32 : decode cX1_append 32 = .ok (.iconst 1, 1) := by decide +kernel
theorem dX1_append_33 : decode cX1_append 33 = .ok (.ireturn, 1) := by decide +kernel
theorem dX1_replace_0 : decode cX1_replace 0 = .ok (.iload_n 1, 1) := by decide +kernel
theorem dX1_replace_1 : decode cX1_replace 1 = .ok (.aload_n 0, 1) := by decide +kernel
theorem dX1_replace_2 : decode cX1_replace 2 = .ok (.getfield 15, 3) := by decide +kernel
theorem dX1_replace_5 : decode cX1_replace 5 = .ok (.if_icmp .ne 9, 3) := by decide +kernel
theorem dX1_replace_8 : decode cX1_replace 8 = .ok (.aload_n 0, 1) := by decide +kernel
theorem dX1_replace_9 : decode cX1_replace 9 = .ok (.iload_n 2, 1) := by decide +kernel
theorem dX1_replace_10 : decode cX1_replace 10 = .ok (.invokevirtual 23, 3) := by decide +kernel
theorem dX1_replace_13 : decode cX1_replace 13 = .ok (.ireturn, 1) := by decide +kernel
theorem dX1_replace_14 : decode cX1_replace 14 = .ok (.aload_n 0, 1) := by decide +kernel
theorem dX1_replace_15 : decode cX1_replace 15 = .ok (.iload_n 1, 1) := by decide +kernel
theorem dX1_replace_16 : decode cX1_replace 16 = .ok (.invokevirtual 19, 3) := by decide +kernel
theorem dX1_replace_19 : decode cX1_replace 19 = .ok (.ifCond .ne 5, 3) := by decide +kernel
theorem dX1_replace_22 : decode cX1_replace 22 = .ok (.iconst 0, 1) := by decide +kernel
theorem dX1_replace_23 : decode cX1_replace 23 = .ok (.ireturn, 1) := by decide +kernel
theorem dX1_replace_24 : decode cX1_replace 24 = .ok (.aload_n 0, 1) := by decide +kernel
theorem dX1_replace_25 : decode cX1_replace 25 = .ok (.getfield 9, 3) := by decide +kernel
theorem dX1_replace_28 : decode cX1_replace 28 = .ok (.iload_n 1, 1) := by decide +kernel
theorem dX1_replace_29 : decode cX1_replace 29 = .ok (.iload_n 2, 1) := by decide +kernel
theorem dX1_replace_30 : decode cX1_replace 30 = .ok (.iastore, 1) := by decide +kernel
theorem dX1_replace_31 : decode cX1_replace 31 = .ok (.iconst 1, 1) := by decide +kernel
theorem dX1_replace_32 : decode cX1_replace 32 = .ok (.ireturn, 1) := by decide +kernel
theorem dX1_shorten_0 : decode cX1_shorten 0 = .ok (.iload_n 1, 1) := by decide +kernel
theorem dX1_shorten_1 : decode cX1_shorten 1 = .ok (.iconst 0, 1) := by decide +kernel
theorem dX1_shorten_2 : decode cX1_shorten 2 = .ok (.aload_n 0, 1) := by decide +kernel
theorem dX1_shorten_3 : decode cX1_shorten 3 = .ok (.getfield 15, 3) := by decide +kernel
theorem dX1_shorten_6 : decode cX1_shorten 6 = .ok (.invokestatic 26, 3) := by decide +kernel
theorem dX1_shorten_9 : decode cX1_shorten 9 = .ok (.ifCond .ne 5, 3) := by decide +kernel
theorem dX1_shorten_12 : decode cX1_shorten 12 = .ok (.iconst 0, 1) := by decide +kernel
theorem dX1_shorten_13 : decode cX1_shorten 13 = .ok (.ireturn, 1) := by decide +kernel
theorem dX1_shorten_14 : decode cX1_shorten 14 = .ok (.aload_n 0, 1) := by decide +kernel
theorem dX1_shorten_15 : decode cX1_shorten 15 = .ok (.iload_n 1, 1) := by decide +kernel
theorem dX1_shorten_16 : decode cX1_shorten 16 = .ok (.putfield 15, 3) := by decide +kernel
theorem dX1_shorten_19 : decode cX1_shorten 19 = .ok (.iconst 1, 1) := by decide +kernel
theorem dX1_shorten_20 : decode cX1_shorten 20 = .ok (.ireturn, 1) := by decide +kernel
theorem dX2_init_0 : decode cX2_init 0 = .ok (.aload_n 0, 1) := by decide +kernel
theorem dX2_init_1 : decode cX2_init 1 = .ok (.invokespecial 3, 3) := by decide +kernel
theorem dX2_init_4 : decode cX2_init 4 = .ok (.aload_n 0, 1) := by decide +kernel
theorem dX2_init_5 : decode cX2_init 5 = .ok (.bipush 17, 2) := by decide +kernel
theorem dX2_init_7 : decode cX2_init 7 = .ok (.newarray .int, 2) := by decide +kernel
theorem dX2_init_9 : decode cX2_init 9 = .ok (.putfield 9, 3) := by decide +kernel
theorem dX2_init_12 : decode cX2_init 12 = .ok (.aload_n 0, 1) := by decide +kernel
theorem dX2_init_13 : decode cX2_init 13 = .ok (.bipush 120, 2) := by decide +kernel
theorem dX2_init_15 : decode cX2_init 15 = .ok (.newarray .int, 2) := by decide +kernel
theorem dX2_init_17 : decode cX2_init 17 = .ok (.putfield 15, 3) := by decide +kernel
theorem dX2_init_20 : decode cX2_init 20 = .ok (.aload_n 0, 1) := by decide +kernel
theorem dX2_init_21 : decode cX2_init 21 = .ok (.bipush 120, 2) := by decide +kernel
theorem dX2_init_23 : decode cX2_init 23 = .ok (.newarray .int, 2) := by decide +kernel
theorem dX2_init_25 : decode cX2_init 25 = .ok (.putfield 18, 3) := by decide +kernel
theorem dX2_init_28 : decode cX2_init 28 = .ok (.aload_n 0, 1) := by decide +kernel
theorem dX2_init_29 : decode cX2_init 29 = .ok (.bipush 120, 2) := by decide +kernel
theorem dX2_init_31 : decode cX2_init 31 = .ok (.newarray .int, 2) := by decide +kernel
theorem dX2_init_33 : decode cX2_init 33 = .ok (.putfield 21, 3) := by decide +kernel
theorem dX2_init_36 : decode cX2_init 36 = .ok (.aload_n 0, 1) := by decide +kernel
theorem dX2_init_37 : decode cX2_init 37 = .ok (.bipush 21, 2) := by decide +kernel
theorem dX2_init_39 : decode cX2_init 39 = .ok (.newarray .int, 2) := by decide +kernel
theorem dX2_init_41 : decode cX2_init 41 = .ok (.putfield 24, 3) := by decide +kernel
theorem dX2_init_44 : decode cX2_init 44 = .ok (.aload_n 0, 1) := by decide +kernel
theorem dX2_init_45 : decode cX2_init 45 = .ok (.bipush 20, 2) := by decide +kernel
theorem dX2_init_47 : decode cX2_init 47 = .ok (.newarray .int, 2) := by decide +kernel
theorem dX2_init_49 : decode cX2_init 49 = .ok (.putfield 27, 3) := by decide +kernel
theorem dX2_init_52 : decode cX2_init 52 = .ok (.return_, 1) := by decide +kernel
theorem dX2_addTerm_0 : decode cX2_addTerm 0 = .ok (.iload_n 2, 1) := by decide +kernel
theorem dX2_addTerm_1 : decode cX2_addTerm 1 = .ok (.invokestatic 30, 3) := by decide +kernel
theorem dX2_addTerm_4 : decode cX2_addTerm 4 = .ok (.invokestatic 34, 3) := by decide +kernel
theorem dX2_addTerm_7 : decode cX2_addTerm 7 = .ok (.istore_n 3, 1) := by decide +kernel
theorem dX2_addTerm_8 : decode cX2_addTerm 8 = .ok (.aload_n 0, 1) := by decide +kernel
theorem dX2_addTerm_9 : decode cX2_addTerm 9 = .ok (.getfield 37, 3) := by decide +kernel
theorem dX2_addTerm_12 : decode cX2_addTerm 12 = .ok (.bipush 20, 2) := by decide +kernel
theorem dX2_addTerm_14 : decode cX2_addTerm 14 = .ok (.if_icmp .ge 21, 3) := by decide +kernel
theorem dX2_addTerm_17 : decode cX2_addTerm 17 = .ok (.aload_n 0, 1) := by decide +kernel
theorem dX2_addTerm_18 : decode cX2_addTerm 18 = .ok (.getfield 41, 3) := by decide +kernel
theorem dX2_addTerm_21 : decode cX2_addTerm 21 = .ok (.bipush 120, 2) := by decide +kernel
theorem dX2_addTerm_23 : decode cX2_addTerm 23 = .ok (.if_icmp .ge 12, 3) := by decide +kernel
theorem dX2_addTerm_26 : decode cX2_addTerm 26 = .ok (.aload_n 0, 1) := by decide +kernel
theorem dX2_addTerm_27 : decode cX2_addTerm 27 = .ok (.getfield 44, 3) := by decide +kernel
theorem dX2_addTerm_30 : decode cX2_addTerm 30 = .ok (.iload_n 3, 1) := by decide +kernel
theorem dX2_addTerm_31 : decode cX2_addTerm 31 = .ok (.iand, 1) := by decide +kernel
theorem dX2_addTerm_32 : decode cX2_addTerm 32 = .ok (.ifCond .eq 5, 3) := by decide +kernel
theorem dX2_addTerm_35 : decode cX2_addTerm 35 = .ok (.iconst 0, 1) := by decide +kernel
theorem dX2_addTerm_36 : decode cX2_addTerm 36 = .ok (.ireturn, 1) := by decide +kernel
theorem dX2_addTerm_37 : decode cX2_addTerm 37 = .ok (.aload_n 0, 1) := by decide +kernel
theorem dX2_addTerm_38 : decode cX2_addTerm 38 = .ok (.getfield 15, 3) := by decide +kernel
theorem dX2_addTerm_41 : decode cX2_addTerm 41 = .ok (.aload_n 0, 1) := by decide +kernel
theorem dX2_addTerm_42 : decode cX2_addTerm 42 = .ok (.getfield 41, 3) := by decide +kernel
theorem dX2_addTerm_45 : decode cX2_addTerm 45 = .ok (.iload_n 1, 1) := by decide +kernel
theorem dX2_addTerm_46 : decode cX2_addTerm 46 = .ok (.iastore, 1) := by decide +kernel
theorem dX2_addTerm_47 : decode cX2_addTerm 47 = .ok (.aload_n 0, 1) := by decide +kernel
theorem dX2_addTerm_48 : decode cX2_addTerm 48 = .ok (.getfield 18, 3) := by decide +kernel
theorem dX2_addTerm_51 : decode cX2_addTerm 51 = .ok (.aload_n 0, 1) := by decide +kernel
theorem dX2_addTerm_52 : decode cX2_addTerm 52 = .ok (.getfield 41, 3) := by decide +kernel
theorem dX2_addTerm_55 : decode cX2_addTerm 55 = .ok (.iload_n 2, 1) := by decide +kernel
theorem dX2_addTerm_56 : decode cX2_addTerm 56 = .ok (.iastore, 1) := by decide +kernel
theorem dX2_addTerm_57 : decode cX2_addTerm 57 = .ok (.aload_n 0, 1) := by decide +kernel
theorem dX2_addTerm_58 : decode cX2_addTerm 58 = .ok (.getfield 21, 3) := by decide +kernel
theorem dX2_addTerm_61 : decode cX2_addTerm 61 = .ok (.aload_n 0, 1) := by decide +kernel
theorem dX2_addTerm_62 : decode cX2_addTerm 62 = .ok (.getfield 41, 3) := by decide +kernel
theorem dX2_addTerm_65 : decode cX2_addTerm 65 = .ok (.iload_n 3, 1) := by decide +kernel
theorem dX2_addTerm_66 : decode cX2_addTerm 66 = .ok (.iastore, 1) := by decide +kernel
theorem dX2_addTerm_67 : decode cX2_addTerm 67 = .ok (.aload_n 0, 1) := by decide +kernel
theorem dX2_addTerm_68 : decode cX2_addTerm 68 = .ok (.dup, 1) := by decide +kernel
theorem dX2_addTerm_69 : decode cX2_addTerm 69 = .ok (.getfield 41, 3) := by decide +kernel
theorem dX2_addTerm_72 : decode cX2_addTerm 72 = .ok (.iconst 1, 1) := by decide +kernel
theorem dX2_addTerm_73 : decode cX2_addTerm 73 = .ok (.iadd, 1) := by decide +kernel
theorem dX2_addTerm_74 : decode cX2_addTerm 74 = .ok (.putfield 41, 3) := by decide +kernel
theorem dX2_addTerm_77 : decode cX2_addTerm 77 = .ok (.aload_n 0, 1) := by decide +kernel
theorem dX2_addTerm_78 : decode cX2_addTerm 78 = .ok (.dup, 1) := by decide +kernel
theorem dX2_addTerm_79 : decode cX2_addTerm 79 = .ok (.getfield 44, 3) := by decide +kernel
theorem dX2_addTerm_82 : decode cX2_addTerm 82 = .ok (.iload_n 3, 1) := by decide +kernel
theorem dX2_addTerm_83 : decode cX2_addTerm 83 = .ok (.ior, 1) := by decide +kernel
theorem dX2_addTerm_84 : decode cX2_addTerm 84 = .ok (.putfield 44, 3) := by decide +kernel
theorem dX2_addTerm_87 : decode cX2_addTerm 87 = .ok (.iconst 1, 1) := by decide +kernel
theorem dX2_addTerm_88 : decode cX2_addTerm 88 = .ok (.ireturn, 1) := by decide +kernel
theorem dX2_makeConstraint_0 : decode cX2_makeConstraint 0 = .ok (.aload_n 0, 1) := by decide +kernel
theorem dX2_makeConstraint_1 : decode cX2_makeConstraint 1 = .ok (.getfield 37, 3) := by decide +kernel
theorem dX2_makeConstraint_4 : decode cX2_makeConstraint 4 = .ok (.bipush 20, 2) := by decide +kernel
theorem dX2_makeConstraint_6 : decode cX2_makeConstraint 6 = .ok (.if_icmp .lt 5, 3) := by decide +kernel
theorem dX2_makeConstraint_9 : decode cX2_makeConstraint 9 = .ok (.iconst (-1), 1) := by decide +kernel
theorem dX2_makeConstraint_10 : decode cX2_makeConstraint 10 = .ok (.ireturn, 1) := by decide +kernel
theorem dX2_makeConstraint_11 : decode cX2_makeConstraint 11 = .ok (.aload_n 0, 1) := by decide +kernel
theorem dX2_makeConstraint_12 : decode cX2_makeConstraint 12 = .ok (.getfield 37, 3) := by decide +kernel
theorem dX2_makeConstraint_15 : decode cX2_makeConstraint 15 = .ok (.istore_n 2, 1) := by decide +kernel
theorem dX2_makeConstraint_16 : decode cX2_makeConstraint 16 = .ok (.aload_n 0, 1) := by decide +kernel
theorem dX2_makeConstraint_17 : decode cX2_makeConstraint 17 = .ok (.getfield 27, 3) := by decide +kernel
theorem dX2_makeConstraint_20 : decode cX2_makeConstraint 20 = .ok (.iload_n 2, 1) := by decide +kernel
theorem dX2_makeConstraint_21 : decode cX2_makeConstraint 21 = .ok (.iload_n 1, 1) := by decide +kernel
theorem dX2_makeConstraint_22 : decode cX2_makeConstraint 22 = .ok (.iastore, 1) := by decide +kernel
theorem dX2_makeConstraint_23 : decode cX2_makeConstraint 23 = .ok (.aload_n 0, 1) := by decide +kernel
theorem dX2_makeConstraint_24 : decode cX2_makeConstraint 24 = .ok (.dup, 1) := by decide +kernel
theorem dX2_makeConstraint_25 : decode cX2_makeConstraint 25 = .ok (.getfield 37, 3) := by decide +kernel
theorem dX2_makeConstraint_28 : decode cX2_makeConstraint 28 = .ok (.iconst 1, 1) := by decide +kernel
theorem dX2_makeConstraint_29 : decode cX2_makeConstraint 29 = .ok (.iadd, 1) := by decide +kernel
theorem dX2_makeConstraint_30 : decode cX2_makeConstraint 30 = .ok (.putfield 37, 3) := by decide +kernel
theorem dX2_makeConstraint_33 : decode cX2_makeConstraint 33 = .ok (.aload_n 0, 1) := by decide +kernel
theorem dX2_makeConstraint_34 : decode cX2_makeConstraint 34 = .ok (.getfield 24, 3) := by decide +kernel
theorem dX2_makeConstraint_37 : decode cX2_makeConstraint 37 = .ok (.aload_n 0, 1) := by decide +kernel
theorem dX2_makeConstraint_38 : decode cX2_makeConstraint 38 = .ok (.getfield 37, 3) := by decide +kernel
theorem dX2_makeConstraint_41 : decode cX2_makeConstraint 41 = .ok (.aload_n 0, 1) := by decide +kernel
theorem dX2_makeConstraint_42 : decode cX2_makeConstraint 42 = .ok (.getfield 41, 3) := by decide +kernel
theorem dX2_makeConstraint_45 : decode cX2_makeConstraint 45 = .ok (.iastore, 1) := by decide +kernel
theorem dX2_makeConstraint_46 : decode cX2_makeConstraint 46 = .ok (.aload_n 0, 1) := by decide +kernel
theorem dX2_makeConstraint_47 : decode cX2_makeConstraint 47 = .ok (.iconst 0, 1) := by decide +kernel
theorem dX2_makeConstraint_48 : decode cX2_makeConstraint 48 = .ok (.putfield 44, 3) := by decide +kernel
theorem dX2_makeConstraint_51 : decode cX2_makeConstraint 51 = .ok (.iload_n 2, 1) := by decide +kernel
theorem dX2_makeConstraint_52 : decode cX2_makeConstraint 52 = .ok (.ireturn, 1) := by decide +kernel
theorem dX2_costOf_0 : decode cX2_costOf 0 = .ok (.iconst 0, 1) := by decide +kernel
theorem dX2_costOf_1 : decode cX2_costOf 1 = .ok (.istore_n 2, 1) := by decide +kernel
theorem dX2_costOf_2 : decode cX2_costOf 2 = .ok (.iconst 1, 1) := by decide +kernel
theorem dX2_costOf_3 : decode cX2_costOf 3 = .ok (.istore_n 3, 1) := by decide +kernel
theorem dX2_costOf_4 : decode cX2_costOf 4 = .ok (.iload_n 3, 1) := by decide +kernel
theorem dX2_costOf_5 : decode cX2_costOf 5 = .ok (.bipush 16, 2) := by decide +kernel
theorem dX2_costOf_7 : decode cX2_costOf 7 = .ok (.if_icmp .gt 26, 3) := by decide +kernel
theorem dX2_costOf_10 : decode cX2_costOf 10 = .ok (.iload_n 2, 1) := by decide +kernel
theorem dX2_costOf_11 : decode cX2_costOf 11 = .ok (.iload_n 1, 1) := by decide +kernel
theorem dX2_costOf_12 : decode cX2_costOf 12 = .ok (.iload_n 3, 1) := by decide +kernel
theorem dX2_costOf_13 : decode cX2_costOf 13 = .ok (.iconst 1, 1) := by decide +kernel
theorem dX2_costOf_14 : decode cX2_costOf 14 = .ok (.isub, 1) := by decide +kernel
theorem dX2_costOf_15 : decode cX2_costOf 15 = .ok (.ishr, 1) := by decide +kernel
theorem dX2_costOf_16 : decode cX2_costOf 16 = .ok (.iconst 1, 1) := by decide +kernel
theorem dX2_costOf_17 : decode cX2_costOf 17 = .ok (.iand, 1) := by decide +kernel
theorem dX2_costOf_18 : decode cX2_costOf 18 = .ok (.aload_n 0, 1) := by decide +kernel
theorem dX2_costOf_19 : decode cX2_costOf 19 = .ok (.getfield 9, 3) := by decide +kernel
theorem dX2_costOf_22 : decode cX2_costOf 22 = .ok (.iload_n 3, 1) := by decide +kernel
theorem dX2_costOf_23 : decode cX2_costOf 23 = .ok (.iaload, 1) := by decide +kernel
theorem dX2_costOf_24 : decode cX2_costOf 24 = .ok (.imul, 1) := by decide +kernel
theorem dX2_costOf_25 : decode cX2_costOf 25 = .ok (.iadd, 1) := by decide +kernel
theorem dX2_costOf_26 : decode cX2_costOf 26 = .ok (.istore_n 2, 1) := by decide +kernel
theorem dX2_costOf_27 : decode cX2_costOf 27 = .ok (.iinc 3 1, 3) := by decide +kernel
theorem dX2_costOf_30 : decode cX2_costOf 30 = .ok (.goto (-26), 3) := by decide +kernel
theorem dX2_costOf_33 : decode cX2_costOf 33 = .ok (.iload_n 2, 1) := by decide +kernel
theorem dX2_costOf_34 : decode cX2_costOf 34 = .ok (.ireturn, 1) := by decide +kernel
theorem dX2_slackOf_0 : decode cX2_slackOf 0 = .ok (.iconst 0, 1) := by decide +kernel
theorem dX2_slackOf_1 : decode cX2_slackOf 1 = .ok (.istore_n 3, 1) := by decide +kernel
theorem dX2_slackOf_2 : decode cX2_slackOf 2 = .ok (.aload_n 0, 1) := by decide +kernel
theorem dX2_slackOf_3 : decode cX2_slackOf 3 = .ok (.getfield 24, 3) := by decide +kernel
theorem dX2_slackOf_6 : decode cX2_slackOf 6 = .ok (.iload_n 1, 1) := by decide +kernel
theorem dX2_slackOf_7 : decode cX2_slackOf 7 = .ok (.iaload, 1) := by decide +kernel
theorem dX2_slackOf_8 : decode cX2_slackOf 8 = .ok (.istore 4, 2) := by decide +kernel
theorem dX2_slackOf_10 : decode cX2_slackOf 10 = .ok (.iload 4, 2) := by decide +kernel
theorem dX2_slackOf_12 : decode cX2_slackOf 12 = .ok (.aload_n 0, 1) := by decide +kernel
theorem dX2_slackOf_13 : decode cX2_slackOf 13 = .ok (.getfield 24, 3) := by decide +kernel
theorem dX2_slackOf_16 : decode cX2_slackOf 16 = .ok (.iload_n 1, 1) := by decide +kernel
theorem dX2_slackOf_17 : decode cX2_slackOf 17 = .ok (.iconst 1, 1) := by decide +kernel
theorem dX2_slackOf_18 : decode cX2_slackOf 18 = .ok (.iadd, 1) := by decide +kernel
theorem dX2_slackOf_19 : decode cX2_slackOf 19 = .ok (.iaload, 1) := by decide +kernel
theorem dX2_slackOf_20 : decode cX2_slackOf 20 = .ok (.if_icmp .ge 55, 3) := by decide +kernel
theorem dX2_slackOf_23 : decode cX2_slackOf 23 = .ok (.aload_n 0, 1) := by decide +kernel
theorem dX2_slackOf_24 : decode cX2_slackOf 24 = .ok (.getfield 18, 3) := by decide +kernel
theorem dX2_slackOf_27 : decode cX2_slackOf 27 = .ok (.iload 4, 2) := by decide +kernel
theorem dX2_slackOf_29 : decode cX2_slackOf 29 = .ok (.iaload, 1) := by decide +kernel
theorem dX2_slackOf_30 : decode cX2_slackOf 30 = .ok (.ifCond .le 10, 3) := by decide +kernel
theorem dX2_slackOf_33 : decode cX2_slackOf 33 = .ok (.aload_n 2, 1) := by decide +kernel
theorem dX2_slackOf_34 : decode cX2_slackOf 34 = .ok (.getfield 47, 3) := by decide +kernel
theorem dX2_slackOf_37 : decode cX2_slackOf 37 = .ok (.goto 7, 3) := by decide +kernel
theorem dX2_slackOf_40 : decode cX2_slackOf 40 = .ok (.aload_n 2, 1) := by decide +kernel
theorem dX2_slackOf_41 : decode cX2_slackOf 41 = .ok (.getfield 52, 3) := by decide +kernel
theorem dX2_slackOf_44 : decode cX2_slackOf 44 = .ok (.istore 5, 2) := by decide +kernel
theorem dX2_slackOf_46 : decode cX2_slackOf 46 = .ok (.iload 5, 2) := by decide +kernel
theorem dX2_slackOf_48 : decode cX2_slackOf 48 = .ok (.aload_n 0, 1) := by decide +kernel
theorem dX2_slackOf_49 : decode cX2_slackOf 49 = .ok (.getfield 21, 3) := by decide +kernel
theorem dX2_slackOf_52 : decode cX2_slackOf 52 = .ok (.iload 4, 2) := by decide +kernel
theorem dX2_slackOf_54 : decode cX2_slackOf 54 = .ok (.iaload, 1) := by decide +kernel
theorem dX2_slackOf_55 : decode cX2_slackOf 55 = .ok (.iand, 1) := by decide +kernel
theorem dX2_slackOf_56 : decode cX2_slackOf 56 = .ok (.ifCond .ne 13, 3) := by decide +kernel
theorem dX2_slackOf_59 : decode cX2_slackOf 59 = .ok (.iload_n 3, 1) := by decide +kernel
theorem dX2_slackOf_60 : decode cX2_slackOf 60 = .ok (.aload_n 0, 1) := by decide +kernel
theorem dX2_slackOf_61 : decode cX2_slackOf 61 = .ok (.getfield 15, 3) := by decide +kernel
theorem dX2_slackOf_64 : decode cX2_slackOf 64 = .ok (.iload 4, 2) := by decide +kernel
theorem dX2_slackOf_66 : decode cX2_slackOf 66 = .ok (.iaload, 1) := by decide +kernel
theorem dX2_slackOf_67 : decode cX2_slackOf 67 = .ok (.iadd, 1) := by decide +kernel
theorem dX2_slackOf_68 : decode cX2_slackOf 68 = .ok (.istore_n 3, 1) := by decide +kernel
theorem dX2_slackOf_69 : decode cX2_slackOf 69 = .ok (.iinc 4 1, 3) := by decide +kernel
theorem dX2_slackOf_72 : decode cX2_slackOf 72 = .ok (.goto (-62), 3) := by decide +kernel
theorem dX2_slackOf_75 : decode cX2_slackOf 75 = .ok (.iload_n 3, 1) := by decide +kernel
theorem dX2_slackOf_76 : decode cX2_slackOf 76 = .ok (.aload_n 0, 1) := by decide +kernel
theorem dX2_slackOf_77 : decode cX2_slackOf 77 = .ok (.getfield 27, 3) := by decide +kernel
theorem dX2_slackOf_80 : decode cX2_slackOf 80 = .ok (.iload_n 1, 1) := by decide +kernel
theorem dX2_slackOf_81 : decode cX2_slackOf 81 = .ok (.iaload, 1) := by decide +kernel
theorem dX2_slackOf_82 : decode cX2_slackOf 82 = .ok (.isub, 1) := by decide +kernel
theorem dX2_slackOf_83 : decode cX2_slackOf 83 = .ok (.ireturn, 1) := by decide +kernel
theorem dX2_limitSlack_0 : decode cX2_limitSlack 0 = .ok (.iload_n 2, 1) := by decide +kernel
theorem dX2_limitSlack_1 : decode cX2_limitSlack 1 = .ok (.aload_n 0, 1) := by decide +kernel
theorem dX2_limitSlack_2 : decode cX2_limitSlack 2 = .ok (.aload_n 1, 1) := by decide +kernel
theorem dX2_limitSlack_3 : decode cX2_limitSlack 3 = .ok (.getfield 52, 3) := by decide +kernel
theorem dX2_limitSlack_6 : decode cX2_limitSlack 6 = .ok (.invokevirtual 55, 3) := by decide +kernel
theorem dX2_limitSlack_9 : decode cX2_limitSlack 9 = .ok (.isub, 1) := by decide +kernel
theorem dX2_limitSlack_10 : decode cX2_limitSlack 10 = .ok (.ireturn, 1) := by decide +kernel
theorem dX2_isBroken_0 : decode cX2_isBroken 0 = .ok (.iconst 0, 1) := by decide +kernel
theorem dX2_isBroken_1 : decode cX2_isBroken 1 = .ok (.istore_n 3, 1) := by decide +kernel
theorem dX2_isBroken_2 : decode cX2_isBroken 2 = .ok (.iload_n 3, 1) := by decide +kernel
theorem dX2_isBroken_3 : decode cX2_isBroken 3 = .ok (.aload_n 0, 1) := by decide +kernel
theorem dX2_isBroken_4 : decode cX2_isBroken 4 = .ok (.getfield 37, 3) := by decide +kernel
theorem dX2_isBroken_7 : decode cX2_isBroken 7 = .ok (.if_icmp .ge 20, 3) := by decide +kernel
theorem dX2_isBroken_10 : decode cX2_isBroken 10 = .ok (.aload_n 0, 1) := by decide +kernel
theorem dX2_isBroken_11 : decode cX2_isBroken 11 = .ok (.iload_n 3, 1) := by decide +kernel
theorem dX2_isBroken_12 : decode cX2_isBroken 12 = .ok (.aload_n 1, 1) := by decide +kernel
theorem dX2_isBroken_13 : decode cX2_isBroken 13 = .ok (.invokevirtual 58, 3) := by decide +kernel
theorem dX2_isBroken_16 : decode cX2_isBroken 16 = .ok (.ifCond .ge 5, 3) := by decide +kernel
theorem dX2_isBroken_19 : decode cX2_isBroken 19 = .ok (.iconst 1, 1) := by decide +kernel
theorem dX2_isBroken_20 : decode cX2_isBroken 20 = .ok (.ireturn, 1) := by decide +kernel
theorem dX2_isBroken_21 : decode cX2_isBroken 21 = .ok (.iinc 3 1, 3) := by decide +kernel
theorem dX2_isBroken_24 : decode cX2_isBroken 24 = .ok (.goto (-22), 3) := by decide +kernel
theorem dX2_isBroken_27 : decode cX2_isBroken 27 = .ok (.aload_n 0, 1) := by decide +kernel
theorem dX2_isBroken_28 : decode cX2_isBroken 28 = .ok (.aload_n 1, 1) := by decide +kernel
theorem dX2_isBroken_29 : decode cX2_isBroken 29 = .ok (.iload_n 2, 1) := by decide +kernel
theorem dX2_isBroken_30 : decode cX2_isBroken 30 = .ok (.invokevirtual 62, 3) := by decide +kernel
theorem dX2_isBroken_33 : decode cX2_isBroken 33 = .ok (.ifCond .ge 7, 3) := by decide +kernel
theorem dX2_isBroken_36 : decode cX2_isBroken 36 = .ok (.iconst 1, 1) := by decide +kernel
theorem dX2_isBroken_37 : decode cX2_isBroken 37 = .ok (.goto 4, 3) := by decide +kernel
theorem dX2_isBroken_40 : decode cX2_isBroken 40 = .ok (.iconst 0, 1) := by decide +kernel
theorem dX2_isBroken_41 : decode cX2_isBroken 41 = .ok (.ireturn, 1) := by decide +kernel
theorem dX2_forcedLiteral_0 : decode cX2_forcedLiteral 0 = .ok (.iconst 0, 1) := by decide +kernel
theorem dX2_forcedLiteral_1 : decode cX2_forcedLiteral 1 = .ok (.istore_n 3, 1) := by decide +kernel
theorem dX2_forcedLiteral_2 : decode cX2_forcedLiteral 2 = .ok (.iload_n 3, 1) := by decide +kernel
theorem dX2_forcedLiteral_3 : decode cX2_forcedLiteral 3 = .ok (.aload_n 0, 1) := by decide +kernel
theorem dX2_forcedLiteral_4 : decode cX2_forcedLiteral 4 = .ok (.getfield 37, 3) := by decide +kernel
theorem dX2_forcedLiteral_7 : decode cX2_forcedLiteral 7 = .ok (.if_icmp .ge 25, 3) := by decide +kernel
theorem dX2_forcedLiteral_10 : decode cX2_forcedLiteral 10 = .ok (.aload_n 0, 1) := by decide +kernel
theorem dX2_forcedLiteral_11 : decode cX2_forcedLiteral 11 = .ok (.iload_n 3, 1) := by decide +kernel
theorem dX2_forcedLiteral_12 : decode cX2_forcedLiteral 12 = .ok (.aload_n 1, 1) := by decide +kernel
theorem dX2_forcedLiteral_13 : decode cX2_forcedLiteral 13 = .ok (.invokevirtual 66, 3) := by decide +kernel
theorem dX2_forcedLiteral_16 : decode cX2_forcedLiteral 16 = .ok (.istore 4, 2) := by decide +kernel
theorem dX2_forcedLiteral_18 : decode cX2_forcedLiteral 18 = .ok (.iload 4, 2) := by decide +kernel
theorem dX2_forcedLiteral_20 : decode cX2_forcedLiteral 20 = .ok (.ifCond .eq 6, 3) := by decide +kernel
theorem dX2_forcedLiteral_23 : decode cX2_forcedLiteral 23 = .ok (.iload 4, 2) := by decide +kernel
theorem dX2_forcedLiteral_25 : decode cX2_forcedLiteral 25 = .ok (.ireturn, 1) := by decide +kernel
theorem dX2_forcedLiteral_26 : decode cX2_forcedLiteral 26 = .ok (.iinc 3 1, 3) := by decide +kernel
theorem dX2_forcedLiteral_29 : decode cX2_forcedLiteral 29 = .ok (.goto (-27), 3) := by decide +kernel
theorem dX2_forcedLiteral_32 : decode cX2_forcedLiteral 32 = .ok (.aload_n 0, 1) := by decide +kernel
theorem dX2_forcedLiteral_33 : decode cX2_forcedLiteral 33 = .ok (.aload_n 1, 1) := by decide +kernel
theorem dX2_forcedLiteral_34 : decode cX2_forcedLiteral 34 = .ok (.iload_n 2, 1) := by decide +kernel
theorem dX2_forcedLiteral_35 : decode cX2_forcedLiteral 35 = .ok (.invokevirtual 69, 3) := by decide +kernel
theorem dX2_forcedLiteral_38 : decode cX2_forcedLiteral 38 = .ok (.ireturn, 1) := by decide +kernel
theorem dX2_forcedBy_0 : decode cX2_forcedBy 0 = .ok (.aload_n 0, 1) := by decide +kernel
theorem dX2_forcedBy_1 : decode cX2_forcedBy 1 = .ok (.iload_n 1, 1) := by decide +kernel
theorem dX2_forcedBy_2 : decode cX2_forcedBy 2 = .ok (.aload_n 2, 1) := by decide +kernel
theorem dX2_forcedBy_3 : decode cX2_forcedBy 3 = .ok (.invokevirtual 58, 3) := by decide +kernel
theorem dX2_forcedBy_6 : decode cX2_forcedBy 6 = .ok (.istore_n 3, 1) := by decide +kernel
theorem dX2_forcedBy_7 : decode cX2_forcedBy 7 = .ok (.aload_n 2, 1) := by decide +kernel
theorem dX2_forcedBy_8 : decode cX2_forcedBy 8 = .ok (.getfield 52, 3) := by decide +kernel
theorem dX2_forcedBy_11 : decode cX2_forcedBy 11 = .ok (.aload_n 2, 1) := by decide +kernel
theorem dX2_forcedBy_12 : decode cX2_forcedBy 12 = .ok (.getfield 47, 3) := by decide +kernel
theorem dX2_forcedBy_15 : decode cX2_forcedBy 15 = .ok (.ior, 1) := by decide +kernel
theorem dX2_forcedBy_16 : decode cX2_forcedBy 16 = .ok (.istore 4, 2) := by decide +kernel
theorem dX2_forcedBy_18 : decode cX2_forcedBy 18 = .ok (.aload_n 0, 1) := by decide +kernel
theorem dX2_forcedBy_19 : decode cX2_forcedBy 19 = .ok (.getfield 24, 3) := by decide +kernel
theorem dX2_forcedBy_22 : decode cX2_forcedBy 22 = .ok (.iload_n 1, 1) := by decide +kernel
theorem dX2_forcedBy_23 : decode cX2_forcedBy 23 = .ok (.iaload, 1) := by decide +kernel
theorem dX2_forcedBy_24 : decode cX2_forcedBy 24 = .ok (.istore 5, 2) := by decide +kernel
theorem dX2_forcedBy_26 : decode cX2_forcedBy 26 = .ok (.iload 5, 2) := by decide +kernel
theorem dX2_forcedBy_28 : decode cX2_forcedBy 28 = .ok (.aload_n 0, 1) := by decide +kernel
theorem dX2_forcedBy_29 : decode cX2_forcedBy 29 = .ok (.getfield 24, 3) := by decide +kernel
theorem dX2_forcedBy_32 : decode cX2_forcedBy 32 = .ok (.iload_n 1, 1) := by decide +kernel
theorem dX2_forcedBy_33 : decode cX2_forcedBy 33 = .ok (.iconst 1, 1) := by decide +kernel
theorem dX2_forcedBy_34 : decode cX2_forcedBy 34 = .ok (.iadd, 1) := by decide +kernel
theorem dX2_forcedBy_35 : decode cX2_forcedBy 35 = .ok (.iaload, 1) := by decide +kernel
theorem dX2_forcedBy_36 : decode cX2_forcedBy 36 = .ok (.if_icmp .ge 41, 3) := by decide +kernel
theorem dX2_forcedBy_39 : decode cX2_forcedBy 39 = .ok (.aload_n 0, 1) := by decide +kernel
theorem dX2_forcedBy_40 : decode cX2_forcedBy 40 = .ok (.getfield 15, 3) := by decide +kernel
theorem dX2_forcedBy_43 : decode cX2_forcedBy 43 = .ok (.iload 5, 2) := by decide +kernel
theorem dX2_forcedBy_45 : decode cX2_forcedBy 45 = .ok (.iaload, 1) := by decide +kernel
theorem dX2_forcedBy_46 : decode cX2_forcedBy 46 = .ok (.iload_n 3, 1) := by decide +kernel
theorem dX2_forcedBy_47 : decode cX2_forcedBy 47 = .ok (.if_icmp .le 24, 3) := by decide +kernel
theorem dX2_forcedBy_50 : decode cX2_forcedBy 50 = .ok (.iload 4, 2) := by decide +kernel
theorem dX2_forcedBy_52 : decode cX2_forcedBy 52 = .ok (.aload_n 0, 1) := by decide +kernel
theorem dX2_forcedBy_53 : decode cX2_forcedBy 53 = .ok (.getfield 21, 3) := by decide +kernel
theorem dX2_forcedBy_56 : decode cX2_forcedBy 56 = .ok (.iload 5, 2) := by decide +kernel
theorem dX2_forcedBy_58 : decode cX2_forcedBy 58 = .ok (.iaload, 1) := by decide +kernel
theorem dX2_forcedBy_59 : decode cX2_forcedBy 59 = .ok (.iand, 1) := by decide +kernel
theorem dX2_forcedBy_60 : decode cX2_forcedBy 60 = .ok (.ifCond .ne 11, 3) := by decide +kernel
theorem dX2_forcedBy_63 : decode cX2_forcedBy 63 = .ok (.aload_n 0, 1) := by decide +kernel
theorem dX2_forcedBy_64 : decode cX2_forcedBy 64 = .ok (.getfield 18, 3) := by decide +kernel
theorem dX2_forcedBy_67 : decode cX2_forcedBy 67 = .ok (.iload 5, 2) := by decide +kernel
theorem dX2_forcedBy_69 : decode cX2_forcedBy 69 = .ok (.iaload, 1) := by decide +kernel
theorem dX2_forcedBy_70 : decode cX2_forcedBy 70 = .ok (.ireturn, 1) := by decide +kernel
theorem dX2_forcedBy_71 : decode cX2_forcedBy 71 = .ok (.iinc 5 1, 3) := by decide +kernel
theorem dX2_forcedBy_74 : decode cX2_forcedBy 74 = .ok (.goto (-48), 3) := by decide +kernel
theorem dX2_forcedBy_77 : decode cX2_forcedBy 77 = .ok (.iconst 0, 1) := by decide +kernel
theorem dX2_forcedBy_78 : decode cX2_forcedBy 78 = .ok (.ireturn, 1) := by decide +kernel
theorem dX2_forcedByLimit_0 : decode cX2_forcedByLimit 0 = .ok (.aload_n 0, 1) := by decide +kernel
theorem dX2_forcedByLimit_1 : decode cX2_forcedByLimit 1 = .ok (.aload_n 1, 1) := by decide +kernel
theorem dX2_forcedByLimit_2 : decode cX2_forcedByLimit 2 = .ok (.iload_n 2, 1) := by decide +kernel
theorem dX2_forcedByLimit_3 : decode cX2_forcedByLimit 3 = .ok (.invokevirtual 62, 3) := by decide +kernel
theorem dX2_forcedByLimit_6 : decode cX2_forcedByLimit 6 = .ok (.istore_n 3, 1) := by decide +kernel
theorem dX2_forcedByLimit_7 : decode cX2_forcedByLimit 7 = .ok (.aload_n 1, 1) := by decide +kernel
theorem dX2_forcedByLimit_8 : decode cX2_forcedByLimit 8 = .ok (.getfield 52, 3) := by decide +kernel
theorem dX2_forcedByLimit_11 : decode cX2_forcedByLimit 11 = .ok (.aload_n 1, 1) := by decide +kernel
theorem dX2_forcedByLimit_12 : decode cX2_forcedByLimit 12 = .ok (.getfield 47, 3) := by decide +kernel
theorem dX2_forcedByLimit_15 : decode cX2_forcedByLimit 15 = .ok (.ior, 1) := by decide +kernel
theorem dX2_forcedByLimit_16 : decode cX2_forcedByLimit 16 = .ok (.istore 4, 2) := by decide +kernel
theorem dX2_forcedByLimit_18 : decode cX2_forcedByLimit 18 = .ok (.iconst 1, 1) := by decide +kernel
theorem dX2_forcedByLimit_19 : decode cX2_forcedByLimit 19 = .ok (.istore 5, 2) := by decide +kernel
theorem dX2_forcedByLimit_21 : decode cX2_forcedByLimit 21 = .ok (.iload 5, 2) := by decide +kernel
theorem dX2_forcedByLimit_23 : decode cX2_forcedByLimit 23 = .ok (.bipush 16, 2) := by decide +kernel
theorem dX2_forcedByLimit_25 : decode cX2_forcedByLimit 25 = .ok (.if_icmp .gt 45, 3) := by decide +kernel
theorem dX2_forcedByLimit_28 : decode cX2_forcedByLimit 28 = .ok (.aload_n 0, 1) := by decide +kernel
theorem dX2_forcedByLimit_29 : decode cX2_forcedByLimit 29 = .ok (.getfield 9, 3) := by decide +kernel
theorem dX2_forcedByLimit_32 : decode cX2_forcedByLimit 32 = .ok (.iload 5, 2) := by decide +kernel
theorem dX2_forcedByLimit_34 : decode cX2_forcedByLimit 34 = .ok (.iaload, 1) := by decide +kernel
theorem dX2_forcedByLimit_35 : decode cX2_forcedByLimit 35 = .ok (.ifCond .le 29, 3) := by decide +kernel
theorem dX2_forcedByLimit_38 : decode cX2_forcedByLimit 38 = .ok (.aload_n 0, 1) := by decide +kernel
theorem dX2_forcedByLimit_39 : decode cX2_forcedByLimit 39 = .ok (.getfield 9, 3) := by decide +kernel
theorem dX2_forcedByLimit_42 : decode cX2_forcedByLimit 42 = .ok (.iload 5, 2) := by decide +kernel
theorem dX2_forcedByLimit_44 : decode cX2_forcedByLimit 44 = .ok (.iaload, 1) := by decide +kernel
theorem dX2_forcedByLimit_45 : decode cX2_forcedByLimit 45 = .ok (.iload_n 3, 1) := by decide +kernel
theorem dX2_forcedByLimit_46 : decode cX2_forcedByLimit 46 = .ok (.if_icmp .le 18, 3) := by decide +kernel
theorem dX2_forcedByLimit_49 : decode cX2_forcedByLimit 49 = .ok (.iload 4, 2) := by decide +kernel
theorem dX2_forcedByLimit_51 : decode cX2_forcedByLimit 51 = .ok (.iload 5, 2) := by decide +kernel
theorem dX2_forcedByLimit_53 : decode cX2_forcedByLimit 53 = .ok (.invokestatic 34, 3) := by decide +kernel
theorem dX2_forcedByLimit_56 : decode cX2_forcedByLimit 56 = .ok (.iand, 1) := by decide +kernel
theorem dX2_forcedByLimit_57 : decode cX2_forcedByLimit 57 = .ok (.ifCond .ne 7, 3) := by decide +kernel
theorem dX2_forcedByLimit_60 : decode cX2_forcedByLimit 60 = .ok (.iload 5, 2) := by decide +kernel
theorem dX2_forcedByLimit_62 : decode cX2_forcedByLimit 62 = .ok (.ineg, 1) := by decide +kernel
theorem dX2_forcedByLimit_63 : decode cX2_forcedByLimit 63 = .ok (.ireturn, 1) := by decide +kernel
theorem dX2_forcedByLimit_64 : decode cX2_forcedByLimit 64 = .ok (.iinc 5 1, 3) := by decide +kernel
theorem dX2_forcedByLimit_67 : decode cX2_forcedByLimit 67 = .ok (.goto (-46), 3) := by decide +kernel
theorem dX2_forcedByLimit_70 : decode cX2_forcedByLimit 70 = .ok (.iconst 0, 1) := by decide +kernel
theorem dX2_forcedByLimit_71 : decode cX2_forcedByLimit 71 = .ok (.ireturn, 1) := by decide +kernel
theorem dX3_init_0 : decode cX3_init 0 = .ok (.aload_n 0, 1) := by decide +kernel
theorem dX3_init_1 : decode cX3_init 1 = .ok (.invokespecial 3, 3) := by decide +kernel
theorem dX3_init_4 : decode cX3_init 4 = .ok (.aload_n 0, 1) := by decide +kernel
theorem dX3_init_5 : decode cX3_init 5 = .ok (.new 9, 3) := by decide +kernel
theorem dX3_init_8 : decode cX3_init 8 = .ok (.dup, 1) := by decide +kernel
theorem dX3_init_9 : decode cX3_init 9 = .ok (.invokespecial 11, 3) := by decide +kernel
theorem dX3_init_12 : decode cX3_init 12 = .ok (.putfield 12, 3) := by decide +kernel
theorem dX3_init_15 : decode cX3_init 15 = .ok (.aload_n 0, 1) := by decide +kernel
theorem dX3_init_16 : decode cX3_init 16 = .ok (.bipush 16, 2) := by decide +kernel
theorem dX3_init_18 : decode cX3_init 18 = .ok (.newarray .int, 2) := by decide +kernel
theorem dX3_init_20 : decode cX3_init 20 = .ok (.putfield 18, 3) := by decide +kernel
theorem dX3_init_23 : decode cX3_init 23 = .ok (.aload_n 0, 1) := by decide +kernel
theorem dX3_init_24 : decode cX3_init 24 = .ok (.bipush 16, 2) := by decide +kernel
theorem dX3_init_26 : decode cX3_init 26 = .ok (.newarray .int, 2) := by decide +kernel
theorem dX3_init_28 : decode cX3_init 28 = .ok (.putfield 22, 3) := by decide +kernel
theorem dX3_init_31 : decode cX3_init 31 = .ok (.aload_n 0, 1) := by decide +kernel
theorem dX3_init_32 : decode cX3_init 32 = .ok (.bipush 16, 2) := by decide +kernel
theorem dX3_init_34 : decode cX3_init 34 = .ok (.newarray .int, 2) := by decide +kernel
theorem dX3_init_36 : decode cX3_init 36 = .ok (.putfield 25, 3) := by decide +kernel
theorem dX3_init_39 : decode cX3_init 39 = .ok (.aload_n 0, 1) := by decide +kernel
theorem dX3_init_40 : decode cX3_init 40 = .ok (.iconst (-1), 1) := by decide +kernel
theorem dX3_init_41 : decode cX3_init 41 = .ok (.putfield 28, 3) := by decide +kernel
theorem dX3_init_44 : decode cX3_init 44 = .ok (.aload_n 0, 1) := by decide +kernel
theorem dX3_init_45 : decode cX3_init 45 = .ok (.iconst 2, 1) := by decide +kernel
theorem dX3_init_46 : decode cX3_init 46 = .ok (.putfield 32, 3) := by decide +kernel
theorem dX3_init_49 : decode cX3_init 49 = .ok (.aload_n 0, 1) := by decide +kernel
theorem dX3_init_50 : decode cX3_init 50 = .ok (.aload_n 1, 1) := by decide +kernel
theorem dX3_init_51 : decode cX3_init 51 = .ok (.putfield 35, 3) := by decide +kernel
theorem dX3_init_54 : decode cX3_init 54 = .ok (.aload_n 0, 1) := by decide +kernel
theorem dX3_init_55 : decode cX3_init 55 = .ok (.aload_n 2, 1) := by decide +kernel
theorem dX3_init_56 : decode cX3_init 56 = .ok (.putfield 39, 3) := by decide +kernel
theorem dX3_init_59 : decode cX3_init 59 = .ok (.return_, 1) := by decide +kernel
theorem dX3_isDone_0 : decode cX3_isDone 0 = .ok (.aload_n 0, 1) := by decide +kernel
theorem dX3_isDone_1 : decode cX3_isDone 1 = .ok (.getfield 32, 3) := by decide +kernel
theorem dX3_isDone_4 : decode cX3_isDone 4 = .ok (.iconst 1, 1) := by decide +kernel
theorem dX3_isDone_5 : decode cX3_isDone 5 = .ok (.if_icmp .ne 7, 3) := by decide +kernel
theorem dX3_isDone_8 : decode cX3_isDone 8 = .ok (.iconst 1, 1) := by decide +kernel
theorem dX3_isDone_9 : decode cX3_isDone 9 = .ok (.goto 4, 3) := by decide +kernel
theorem dX3_isDone_12 : decode cX3_isDone 12 = .ok (.iconst 0, 1) := by decide +kernel
theorem dX3_isDone_13 : decode cX3_isDone 13 = .ok (.ireturn, 1) := by decide +kernel
theorem dX3_advance_0 : decode cX3_advance 0 = .ok (.iconst 0, 1) := by decide +kernel
theorem dX3_advance_1 : decode cX3_advance 1 = .ok (.istore_n 2, 1) := by decide +kernel
theorem dX3_advance_2 : decode cX3_advance 2 = .ok (.iload_n 2, 1) := by decide +kernel
theorem dX3_advance_3 : decode cX3_advance 3 = .ok (.iload_n 1, 1) := by decide +kernel
theorem dX3_advance_4 : decode cX3_advance 4 = .ok (.if_icmp .ge 21, 3) := by decide +kernel
theorem dX3_advance_7 : decode cX3_advance 7 = .ok (.aload_n 0, 1) := by decide +kernel
theorem dX3_advance_8 : decode cX3_advance 8 = .ok (.getfield 32, 3) := by decide +kernel
theorem dX3_advance_11 : decode cX3_advance 11 = .ok (.iconst 2, 1) := by decide +kernel
theorem dX3_advance_12 : decode cX3_advance 12 = .ok (.if_icmp .ne 13, 3) := by decide +kernel
theorem dX3_advance_15 : decode cX3_advance 15 = .ok (.aload_n 0, 1) := by decide +kernel
theorem dX3_advance_16 : decode cX3_advance 16 = .ok (.invokevirtual 43, 3) := by decide +kernel
theorem dX3_advance_19 : decode cX3_advance 19 = .ok (.iinc 2 1, 3) := by decide +kernel
theorem dX3_advance_22 : decode cX3_advance 22 = .ok (.goto (-20), 3) := by decide +kernel
theorem dX3_advance_25 : decode cX3_advance 25 = .ok (.aload_n 0, 1) := by decide +kernel
theorem dX3_advance_26 : decode cX3_advance 26 = .ok (.getfield 32, 3) := by decide +kernel
theorem dX3_advance_29 : decode cX3_advance 29 = .ok (.ireturn, 1) := by decide +kernel
theorem dX3_step_0 : decode cX3_step 0 = .ok (.aload_n 0, 1) := by decide +kernel
theorem dX3_step_1 : decode cX3_step 1 = .ok (.dup, 1) := by decide +kernel
theorem dX3_step_2 : decode cX3_step 2 = .ok (.getfield 46, 3) := by decide +kernel
theorem dX3_step_5 : decode cX3_step 5 = .ok (.iconst 1, 1) := by decide +kernel
theorem dX3_step_6 : decode cX3_step 6 = .ok (.iadd, 1) := by decide +kernel
theorem dX3_step_7 : decode cX3_step 7 = .ok (.putfield 46, 3) := by decide +kernel
theorem dX3_step_10 : decode cX3_step 10 = .ok (.aload_n 0, 1) := by decide +kernel
theorem dX3_step_11 : decode cX3_step 11 = .ok (.getfield 28, 3) := by decide +kernel
theorem dX3_step_14 : decode cX3_step 14 = .ok (.invokestatic 49, 3) := by decide +kernel
theorem dX3_step_17 : decode cX3_step 17 = .ok (.istore_n 1, 1) := by decide +kernel
theorem dX3_step_18 : decode cX3_step 18 = .ok (.aload_n 0, 1) := by decide +kernel
theorem dX3_step_19 : decode cX3_step 19 = .ok (.getfield 35, 3) := by decide +kernel
theorem dX3_step_22 : decode cX3_step 22 = .ok (.aload_n 0, 1) := by decide +kernel
theorem dX3_step_23 : decode cX3_step 23 = .ok (.getfield 12, 3) := by decide +kernel
theorem dX3_step_26 : decode cX3_step 26 = .ok (.iload_n 1, 1) := by decide +kernel
theorem dX3_step_27 : decode cX3_step 27 = .ok (.invokevirtual 53, 3) := by decide +kernel
theorem dX3_step_30 : decode cX3_step 30 = .ok (.ifCond .eq 8, 3) := by decide +kernel
theorem dX3_step_33 : decode cX3_step 33 = .ok (.aload_n 0, 1) := by decide +kernel
theorem dX3_step_34 : decode cX3_step 34 = .ok (.invokevirtual 59, 3) := by decide +kernel
theorem dX3_step_37 : decode cX3_step 37 = .ok (.return_, 1) := by decide +kernel
theorem dX3_step_38 : decode cX3_step 38 = .ok (.aload_n 0, 1) := by decide +kernel
theorem dX3_step_39 : decode cX3_step 39 = .ok (.getfield 35, 3) := by decide +kernel
theorem dX3_step_42 : decode cX3_step 42 = .ok (.aload_n 0, 1) := by decide +kernel
theorem dX3_step_43 : decode cX3_step 43 = .ok (.getfield 12, 3) := by decide +kernel
theorem dX3_step_46 : decode cX3_step 46 = .ok (.iload_n 1, 1) := by decide +kernel
theorem dX3_step_47 : decode cX3_step 47 = .ok (.invokevirtual 62, 3) := by decide +kernel
theorem dX3_step_50 : decode cX3_step 50 = .ok (.istore_n 2, 1) := by decide +kernel
theorem dX3_step_51 : decode cX3_step 51 = .ok (.iload_n 2, 1) := by decide +kernel
theorem dX3_step_52 : decode cX3_step 52 = .ok (.ifCond .eq 12, 3) := by decide +kernel
theorem dX3_step_55 : decode cX3_step 55 = .ok (.aload_n 0, 1) := by decide +kernel
theorem dX3_step_56 : decode cX3_step 56 = .ok (.getfield 12, 3) := by decide +kernel
theorem dX3_step_59 : decode cX3_step 59 = .ok (.iload_n 2, 1) := by decide +kernel
theorem dX3_step_60 : decode cX3_step 60 = .ok (.invokevirtual 66, 3) := by decide +kernel
theorem dX3_step_63 : decode cX3_step 63 = .ok (.return_, 1) := by decide +kernel
theorem dX3_step_64 : decode cX3_step 64 = .ok (.aload_n 0, 1) := by decide +kernel
theorem dX3_step_65 : decode cX3_step 65 = .ok (.getfield 12, 3) := by decide +kernel
theorem dX3_step_68 : decode cX3_step 68 = .ok (.invokevirtual 70, 3) := by decide +kernel
theorem dX3_step_71 : decode cX3_step 71 = .ok (.istore_n 3, 1) := by decide +kernel
theorem dX3_step_72 : decode cX3_step 72 = .ok (.iload_n 3, 1) := by decide +kernel
theorem dX3_step_73 : decode cX3_step 73 = .ok (.ifCond .eq 11, 3) := by decide +kernel
theorem dX3_step_76 : decode cX3_step 76 = .ok (.aload_n 0, 1) := by decide +kernel
theorem dX3_step_77 : decode cX3_step 77 = .ok (.iload_n 3, 1) := by decide +kernel
theorem dX3_step_78 : decode cX3_step 78 = .ok (.invokevirtual 74, 3) := by decide +kernel
theorem dX3_step_81 : decode cX3_step 81 = .ok (.goto 7, 3) := by decide +kernel
theorem dX3_step_84 : decode cX3_step 84 = .ok (.aload_n 0, 1) := by decide +kernel
theorem dX3_step_85 : decode cX3_step 85 = .ok (.invokevirtual 77, 3) := by decide +kernel
theorem dX3_step_88 : decode cX3_step 88 = .ok (.return_, 1) := by decide +kernel
theorem dX3_goBack_0 : decode cX3_goBack 0 = .ok (.aload_n 0, 1) := by decide +kernel
theorem dX3_goBack_1 : decode cX3_goBack 1 = .ok (.iconst 0, 1) := by decide +kernel
theorem dX3_goBack_2 : decode cX3_goBack 2 = .ok (.invokevirtual 80, 3) := by decide +kernel
theorem dX3_goBack_5 : decode cX3_goBack 5 = .ok (.ifCond .ne 4, 3) := by decide +kernel
theorem dX3_goBack_8 : decode cX3_goBack 8 = .ok (.return_, 1) := by decide +kernel
theorem dX3_goBack_9 : decode cX3_goBack 9 = .ok (.aload_n 0, 1) := by decide +kernel
theorem dX3_goBack_10 : decode cX3_goBack 10 = .ok (.getfield 84, 3) := by decide +kernel
theorem dX3_goBack_13 : decode cX3_goBack 13 = .ok (.ifCond .ne 8, 3) := by decide +kernel
theorem dX3_goBack_16 : decode cX3_goBack 16 = .ok (.aload_n 0, 1) := by decide +kernel
theorem dX3_goBack_17 : decode cX3_goBack 17 = .ok (.invokevirtual 87, 3) := by decide +kernel
theorem dX3_goBack_20 : decode cX3_goBack 20 = .ok (.return_, 1) := by decide +kernel
theorem dX3_goBack_21 : decode cX3_goBack 21 = .ok (.aload_n 0, 1) := by decide +kernel
theorem dX3_goBack_22 : decode cX3_goBack 22 = .ok (.dup, 1) := by decide +kernel
theorem dX3_goBack_23 : decode cX3_goBack 23 = .ok (.getfield 84, 3) := by decide +kernel
theorem dX3_goBack_26 : decode cX3_goBack 26 = .ok (.iconst 1, 1) := by decide +kernel
theorem dX3_goBack_27 : decode cX3_goBack 27 = .ok (.isub, 1) := by decide +kernel
theorem dX3_goBack_28 : decode cX3_goBack 28 = .ok (.putfield 84, 3) := by decide +kernel
theorem dX3_goBack_31 : decode cX3_goBack 31 = .ok (.aload_n 0, 1) := by decide +kernel
theorem dX3_goBack_32 : decode cX3_goBack 32 = .ok (.getfield 12, 3) := by decide +kernel
theorem dX3_goBack_35 : decode cX3_goBack 35 = .ok (.aload_n 0, 1) := by decide +kernel
theorem dX3_goBack_36 : decode cX3_goBack 36 = .ok (.getfield 22, 3) := by decide +kernel
theorem dX3_goBack_39 : decode cX3_goBack 39 = .ok (.aload_n 0, 1) := by decide +kernel
theorem dX3_goBack_40 : decode cX3_goBack 40 = .ok (.getfield 84, 3) := by decide +kernel
theorem dX3_goBack_43 : decode cX3_goBack 43 = .ok (.iaload, 1) := by decide +kernel
theorem dX3_goBack_44 : decode cX3_goBack 44 = .ok (.aload_n 0, 1) := by decide +kernel
theorem dX3_goBack_45 : decode cX3_goBack 45 = .ok (.getfield 25, 3) := by decide +kernel
theorem dX3_goBack_48 : decode cX3_goBack 48 = .ok (.aload_n 0, 1) := by decide +kernel
theorem dX3_goBack_49 : decode cX3_goBack 49 = .ok (.getfield 84, 3) := by decide +kernel
theorem dX3_goBack_52 : decode cX3_goBack 52 = .ok (.iaload, 1) := by decide +kernel
theorem dX3_goBack_53 : decode cX3_goBack 53 = .ok (.invokevirtual 90, 3) := by decide +kernel
theorem dX3_goBack_56 : decode cX3_goBack 56 = .ok (.aload_n 0, 1) := by decide +kernel
theorem dX3_goBack_57 : decode cX3_goBack 57 = .ok (.getfield 12, 3) := by decide +kernel
theorem dX3_goBack_60 : decode cX3_goBack 60 = .ok (.aload_n 0, 1) := by decide +kernel
theorem dX3_goBack_61 : decode cX3_goBack 61 = .ok (.getfield 18, 3) := by decide +kernel
theorem dX3_goBack_64 : decode cX3_goBack 64 = .ok (.aload_n 0, 1) := by decide +kernel
theorem dX3_goBack_65 : decode cX3_goBack 65 = .ok (.getfield 84, 3) := by decide +kernel
theorem dX3_goBack_68 : decode cX3_goBack 68 = .ok (.iaload, 1) := by decide +kernel
theorem dX3_goBack_69 : decode cX3_goBack 69 = .ok (.invokevirtual 66, 3) := by decide +kernel
theorem dX3_goBack_72 : decode cX3_goBack 72 = .ok (.return_, 1) := by decide +kernel
theorem dX3_finish_0 : decode cX3_finish 0 = .ok (.aload_n 0, 1) := by decide +kernel
theorem dX3_finish_1 : decode cX3_finish 1 = .ok (.aload_n 0, 1) := by decide +kernel
theorem dX3_finish_2 : decode cX3_finish 2 = .ok (.getfield 28, 3) := by decide +kernel
theorem dX3_finish_5 : decode cX3_finish 5 = .ok (.invokevirtual 80, 3) := by decide +kernel
theorem dX3_finish_8 : decode cX3_finish 8 = .ok (.ifCond .eq 19, 3) := by decide +kernel
theorem dX3_finish_11 : decode cX3_finish 11 = .ok (.aload_n 0, 1) := by decide +kernel
theorem dX3_finish_12 : decode cX3_finish 12 = .ok (.aload_n 0, 1) := by decide +kernel
theorem dX3_finish_13 : decode cX3_finish 13 = .ok (.getfield 94, 3) := by decide +kernel
theorem dX3_finish_16 : decode cX3_finish 16 = .ok (.invokevirtual 80, 3) := by decide +kernel
theorem dX3_finish_19 : decode cX3_finish 19 = .ok (.ifCond .eq 8, 3) := by decide +kernel
theorem dX3_finish_22 : decode cX3_finish 22 = .ok (.aload_n 0, 1) := by decide +kernel
theorem dX3_finish_23 : decode cX3_finish 23 = .ok (.iconst 1, 1) := by decide +kernel
theorem dX3_finish_24 : decode cX3_finish 24 = .ok (.putfield 32, 3) := by decide +kernel
theorem dX3_finish_27 : decode cX3_finish 27 = .ok (.return_, 1) := by decide +kernel
theorem dX3_keepBest_0 : decode cX3_keepBest 0 = .ok (.aload_n 0, 1) := by decide +kernel
theorem dX3_keepBest_1 : decode cX3_keepBest 1 = .ok (.aload_n 0, 1) := by decide +kernel
theorem dX3_keepBest_2 : decode cX3_keepBest 2 = .ok (.getfield 12, 3) := by decide +kernel
theorem dX3_keepBest_5 : decode cX3_keepBest 5 = .ok (.getfield 97, 3) := by decide +kernel
theorem dX3_keepBest_8 : decode cX3_keepBest 8 = .ok (.putfield 94, 3) := by decide +kernel
theorem dX3_keepBest_11 : decode cX3_keepBest 11 = .ok (.aload_n 0, 1) := by decide +kernel
theorem dX3_keepBest_12 : decode cX3_keepBest 12 = .ok (.aload_n 0, 1) := by decide +kernel
theorem dX3_keepBest_13 : decode cX3_keepBest 13 = .ok (.getfield 35, 3) := by decide +kernel
theorem dX3_keepBest_16 : decode cX3_keepBest 16 = .ok (.aload_n 0, 1) := by decide +kernel
theorem dX3_keepBest_17 : decode cX3_keepBest 17 = .ok (.getfield 94, 3) := by decide +kernel
theorem dX3_keepBest_20 : decode cX3_keepBest 20 = .ok (.invokevirtual 100, 3) := by decide +kernel
theorem dX3_keepBest_23 : decode cX3_keepBest 23 = .ok (.putfield 28, 3) := by decide +kernel
theorem dX3_keepBest_26 : decode cX3_keepBest 26 = .ok (.return_, 1) := by decide +kernel
theorem dX3_choose_0 : decode cX3_choose 0 = .ok (.aload_n 0, 1) := by decide +kernel
theorem dX3_choose_1 : decode cX3_choose 1 = .ok (.getfield 84, 3) := by decide +kernel
theorem dX3_choose_4 : decode cX3_choose 4 = .ok (.bipush 16, 2) := by decide +kernel
theorem dX3_choose_6 : decode cX3_choose 6 = .ok (.if_icmp .ge 11, 3) := by decide +kernel
theorem dX3_choose_9 : decode cX3_choose 9 = .ok (.aload_n 0, 1) := by decide +kernel
theorem dX3_choose_10 : decode cX3_choose 10 = .ok (.iload_n 1, 1) := by decide +kernel
theorem dX3_choose_11 : decode cX3_choose 11 = .ok (.invokevirtual 80, 3) := by decide +kernel
theorem dX3_choose_14 : decode cX3_choose 14 = .ok (.ifCond .ne 4, 3) := by decide +kernel
theorem dX3_choose_17 : decode cX3_choose 17 = .ok (.return_, 1) := by decide +kernel
theorem dX3_choose_18 : decode cX3_choose 18 = .ok (.aload_n 0, 1) := by decide +kernel
theorem dX3_choose_19 : decode cX3_choose 19 = .ok (.getfield 18, 3) := by decide +kernel
theorem dX3_choose_22 : decode cX3_choose 22 = .ok (.aload_n 0, 1) := by decide +kernel
theorem dX3_choose_23 : decode cX3_choose 23 = .ok (.getfield 84, 3) := by decide +kernel
theorem dX3_choose_26 : decode cX3_choose 26 = .ok (.iload_n 1, 1) := by decide +kernel
theorem dX3_choose_27 : decode cX3_choose 27 = .ok (.iastore, 1) := by decide +kernel
theorem dX3_choose_28 : decode cX3_choose 28 = .ok (.aload_n 0, 1) := by decide +kernel
theorem dX3_choose_29 : decode cX3_choose 29 = .ok (.getfield 22, 3) := by decide +kernel
theorem dX3_choose_32 : decode cX3_choose 32 = .ok (.aload_n 0, 1) := by decide +kernel
theorem dX3_choose_33 : decode cX3_choose 33 = .ok (.getfield 84, 3) := by decide +kernel
theorem dX3_choose_36 : decode cX3_choose 36 = .ok (.aload_n 0, 1) := by decide +kernel
theorem dX3_choose_37 : decode cX3_choose 37 = .ok (.getfield 12, 3) := by decide +kernel
theorem dX3_choose_40 : decode cX3_choose 40 = .ok (.getfield 97, 3) := by decide +kernel
theorem dX3_choose_43 : decode cX3_choose 43 = .ok (.iastore, 1) := by decide +kernel
theorem dX3_choose_44 : decode cX3_choose 44 = .ok (.aload_n 0, 1) := by decide +kernel
theorem dX3_choose_45 : decode cX3_choose 45 = .ok (.getfield 25, 3) := by decide +kernel
theorem dX3_choose_48 : decode cX3_choose 48 = .ok (.aload_n 0, 1) := by decide +kernel
theorem dX3_choose_49 : decode cX3_choose 49 = .ok (.getfield 84, 3) := by decide +kernel
theorem dX3_choose_52 : decode cX3_choose 52 = .ok (.aload_n 0, 1) := by decide +kernel
theorem dX3_choose_53 : decode cX3_choose 53 = .ok (.getfield 12, 3) := by decide +kernel
theorem dX3_choose_56 : decode cX3_choose 56 = .ok (.getfield 103, 3) := by decide +kernel
theorem dX3_choose_59 : decode cX3_choose 59 = .ok (.iastore, 1) := by decide +kernel
theorem dX3_choose_60 : decode cX3_choose 60 = .ok (.aload_n 0, 1) := by decide +kernel
theorem dX3_choose_61 : decode cX3_choose 61 = .ok (.dup, 1) := by decide +kernel
theorem dX3_choose_62 : decode cX3_choose 62 = .ok (.getfield 84, 3) := by decide +kernel
theorem dX3_choose_65 : decode cX3_choose 65 = .ok (.iconst 1, 1) := by decide +kernel
theorem dX3_choose_66 : decode cX3_choose 66 = .ok (.iadd, 1) := by decide +kernel
theorem dX3_choose_67 : decode cX3_choose 67 = .ok (.putfield 84, 3) := by decide +kernel
theorem dX3_choose_70 : decode cX3_choose 70 = .ok (.aload_n 0, 1) := by decide +kernel
theorem dX3_choose_71 : decode cX3_choose 71 = .ok (.getfield 12, 3) := by decide +kernel
theorem dX3_choose_74 : decode cX3_choose 74 = .ok (.iload_n 1, 1) := by decide +kernel
theorem dX3_choose_75 : decode cX3_choose 75 = .ok (.ineg, 1) := by decide +kernel
theorem dX3_choose_76 : decode cX3_choose 76 = .ok (.invokevirtual 66, 3) := by decide +kernel
theorem dX3_choose_79 : decode cX3_choose 79 = .ok (.return_, 1) := by decide +kernel
theorem dX3_writes_0 : decode cX3_writes 0 = .ok (.aload_n 0, 1) := by decide +kernel
theorem dX3_writes_1 : decode cX3_writes 1 = .ok (.getfield 39, 3) := by decide +kernel
theorem dX3_writes_4 : decode cX3_writes 4 = .ok (.iload_n 1, 1) := by decide +kernel
theorem dX3_writes_5 : decode cX3_writes 5 = .ok (.invokevirtual 106, 3) := by decide +kernel
theorem dX3_writes_8 : decode cX3_writes 8 = .ok (.istore_n 2, 1) := by decide +kernel
theorem dX3_writes_9 : decode cX3_writes 9 = .ok (.iload_n 2, 1) := by decide +kernel
theorem dX3_writes_10 : decode cX3_writes 10 = .ok (.ifCond .ne 9, 3) := by decide +kernel
theorem dX3_writes_13 : decode cX3_writes 13 = .ok (.aload_n 0, 1) := by decide +kernel
theorem dX3_writes_14 : decode cX3_writes 14 = .ok (.bipush (-2), 2) := by decide +kernel
theorem dX3_writes_16 : decode cX3_writes 16 = .ok (.putfield 32, 3) := by decide +kernel
theorem dX3_writes_19 : decode cX3_writes 19 = .ok (.iload_n 2, 1) := by decide +kernel
theorem dX3_writes_20 : decode cX3_writes 20 = .ok (.ireturn, 1) := by decide +kernel
theorem dX4_init_0 : decode cX4_init 0 = .ok (.aload_n 0, 1) := by decide +kernel
theorem dX4_init_1 : decode cX4_init 1 = .ok (.invokespecial 3, 3) := by decide +kernel
theorem dX4_init_4 : decode cX4_init 4 = .ok (.return_, 1) := by decide +kernel
theorem dX4_become_0 : decode cX4_become 0 = .ok (.aload_n 0, 1) := by decide +kernel
theorem dX4_become_1 : decode cX4_become 1 = .ok (.iload_n 1, 1) := by decide +kernel
theorem dX4_become_2 : decode cX4_become 2 = .ok (.putfield 9, 3) := by decide +kernel
theorem dX4_become_5 : decode cX4_become 5 = .ok (.aload_n 0, 1) := by decide +kernel
theorem dX4_become_6 : decode cX4_become 6 = .ok (.iload_n 2, 1) := by decide +kernel
theorem dX4_become_7 : decode cX4_become 7 = .ok (.putfield 15, 3) := by decide +kernel
theorem dX4_become_10 : decode cX4_become 10 = .ok (.return_, 1) := by decide +kernel
theorem dX4_makeTrue_0 : decode cX4_makeTrue 0 = .ok (.iload_n 1, 1) := by decide +kernel
theorem dX4_makeTrue_1 : decode cX4_makeTrue 1 = .ok (.invokestatic 18, 3) := by decide +kernel
theorem dX4_makeTrue_4 : decode cX4_makeTrue 4 = .ok (.invokestatic 22, 3) := by decide +kernel
theorem dX4_makeTrue_7 : decode cX4_makeTrue 7 = .ok (.istore_n 2, 1) := by decide +kernel
theorem dX4_makeTrue_8 : decode cX4_makeTrue 8 = .ok (.iload_n 1, 1) := by decide +kernel
theorem dX4_makeTrue_9 : decode cX4_makeTrue 9 = .ok (.ifCond .le 16, 3) := by decide +kernel
theorem dX4_makeTrue_12 : decode cX4_makeTrue 12 = .ok (.aload_n 0, 1) := by decide +kernel
theorem dX4_makeTrue_13 : decode cX4_makeTrue 13 = .ok (.dup, 1) := by decide +kernel
theorem dX4_makeTrue_14 : decode cX4_makeTrue 14 = .ok (.getfield 9, 3) := by decide +kernel
theorem dX4_makeTrue_17 : decode cX4_makeTrue 17 = .ok (.iload_n 2, 1) := by decide +kernel
theorem dX4_makeTrue_18 : decode cX4_makeTrue 18 = .ok (.ior, 1) := by decide +kernel
theorem dX4_makeTrue_19 : decode cX4_makeTrue 19 = .ok (.putfield 9, 3) := by decide +kernel
theorem dX4_makeTrue_22 : decode cX4_makeTrue 22 = .ok (.goto 13, 3) := by decide +kernel
theorem dX4_makeTrue_25 : decode cX4_makeTrue 25 = .ok (.aload_n 0, 1) := by decide +kernel
theorem dX4_makeTrue_26 : decode cX4_makeTrue 26 = .ok (.dup, 1) := by decide +kernel
theorem dX4_makeTrue_27 : decode cX4_makeTrue 27 = .ok (.getfield 15, 3) := by decide +kernel
theorem dX4_makeTrue_30 : decode cX4_makeTrue 30 = .ok (.iload_n 2, 1) := by decide +kernel
theorem dX4_makeTrue_31 : decode cX4_makeTrue 31 = .ok (.ior, 1) := by decide +kernel
theorem dX4_makeTrue_32 : decode cX4_makeTrue 32 = .ok (.putfield 15, 3) := by decide +kernel
theorem dX4_makeTrue_35 : decode cX4_makeTrue 35 = .ok (.return_, 1) := by decide +kernel
theorem dX4_leastNotSet_0 : decode cX4_leastNotSet 0 = .ok (.aload_n 0, 1) := by decide +kernel
theorem dX4_leastNotSet_1 : decode cX4_leastNotSet 1 = .ok (.getfield 9, 3) := by decide +kernel
theorem dX4_leastNotSet_4 : decode cX4_leastNotSet 4 = .ok (.aload_n 0, 1) := by decide +kernel
theorem dX4_leastNotSet_5 : decode cX4_leastNotSet 5 = .ok (.getfield 15, 3) := by decide +kernel
theorem dX4_leastNotSet_8 : decode cX4_leastNotSet 8 = .ok (.ior, 1) := by decide +kernel
theorem dX4_leastNotSet_9 : decode cX4_leastNotSet 9 = .ok (.istore_n 1, 1) := by decide +kernel
theorem dX4_leastNotSet_10 : decode cX4_leastNotSet 10 = .ok (.iconst 1, 1) := by decide +kernel
theorem dX4_leastNotSet_11 : decode cX4_leastNotSet 11 = .ok (.istore_n 2, 1) := by decide +kernel
theorem dX4_leastNotSet_12 : decode cX4_leastNotSet 12 = .ok (.iload_n 2, 1) := by decide +kernel
theorem dX4_leastNotSet_13 : decode cX4_leastNotSet 13 = .ok (.bipush 16, 2) := by decide +kernel
theorem dX4_leastNotSet_15 : decode cX4_leastNotSet 15 = .ok (.if_icmp .gt 20, 3) := by decide +kernel
theorem dX4_leastNotSet_18 : decode cX4_leastNotSet 18 = .ok (.iload_n 1, 1) := by decide +kernel
theorem dX4_leastNotSet_19 : decode cX4_leastNotSet 19 = .ok (.iload_n 2, 1) := by decide +kernel
theorem dX4_leastNotSet_20 : decode cX4_leastNotSet 20 = .ok (.invokestatic 22, 3) := by decide +kernel
theorem dX4_leastNotSet_23 : decode cX4_leastNotSet 23 = .ok (.iand, 1) := by decide +kernel
theorem dX4_leastNotSet_24 : decode cX4_leastNotSet 24 = .ok (.ifCond .ne 5, 3) := by decide +kernel
theorem dX4_leastNotSet_27 : decode cX4_leastNotSet 27 = .ok (.iload_n 2, 1) := by decide +kernel
theorem dX4_leastNotSet_28 : decode cX4_leastNotSet 28 = .ok (.ireturn, 1) := by decide +kernel
theorem dX4_leastNotSet_29 : decode cX4_leastNotSet 29 = .ok (.iinc 2 1, 3) := by decide +kernel
theorem dX4_leastNotSet_32 : decode cX4_leastNotSet 32 = .ok (.goto (-20), 3) := by decide +kernel
theorem dX4_leastNotSet_35 : decode cX4_leastNotSet 35 = .ok (.iconst 0, 1) := by decide +kernel
theorem dX4_leastNotSet_36 : decode cX4_leastNotSet 36 = .ok (.ireturn, 1) := by decide +kernel
theorem dX5_init_0 : decode cX5_init 0 = .ok (.aload_n 0, 1) := by decide +kernel
theorem dX5_init_1 : decode cX5_init 1 = .ok (.invokespecial 3, 3) := by decide +kernel
theorem dX5_init_4 : decode cX5_init 4 = .ok (.aload_n 0, 1) := by decide +kernel
theorem dX5_init_5 : decode cX5_init 5 = .ok (.new 9, 3) := by decide +kernel
theorem dX5_init_8 : decode cX5_init 8 = .ok (.dup, 1) := by decide +kernel
theorem dX5_init_9 : decode cX5_init 9 = .ok (.invokespecial 11, 3) := by decide +kernel
theorem dX5_init_12 : decode cX5_init 12 = .ok (.putfield 12, 3) := by decide +kernel
theorem dX5_init_15 : decode cX5_init 15 = .ok (.aload_n 0, 1) := by decide +kernel
theorem dX5_init_16 : decode cX5_init 16 = .ok (.new 16, 3) := by decide +kernel
theorem dX5_init_19 : decode cX5_init 19 = .ok (.dup, 1) := by decide +kernel
theorem dX5_init_20 : decode cX5_init 20 = .ok (.invokespecial 18, 3) := by decide +kernel
theorem dX5_init_23 : decode cX5_init 23 = .ok (.putfield 19, 3) := by decide +kernel
theorem dX5_init_26 : decode cX5_init 26 = .ok (.aload_n 0, 1) := by decide +kernel
theorem dX5_init_27 : decode cX5_init 27 = .ok (.new 23, 3) := by decide +kernel
theorem dX5_init_30 : decode cX5_init 30 = .ok (.dup, 1) := by decide +kernel
theorem dX5_init_31 : decode cX5_init 31 = .ok (.aload_n 0, 1) := by decide +kernel
theorem dX5_init_32 : decode cX5_init 32 = .ok (.getfield 12, 3) := by decide +kernel
theorem dX5_init_35 : decode cX5_init 35 = .ok (.aload_n 0, 1) := by decide +kernel
theorem dX5_init_36 : decode cX5_init 36 = .ok (.getfield 19, 3) := by decide +kernel
theorem dX5_init_39 : decode cX5_init 39 = .ok (.invokespecial 25, 3) := by decide +kernel
theorem dX5_init_42 : decode cX5_init 42 = .ok (.putfield 28, 3) := by decide +kernel
theorem dX5_init_45 : decode cX5_init 45 = .ok (.aload_n 0, 1) := by decide +kernel
theorem dX5_init_46 : decode cX5_init 46 = .ok (.new 32, 3) := by decide +kernel
theorem dX5_init_49 : decode cX5_init 49 = .ok (.dup, 1) := by decide +kernel
theorem dX5_init_50 : decode cX5_init 50 = .ok (.aload_n 0, 1) := by decide +kernel
theorem dX5_init_51 : decode cX5_init 51 = .ok (.getfield 12, 3) := by decide +kernel
theorem dX5_init_54 : decode cX5_init 54 = .ok (.aload_n 0, 1) := by decide +kernel
theorem dX5_init_55 : decode cX5_init 55 = .ok (.getfield 19, 3) := by decide +kernel
theorem dX5_init_58 : decode cX5_init 58 = .ok (.invokespecial 34, 3) := by decide +kernel
theorem dX5_init_61 : decode cX5_init 61 = .ok (.putfield 35, 3) := by decide +kernel
theorem dX5_init_64 : decode cX5_init 64 = .ok (.aload_n 0, 1) := by decide +kernel
theorem dX5_init_65 : decode cX5_init 65 = .ok (.iconst 0, 1) := by decide +kernel
theorem dX5_init_66 : decode cX5_init 66 = .ok (.putfield 39, 3) := by decide +kernel
theorem dX5_init_69 : decode cX5_init 69 = .ok (.return_, 1) := by decide +kernel
theorem dX5_setCost_0 : decode cX5_setCost 0 = .ok (.aload_n 0, 1) := by decide +kernel
theorem dX5_setCost_1 : decode cX5_setCost 1 = .ok (.getfield 39, 3) := by decide +kernel
theorem dX5_setCost_4 : decode cX5_setCost 4 = .ok (.ifCond .ne 21, 3) := by decide +kernel
theorem dX5_setCost_7 : decode cX5_setCost 7 = .ok (.iload_n 1, 1) := by decide +kernel
theorem dX5_setCost_8 : decode cX5_setCost 8 = .ok (.invokestatic 43, 3) := by decide +kernel
theorem dX5_setCost_11 : decode cX5_setCost 11 = .ok (.ifCond .eq 14, 3) := by decide +kernel
theorem dX5_setCost_14 : decode cX5_setCost 14 = .ok (.iload_n 2, 1) := by decide +kernel
theorem dX5_setCost_15 : decode cX5_setCost 15 = .ok (.iconst 0, 1) := by decide +kernel
theorem dX5_setCost_16 : decode cX5_setCost 16 = .ok (.sipush 32767, 3) := by decide +kernel
theorem dX5_setCost_19 : decode cX5_setCost 19 = .ok (.invokestatic 47, 3) := by decide +kernel
theorem dX5_setCost_22 : decode cX5_setCost 22 = .ok (.ifCond .ne 5, 3) := by decide +kernel
theorem dX5_setCost_25 : decode cX5_setCost 25 = .ok (.iconst (-1), 1) := by decide +kernel
theorem dX5_setCost_26 : decode cX5_setCost 26 = .ok (.ireturn, 1) := by decide +kernel
theorem dX5_setCost_27 : decode cX5_setCost 27 = .ok (.aload_n 0, 1) := by decide +kernel
theorem dX5_setCost_28 : decode cX5_setCost 28 = .ok (.getfield 12, 3) := by decide +kernel
theorem dX5_setCost_31 : decode cX5_setCost 31 = .ok (.getfield 51, 3) := by decide +kernel
theorem dX5_setCost_34 : decode cX5_setCost 34 = .ok (.iload_n 1, 1) := by decide +kernel
theorem dX5_setCost_35 : decode cX5_setCost 35 = .ok (.iload_n 2, 1) := by decide +kernel
theorem dX5_setCost_36 : decode cX5_setCost 36 = .ok (.iastore, 1) := by decide +kernel
theorem dX5_setCost_37 : decode cX5_setCost 37 = .ok (.iconst 0, 1) := by decide +kernel
theorem dX5_setCost_38 : decode cX5_setCost 38 = .ok (.ireturn, 1) := by decide +kernel
theorem dX5_term_0 : decode cX5_term 0 = .ok (.aload_n 0, 1) := by decide +kernel
theorem dX5_term_1 : decode cX5_term 1 = .ok (.getfield 39, 3) := by decide +kernel
theorem dX5_term_4 : decode cX5_term 4 = .ok (.ifCond .ne 24, 3) := by decide +kernel
theorem dX5_term_7 : decode cX5_term 7 = .ok (.iload_n 1, 1) := by decide +kernel
theorem dX5_term_8 : decode cX5_term 8 = .ok (.iconst 1, 1) := by decide +kernel
theorem dX5_term_9 : decode cX5_term 9 = .ok (.sipush 32767, 3) := by decide +kernel
theorem dX5_term_12 : decode cX5_term 12 = .ok (.invokestatic 47, 3) := by decide +kernel
theorem dX5_term_15 : decode cX5_term 15 = .ok (.ifCond .eq 13, 3) := by decide +kernel
theorem dX5_term_18 : decode cX5_term 18 = .ok (.iload_n 2, 1) := by decide +kernel
theorem dX5_term_19 : decode cX5_term 19 = .ok (.invokestatic 55, 3) := by decide +kernel
theorem dX5_term_22 : decode cX5_term 22 = .ok (.invokestatic 43, 3) := by decide +kernel
theorem dX5_term_25 : decode cX5_term 25 = .ok (.ifCond .ne 5, 3) := by decide +kernel
theorem dX5_term_28 : decode cX5_term 28 = .ok (.iconst (-1), 1) := by decide +kernel
theorem dX5_term_29 : decode cX5_term 29 = .ok (.ireturn, 1) := by decide +kernel
theorem dX5_term_30 : decode cX5_term 30 = .ok (.aload_n 0, 1) := by decide +kernel
theorem dX5_term_31 : decode cX5_term 31 = .ok (.getfield 12, 3) := by decide +kernel
theorem dX5_term_34 : decode cX5_term 34 = .ok (.iload_n 1, 1) := by decide +kernel
theorem dX5_term_35 : decode cX5_term 35 = .ok (.iload_n 2, 1) := by decide +kernel
theorem dX5_term_36 : decode cX5_term 36 = .ok (.invokevirtual 59, 3) := by decide +kernel
theorem dX5_term_39 : decode cX5_term 39 = .ok (.ifCond .eq 7, 3) := by decide +kernel
theorem dX5_term_42 : decode cX5_term 42 = .ok (.iconst 0, 1) := by decide +kernel
theorem dX5_term_43 : decode cX5_term 43 = .ok (.goto 4, 3) := by decide +kernel
theorem dX5_term_46 : decode cX5_term 46 = .ok (.iconst (-1), 1) := by decide +kernel
theorem dX5_term_47 : decode cX5_term 47 = .ok (.ireturn, 1) := by decide +kernel
theorem dX5_end_0 : decode cX5_end 0 = .ok (.aload_n 0, 1) := by decide +kernel
theorem dX5_end_1 : decode cX5_end 1 = .ok (.getfield 39, 3) := by decide +kernel
theorem dX5_end_4 : decode cX5_end 4 = .ok (.ifCond .ne 13, 3) := by decide +kernel
theorem dX5_end_7 : decode cX5_end 7 = .ok (.iload_n 1, 1) := by decide +kernel
theorem dX5_end_8 : decode cX5_end 8 = .ok (.iconst 0, 1) := by decide +kernel
theorem dX5_end_9 : decode cX5_end 9 = .ok (.ldc 63, 2) := by decide +kernel
theorem dX5_end_11 : decode cX5_end 11 = .ok (.invokestatic 47, 3) := by decide +kernel
theorem dX5_end_14 : decode cX5_end 14 = .ok (.ifCond .ne 5, 3) := by decide +kernel
theorem dX5_end_17 : decode cX5_end 17 = .ok (.iconst (-1), 1) := by decide +kernel
theorem dX5_end_18 : decode cX5_end 18 = .ok (.ireturn, 1) := by decide +kernel
theorem dX5_end_19 : decode cX5_end 19 = .ok (.aload_n 0, 1) := by decide +kernel
theorem dX5_end_20 : decode cX5_end 20 = .ok (.getfield 12, 3) := by decide +kernel
theorem dX5_end_23 : decode cX5_end 23 = .ok (.iload_n 1, 1) := by decide +kernel
theorem dX5_end_24 : decode cX5_end 24 = .ok (.invokevirtual 64, 3) := by decide +kernel
theorem dX5_end_27 : decode cX5_end 27 = .ok (.ireturn, 1) := by decide +kernel
theorem dX5_run_0 : decode cX5_run 0 = .ok (.iload_n 1, 1) := by decide +kernel
theorem dX5_run_1 : decode cX5_run 1 = .ok (.iconst 1, 1) := by decide +kernel
theorem dX5_run_2 : decode cX5_run 2 = .ok (.sipush 2000, 3) := by decide +kernel
theorem dX5_run_5 : decode cX5_run 5 = .ok (.invokestatic 47, 3) := by decide +kernel
theorem dX5_run_8 : decode cX5_run 8 = .ok (.ifCond .ne 5, 3) := by decide +kernel
theorem dX5_run_11 : decode cX5_run 11 = .ok (.iconst (-1), 1) := by decide +kernel
theorem dX5_run_12 : decode cX5_run 12 = .ok (.ireturn, 1) := by decide +kernel
theorem dX5_run_13 : decode cX5_run 13 = .ok (.aload_n 0, 1) := by decide +kernel
theorem dX5_run_14 : decode cX5_run 14 = .ok (.iconst 1, 1) := by decide +kernel
theorem dX5_run_15 : decode cX5_run 15 = .ok (.putfield 39, 3) := by decide +kernel
theorem dX5_run_18 : decode cX5_run 18 = .ok (.aload_n 0, 1) := by decide +kernel
theorem dX5_run_19 : decode cX5_run 19 = .ok (.getfield 28, 3) := by decide +kernel
theorem dX5_run_22 : decode cX5_run 22 = .ok (.iload_n 1, 1) := by decide +kernel
theorem dX5_run_23 : decode cX5_run 23 = .ok (.invokevirtual 67, 3) := by decide +kernel
theorem dX5_run_26 : decode cX5_run 26 = .ok (.ireturn, 1) := by decide +kernel
theorem dX5_optimum_0 : decode cX5_optimum 0 = .ok (.aload_n 0, 1) := by decide +kernel
theorem dX5_optimum_1 : decode cX5_optimum 1 = .ok (.getfield 28, 3) := by decide +kernel
theorem dX5_optimum_4 : decode cX5_optimum 4 = .ok (.invokevirtual 70, 3) := by decide +kernel
theorem dX5_optimum_7 : decode cX5_optimum 7 = .ok (.ifCond .eq 13, 3) := by decide +kernel
theorem dX5_optimum_10 : decode cX5_optimum 10 = .ok (.aload_n 0, 1) := by decide +kernel
theorem dX5_optimum_11 : decode cX5_optimum 11 = .ok (.getfield 28, 3) := by decide +kernel
theorem dX5_optimum_14 : decode cX5_optimum 14 = .ok (.getfield 74, 3) := by decide +kernel
theorem dX5_optimum_17 : decode cX5_optimum 17 = .ok (.goto 5, 3) := by decide +kernel
theorem dX5_optimum_20 : decode cX5_optimum 20 = .ok (.bipush (-3), 2) := by decide +kernel
theorem dX5_optimum_22 : decode cX5_optimum 22 = .ok (.ireturn, 1) := by decide +kernel
theorem dX5_value_0 : decode cX5_value 0 = .ok (.iload_n 1, 1) := by decide +kernel
theorem dX5_value_1 : decode cX5_value 1 = .ok (.invokestatic 43, 3) := by decide +kernel
theorem dX5_value_4 : decode cX5_value 4 = .ok (.ifCond .eq 14, 3) := by decide +kernel
theorem dX5_value_7 : decode cX5_value 7 = .ok (.aload_n 0, 1) := by decide +kernel
theorem dX5_value_8 : decode cX5_value 8 = .ok (.getfield 28, 3) := by decide +kernel
theorem dX5_value_11 : decode cX5_value 11 = .ok (.getfield 74, 3) := by decide +kernel
theorem dX5_value_14 : decode cX5_value 14 = .ok (.iconst (-1), 1) := by decide +kernel
theorem dX5_value_15 : decode cX5_value 15 = .ok (.if_icmp .ne 5, 3) := by decide +kernel
theorem dX5_value_18 : decode cX5_value 18 = .ok (.iconst (-1), 1) := by decide +kernel
theorem dX5_value_19 : decode cX5_value 19 = .ok (.ireturn, 1) := by decide +kernel
theorem dX5_value_20 : decode cX5_value 20 = .ok (.aload_n 0, 1) := by decide +kernel
theorem dX5_value_21 : decode cX5_value 21 = .ok (.getfield 28, 3) := by decide +kernel
theorem dX5_value_24 : decode cX5_value 24 = .ok (.getfield 78, 3) := by decide +kernel
theorem dX5_value_27 : decode cX5_value 27 = .ok (.iload_n 1, 1) := by decide +kernel
theorem dX5_value_28 : decode cX5_value 28 = .ok (.invokestatic 81, 3) := by decide +kernel
theorem dX5_value_31 : decode cX5_value 31 = .ok (.iand, 1) := by decide +kernel
theorem dX5_value_32 : decode cX5_value 32 = .ok (.ifCond .eq 7, 3) := by decide +kernel
theorem dX5_value_35 : decode cX5_value 35 = .ok (.iconst 1, 1) := by decide +kernel
theorem dX5_value_36 : decode cX5_value 36 = .ok (.goto 4, 3) := by decide +kernel
theorem dX5_value_39 : decode cX5_value 39 = .ok (.iconst 0, 1) := by decide +kernel
theorem dX5_value_40 : decode cX5_value 40 = .ok (.ireturn, 1) := by decide +kernel
theorem dX5_logSize_0 : decode cX5_logSize 0 = .ok (.aload_n 0, 1) := by decide +kernel
theorem dX5_logSize_1 : decode cX5_logSize 1 = .ok (.getfield 19, 3) := by decide +kernel
theorem dX5_logSize_4 : decode cX5_logSize 4 = .ok (.getfield 84, 3) := by decide +kernel
theorem dX5_logSize_7 : decode cX5_logSize 7 = .ok (.ireturn, 1) := by decide +kernel
theorem dX5_logAt_0 : decode cX5_logAt 0 = .ok (.aload_n 0, 1) := by decide +kernel
theorem dX5_logAt_1 : decode cX5_logAt 1 = .ok (.getfield 19, 3) := by decide +kernel
theorem dX5_logAt_4 : decode cX5_logAt 4 = .ok (.iload_n 1, 1) := by decide +kernel
theorem dX5_logAt_5 : decode cX5_logAt 5 = .ok (.invokevirtual 87, 3) := by decide +kernel
theorem dX5_logAt_8 : decode cX5_logAt 8 = .ok (.ireturn, 1) := by decide +kernel
theorem dX5_poke_0 : decode cX5_poke 0 = .ok (.aload_n 0, 1) := by decide +kernel
theorem dX5_poke_1 : decode cX5_poke 1 = .ok (.getfield 28, 3) := by decide +kernel
theorem dX5_poke_4 : decode cX5_poke 4 = .ok (.invokevirtual 70, 3) := by decide +kernel
theorem dX5_poke_7 : decode cX5_poke 7 = .ok (.ifCond .eq 15, 3) := by decide +kernel
theorem dX5_poke_10 : decode cX5_poke 10 = .ok (.aload_n 0, 1) := by decide +kernel
theorem dX5_poke_11 : decode cX5_poke 11 = .ok (.getfield 19, 3) := by decide +kernel
theorem dX5_poke_14 : decode cX5_poke 14 = .ok (.iload_n 1, 1) := by decide +kernel
theorem dX5_poke_15 : decode cX5_poke 15 = .ok (.iload_n 2, 1) := by decide +kernel
theorem dX5_poke_16 : decode cX5_poke 16 = .ok (.invokevirtual 90, 3) := by decide +kernel
theorem dX5_poke_19 : decode cX5_poke 19 = .ok (.ifCond .ne 5, 3) := by decide +kernel
theorem dX5_poke_22 : decode cX5_poke 22 = .ok (.iconst (-1), 1) := by decide +kernel
theorem dX5_poke_23 : decode cX5_poke 23 = .ok (.ireturn, 1) := by decide +kernel
theorem dX5_poke_24 : decode cX5_poke 24 = .ok (.aload_n 0, 1) := by decide +kernel
theorem dX5_poke_25 : decode cX5_poke 25 = .ok (.getfield 35, 3) := by decide +kernel
theorem dX5_poke_28 : decode cX5_poke 28 = .ok (.invokevirtual 93, 3) := by decide +kernel
theorem dX5_poke_31 : decode cX5_poke 31 = .ok (.iconst 0, 1) := by decide +kernel
theorem dX5_poke_32 : decode cX5_poke 32 = .ok (.ireturn, 1) := by decide +kernel
theorem dX5_cut_0 : decode cX5_cut 0 = .ok (.aload_n 0, 1) := by decide +kernel
theorem dX5_cut_1 : decode cX5_cut 1 = .ok (.getfield 28, 3) := by decide +kernel
theorem dX5_cut_4 : decode cX5_cut 4 = .ok (.invokevirtual 70, 3) := by decide +kernel
theorem dX5_cut_7 : decode cX5_cut 7 = .ok (.ifCond .eq 14, 3) := by decide +kernel
theorem dX5_cut_10 : decode cX5_cut 10 = .ok (.aload_n 0, 1) := by decide +kernel
theorem dX5_cut_11 : decode cX5_cut 11 = .ok (.getfield 19, 3) := by decide +kernel
theorem dX5_cut_14 : decode cX5_cut 14 = .ok (.iload_n 1, 1) := by decide +kernel
theorem dX5_cut_15 : decode cX5_cut 15 = .ok (.invokevirtual 96, 3) := by decide +kernel
theorem dX5_cut_18 : decode cX5_cut 18 = .ok (.ifCond .ne 5, 3) := by decide +kernel
theorem dX5_cut_21 : decode cX5_cut 21 = .ok (.iconst (-1), 1) := by decide +kernel
theorem dX5_cut_22 : decode cX5_cut 22 = .ok (.ireturn, 1) := by decide +kernel
theorem dX5_cut_23 : decode cX5_cut 23 = .ok (.aload_n 0, 1) := by decide +kernel
theorem dX5_cut_24 : decode cX5_cut 24 = .ok (.getfield 35, 3) := by decide +kernel
theorem dX5_cut_27 : decode cX5_cut 27 = .ok (.invokevirtual 93, 3) := by decide +kernel
theorem dX5_cut_30 : decode cX5_cut 30 = .ok (.iconst 0, 1) := by decide +kernel
theorem dX5_cut_31 : decode cX5_cut 31 = .ok (.ireturn, 1) := by decide +kernel
theorem dX5_check_0 : decode cX5_check 0 = .ok (.aload_n 0, 1) := by decide +kernel
theorem dX5_check_1 : decode cX5_check 1 = .ok (.getfield 28, 3) := by decide +kernel
theorem dX5_check_4 : decode cX5_check 4 = .ok (.invokevirtual 70, 3) := by decide +kernel
theorem dX5_check_7 : decode cX5_check 7 = .ok (.ifCond .ne 6, 3) := by decide +kernel
theorem dX5_check_10 : decode cX5_check 10 = .ok (.bipush (-3), 2) := by decide +kernel
theorem dX5_check_12 : decode cX5_check 12 = .ok (.ireturn, 1) := by decide +kernel
theorem dX5_check_13 : decode cX5_check 13 = .ok (.iload_n 1, 1) := by decide +kernel
theorem dX5_check_14 : decode cX5_check 14 = .ok (.iconst 1, 1) := by decide +kernel
theorem dX5_check_15 : decode cX5_check 15 = .ok (.sipush 2000, 3) := by decide +kernel
theorem dX5_check_18 : decode cX5_check 18 = .ok (.invokestatic 47, 3) := by decide +kernel
theorem dX5_check_21 : decode cX5_check 21 = .ok (.ifCond .ne 5, 3) := by decide +kernel
theorem dX5_check_24 : decode cX5_check 24 = .ok (.iconst (-1), 1) := by decide +kernel
theorem dX5_check_25 : decode cX5_check 25 = .ok (.ireturn, 1) := by decide +kernel
theorem dX5_check_26 : decode cX5_check 26 = .ok (.aload_n 0, 1) := by decide +kernel
theorem dX5_check_27 : decode cX5_check 27 = .ok (.getfield 35, 3) := by decide +kernel
theorem dX5_check_30 : decode cX5_check 30 = .ok (.iload_n 1, 1) := by decide +kernel
theorem dX5_check_31 : decode cX5_check 31 = .ok (.invokevirtual 99, 3) := by decide +kernel
theorem dX5_check_34 : decode cX5_check 34 = .ok (.ireturn, 1) := by decide +kernel
theorem dX5_steps_0 : decode cX5_steps 0 = .ok (.aload_n 0, 1) := by decide +kernel
theorem dX5_steps_1 : decode cX5_steps 1 = .ok (.getfield 28, 3) := by decide +kernel
theorem dX5_steps_4 : decode cX5_steps 4 = .ok (.getfield 102, 3) := by decide +kernel
theorem dX5_steps_7 : decode cX5_steps 7 = .ok (.ireturn, 1) := by decide +kernel
theorem dX5_isWithin_0 : decode cX5_isWithin 0 = .ok (.iload_n 0, 1) := by decide +kernel
theorem dX5_isWithin_1 : decode cX5_isWithin 1 = .ok (.iload_n 1, 1) := by decide +kernel
theorem dX5_isWithin_2 : decode cX5_isWithin 2 = .ok (.if_icmp .lt 12, 3) := by decide +kernel
theorem dX5_isWithin_5 : decode cX5_isWithin 5 = .ok (.iload_n 0, 1) := by decide +kernel
theorem dX5_isWithin_6 : decode cX5_isWithin 6 = .ok (.iload_n 2, 1) := by decide +kernel
theorem dX5_isWithin_7 : decode cX5_isWithin 7 = .ok (.if_icmp .gt 7, 3) := by decide +kernel
theorem dX5_isWithin_10 : decode cX5_isWithin 10 = .ok (.iconst 1, 1) := by decide +kernel
theorem dX5_isWithin_11 : decode cX5_isWithin 11 = .ok (.goto 4, 3) := by decide +kernel
theorem dX5_isWithin_14 : decode cX5_isWithin 14 = .ok (.iconst 0, 1) := by decide +kernel
theorem dX5_isWithin_15 : decode cX5_isWithin 15 = .ok (.ireturn, 1) := by decide +kernel
theorem dX5_isVariable_0 : decode cX5_isVariable 0 = .ok (.iload_n 0, 1) := by decide +kernel
theorem dX5_isVariable_1 : decode cX5_isVariable 1 = .ok (.iconst 1, 1) := by decide +kernel
theorem dX5_isVariable_2 : decode cX5_isVariable 2 = .ok (.bipush 16, 2) := by decide +kernel
theorem dX5_isVariable_4 : decode cX5_isVariable 4 = .ok (.invokestatic 47, 3) := by decide +kernel
theorem dX5_isVariable_7 : decode cX5_isVariable 7 = .ok (.ireturn, 1) := by decide +kernel
theorem dX5_variableOf_0 : decode cX5_variableOf 0 = .ok (.iload_n 0, 1) := by decide +kernel
theorem dX5_variableOf_1 : decode cX5_variableOf 1 = .ok (.ifCond .ge 8, 3) := by decide +kernel
theorem dX5_variableOf_4 : decode cX5_variableOf 4 = .ok (.iload_n 0, 1) := by decide +kernel
theorem dX5_variableOf_5 : decode cX5_variableOf 5 = .ok (.ineg, 1) := by decide +kernel
theorem dX5_variableOf_6 : decode cX5_variableOf 6 = .ok (.goto 4, 3) := by decide +kernel
theorem dX5_variableOf_9 : decode cX5_variableOf 9 = .ok (.iload_n 0, 1) := by decide +kernel
theorem dX5_variableOf_10 : decode cX5_variableOf 10 = .ok (.ireturn, 1) := by decide +kernel
theorem dX5_bitOf_0 : decode cX5_bitOf 0 = .ok (.iconst 1, 1) := by decide +kernel
theorem dX5_bitOf_1 : decode cX5_bitOf 1 = .ok (.iload_n 0, 1) := by decide +kernel
theorem dX5_bitOf_2 : decode cX5_bitOf 2 = .ok (.iconst 1, 1) := by decide +kernel
theorem dX5_bitOf_3 : decode cX5_bitOf 3 = .ok (.isub, 1) := by decide +kernel
theorem dX5_bitOf_4 : decode cX5_bitOf 4 = .ok (.ishl, 1) := by decide +kernel
theorem dX5_bitOf_5 : decode cX5_bitOf 5 = .ok (.ireturn, 1) := by decide +kernel
theorem dX5_limitBelow_0 : decode cX5_limitBelow 0 = .ok (.iload_n 0, 1) := by decide +kernel
theorem dX5_limitBelow_1 : decode cX5_limitBelow 1 = .ok (.iconst (-1), 1) := by decide +kernel
theorem dX5_limitBelow_2 : decode cX5_limitBelow 2 = .ok (.if_icmp .ne 8, 3) := by decide +kernel
theorem dX5_limitBelow_5 : decode cX5_limitBelow 5 = .ok (.ldc 105, 2) := by decide +kernel
theorem dX5_limitBelow_7 : decode cX5_limitBelow 7 = .ok (.goto 6, 3) := by decide +kernel
theorem dX5_limitBelow_10 : decode cX5_limitBelow 10 = .ok (.iload_n 0, 1) := by decide +kernel
theorem dX5_limitBelow_11 : decode cX5_limitBelow 11 = .ok (.iconst 1, 1) := by decide +kernel
theorem dX5_limitBelow_12 : decode cX5_limitBelow 12 = .ok (.isub, 1) := by decide +kernel
theorem dX5_limitBelow_13 : decode cX5_limitBelow 13 = .ok (.ireturn, 1) := by decide +kernel
theorem dX6_init_0 : decode cX6_init 0 = .ok (.aload_n 0, 1) := by decide +kernel
theorem dX6_init_1 : decode cX6_init 1 = .ok (.invokespecial 1, 3) := by decide +kernel
theorem dX6_init_4 : decode cX6_init 4 = .ok (.aload_n 0, 1) := by decide +kernel
theorem dX6_init_5 : decode cX6_init 5 = .ok (.bipush 17, 2) := by decide +kernel
theorem dX6_init_7 : decode cX6_init 7 = .ok (.newarray .int, 2) := by decide +kernel
theorem dX6_init_9 : decode cX6_init 9 = .ok (.putfield 7, 3) := by decide +kernel
theorem dX6_init_12 : decode cX6_init 12 = .ok (.aload_n 0, 1) := by decide +kernel
theorem dX6_init_13 : decode cX6_init 13 = .ok (.bipush 120, 2) := by decide +kernel
theorem dX6_init_15 : decode cX6_init 15 = .ok (.newarray .int, 2) := by decide +kernel
theorem dX6_init_17 : decode cX6_init 17 = .ok (.putfield 13, 3) := by decide +kernel
theorem dX6_init_20 : decode cX6_init 20 = .ok (.aload_n 0, 1) := by decide +kernel
theorem dX6_init_21 : decode cX6_init 21 = .ok (.bipush 120, 2) := by decide +kernel
theorem dX6_init_23 : decode cX6_init 23 = .ok (.newarray .int, 2) := by decide +kernel
theorem dX6_init_25 : decode cX6_init 25 = .ok (.putfield 16, 3) := by decide +kernel
theorem dX6_init_28 : decode cX6_init 28 = .ok (.aload_n 0, 1) := by decide +kernel
theorem dX6_init_29 : decode cX6_init 29 = .ok (.bipush 22, 2) := by decide +kernel
theorem dX6_init_31 : decode cX6_init 31 = .ok (.newarray .int, 2) := by decide +kernel
theorem dX6_init_33 : decode cX6_init 33 = .ok (.putfield 19, 3) := by decide +kernel
theorem dX6_init_36 : decode cX6_init 36 = .ok (.aload_n 0, 1) := by decide +kernel
theorem dX6_init_37 : decode cX6_init 37 = .ok (.bipush 21, 2) := by decide +kernel
theorem dX6_init_39 : decode cX6_init 39 = .ok (.newarray .int, 2) := by decide +kernel
theorem dX6_init_41 : decode cX6_init 41 = .ok (.putfield 22, 3) := by decide +kernel
theorem dX6_init_44 : decode cX6_init 44 = .ok (.aload_n 0, 1) := by decide +kernel
theorem dX6_init_45 : decode cX6_init 45 = .ok (.bipush 16, 2) := by decide +kernel
theorem dX6_init_47 : decode cX6_init 47 = .ok (.newarray .int, 2) := by decide +kernel
theorem dX6_init_49 : decode cX6_init 49 = .ok (.putfield 25, 3) := by decide +kernel
theorem dX6_init_52 : decode cX6_init 52 = .ok (.aload_n 0, 1) := by decide +kernel
theorem dX6_init_53 : decode cX6_init 53 = .ok (.bipush 16, 2) := by decide +kernel
theorem dX6_init_55 : decode cX6_init 55 = .ok (.newarray .boolean, 2) := by decide +kernel
theorem dX6_init_57 : decode cX6_init 57 = .ok (.putfield 28, 3) := by decide +kernel
theorem dX6_init_60 : decode cX6_init 60 = .ok (.aload_n 0, 1) := by decide +kernel
theorem dX6_init_61 : decode cX6_init 61 = .ok (.iconst (-1), 1) := by decide +kernel
theorem dX6_init_62 : decode cX6_init 62 = .ok (.putfield 32, 3) := by decide +kernel
theorem dX6_init_65 : decode cX6_init 65 = .ok (.aload_n 0, 1) := by decide +kernel
theorem dX6_init_66 : decode cX6_init 66 = .ok (.sipush 401, 3) := by decide +kernel
theorem dX6_init_69 : decode cX6_init 69 = .ok (.newarray .int, 2) := by decide +kernel
theorem dX6_init_71 : decode cX6_init 71 = .ok (.putfield 36, 3) := by decide +kernel
theorem dX6_init_74 : decode cX6_init 74 = .ok (.aload_n 0, 1) := by decide +kernel
theorem dX6_init_75 : decode cX6_init 75 = .ok (.iconst 2, 1) := by decide +kernel
theorem dX6_init_76 : decode cX6_init 76 = .ok (.putfield 39, 3) := by decide +kernel
theorem dX6_init_79 : decode cX6_init 79 = .ok (.aload_n 0, 1) := by decide +kernel
theorem dX6_init_80 : decode cX6_init 80 = .ok (.sipush 402, 3) := by decide +kernel
theorem dX6_init_83 : decode cX6_init 83 = .ok (.newarray .int, 2) := by decide +kernel
theorem dX6_init_85 : decode cX6_init 85 = .ok (.putfield 42, 3) := by decide +kernel
theorem dX6_init_88 : decode cX6_init 88 = .ok (.aload_n 0, 1) := by decide +kernel
theorem dX6_init_89 : decode cX6_init 89 = .ok (.sipush 402, 3) := by decide +kernel
theorem dX6_init_92 : decode cX6_init 92 = .ok (.newarray .int, 2) := by decide +kernel
theorem dX6_init_94 : decode cX6_init 94 = .ok (.putfield 45, 3) := by decide +kernel
theorem dX6_init_97 : decode cX6_init 97 = .ok (.aload_n 0, 1) := by decide +kernel
theorem dX6_init_98 : decode cX6_init 98 = .ok (.sipush 402, 3) := by decide +kernel
theorem dX6_init_101 : decode cX6_init 101 = .ok (.newarray .boolean, 2) := by decide +kernel
theorem dX6_init_103 : decode cX6_init 103 = .ok (.putfield 48, 3) := by decide +kernel
theorem dX6_init_106 : decode cX6_init 106 = .ok (.return_, 1) := by decide +kernel
theorem dX6_isIn_0 : decode cX6_isIn 0 = .ok (.iload_n 0, 1) := by decide +kernel
theorem dX6_isIn_1 : decode cX6_isIn 1 = .ok (.iload_n 1, 1) := by decide +kernel
theorem dX6_isIn_2 : decode cX6_isIn 2 = .ok (.if_icmp .lt 12, 3) := by decide +kernel
theorem dX6_isIn_5 : decode cX6_isIn 5 = .ok (.iload_n 0, 1) := by decide +kernel
theorem dX6_isIn_6 : decode cX6_isIn 6 = .ok (.iload_n 2, 1) := by decide +kernel
theorem dX6_isIn_7 : decode cX6_isIn 7 = .ok (.if_icmp .gt 7, 3) := by decide +kernel
theorem dX6_isIn_10 : decode cX6_isIn 10 = .ok (.iconst 1, 1) := by decide +kernel
theorem dX6_isIn_11 : decode cX6_isIn 11 = .ok (.goto 4, 3) := by decide +kernel
theorem dX6_isIn_14 : decode cX6_isIn 14 = .ok (.iconst 0, 1) := by decide +kernel
theorem dX6_isIn_15 : decode cX6_isIn 15 = .ok (.ireturn, 1) := by decide +kernel
theorem dX6_setCost_0 : decode cX6_setCost 0 = .ok (.aload_n 0, 1) := by decide +kernel
theorem dX6_setCost_1 : decode cX6_setCost 1 = .ok (.getfield 54, 3) := by decide +kernel
theorem dX6_setCost_4 : decode cX6_setCost 4 = .ok (.ifCond .ne 24, 3) := by decide +kernel
theorem dX6_setCost_7 : decode cX6_setCost 7 = .ok (.iload_n 1, 1) := by decide +kernel
theorem dX6_setCost_8 : decode cX6_setCost 8 = .ok (.iconst 1, 1) := by decide +kernel
theorem dX6_setCost_9 : decode cX6_setCost 9 = .ok (.bipush 16, 2) := by decide +kernel
theorem dX6_setCost_11 : decode cX6_setCost 11 = .ok (.invokestatic 58, 3) := by decide +kernel
theorem dX6_setCost_14 : decode cX6_setCost 14 = .ok (.ifCond .eq 14, 3) := by decide +kernel
theorem dX6_setCost_17 : decode cX6_setCost 17 = .ok (.iload_n 2, 1) := by decide +kernel
theorem dX6_setCost_18 : decode cX6_setCost 18 = .ok (.iconst 0, 1) := by decide +kernel
theorem dX6_setCost_19 : decode cX6_setCost 19 = .ok (.sipush 32767, 3) := by decide +kernel
theorem dX6_setCost_22 : decode cX6_setCost 22 = .ok (.invokestatic 58, 3) := by decide +kernel
theorem dX6_setCost_25 : decode cX6_setCost 25 = .ok (.ifCond .ne 5, 3) := by decide +kernel
theorem dX6_setCost_28 : decode cX6_setCost 28 = .ok (.iconst (-1), 1) := by decide +kernel
theorem dX6_setCost_29 : decode cX6_setCost 29 = .ok (.ireturn, 1) := by decide +kernel
theorem dX6_setCost_30 : decode cX6_setCost 30 = .ok (.aload_n 0, 1) := by decide +kernel
theorem dX6_setCost_31 : decode cX6_setCost 31 = .ok (.getfield 7, 3) := by decide +kernel
theorem dX6_setCost_34 : decode cX6_setCost 34 = .ok (.iload_n 1, 1) := by decide +kernel
theorem dX6_setCost_35 : decode cX6_setCost 35 = .ok (.iload_n 2, 1) := by decide +kernel
theorem dX6_setCost_36 : decode cX6_setCost 36 = .ok (.iastore, 1) := by decide +kernel
theorem dX6_setCost_37 : decode cX6_setCost 37 = .ok (.iconst 0, 1) := by decide +kernel
theorem dX6_setCost_38 : decode cX6_setCost 38 = .ok (.ireturn, 1) := by decide +kernel
theorem dX6_term_0 : decode cX6_term 0 = .ok (.iload_n 2, 1) := by decide +kernel
theorem dX6_term_1 : decode cX6_term 1 = .ok (.ifCond .ge 8, 3) := by decide +kernel
theorem dX6_term_4 : decode cX6_term 4 = .ok (.iload_n 2, 1) := by decide +kernel
theorem dX6_term_5 : decode cX6_term 5 = .ok (.ineg, 1) := by decide +kernel
theorem dX6_term_6 : decode cX6_term 6 = .ok (.goto 4, 3) := by decide +kernel
theorem dX6_term_9 : decode cX6_term 9 = .ok (.iload_n 2, 1) := by decide +kernel
theorem dX6_term_10 : decode cX6_term 10 = .ok (.istore_n 3, 1) := by decide +kernel
theorem dX6_term_11 : decode cX6_term 11 = .ok (.aload_n 0, 1) := by decide +kernel
theorem dX6_term_12 : decode cX6_term 12 = .ok (.getfield 54, 3) := by decide +kernel
theorem dX6_term_15 : decode cX6_term 15 = .ok (.ifCond .ne 46, 3) := by decide +kernel
theorem dX6_term_18 : decode cX6_term 18 = .ok (.iload_n 1, 1) := by decide +kernel
theorem dX6_term_19 : decode cX6_term 19 = .ok (.iconst 1, 1) := by decide +kernel
theorem dX6_term_20 : decode cX6_term 20 = .ok (.sipush 32767, 3) := by decide +kernel
theorem dX6_term_23 : decode cX6_term 23 = .ok (.invokestatic 58, 3) := by decide +kernel
theorem dX6_term_26 : decode cX6_term 26 = .ok (.ifCond .eq 35, 3) := by decide +kernel
theorem dX6_term_29 : decode cX6_term 29 = .ok (.iload_n 3, 1) := by decide +kernel
theorem dX6_term_30 : decode cX6_term 30 = .ok (.iconst 1, 1) := by decide +kernel
theorem dX6_term_31 : decode cX6_term 31 = .ok (.bipush 16, 2) := by decide +kernel
theorem dX6_term_33 : decode cX6_term 33 = .ok (.invokestatic 58, 3) := by decide +kernel
theorem dX6_term_36 : decode cX6_term 36 = .ok (.ifCond .eq 25, 3) := by decide +kernel
theorem dX6_term_39 : decode cX6_term 39 = .ok (.aload_n 0, 1) := by decide +kernel
theorem dX6_term_40 : decode cX6_term 40 = .ok (.getfield 62, 3) := by decide +kernel
theorem dX6_term_43 : decode cX6_term 43 = .ok (.bipush 120, 2) := by decide +kernel
theorem dX6_term_45 : decode cX6_term 45 = .ok (.if_icmp .ge 16, 3) := by decide +kernel
theorem dX6_term_48 : decode cX6_term 48 = .ok (.aload_n 0, 1) := by decide +kernel
theorem dX6_term_49 : decode cX6_term 49 = .ok (.getfield 65, 3) := by decide +kernel
theorem dX6_term_52 : decode cX6_term 52 = .ok (.bipush 20, 2) := by decide +kernel
theorem dX6_term_54 : decode cX6_term 54 = .ok (.if_icmp .ge 7, 3) := by decide +kernel
theorem dX6_term_57 : decode cX6_term 57 = .ok (.iconst 1, 1) := by decide +kernel
theorem dX6_term_58 : decode cX6_term 58 = .ok (.goto 4, 3) := by decide +kernel
theorem dX6_term_61 : decode cX6_term 61 = .ok (.iconst 0, 1) := by decide +kernel
theorem dX6_term_62 : decode cX6_term 62 = .ok (.istore 4, 2) := by decide +kernel
theorem dX6_term_64 : decode cX6_term 64 = .ok (.aload_n 0, 1) := by decide +kernel
theorem dX6_term_65 : decode cX6_term 65 = .ok (.getfield 19, 3) := by decide +kernel
theorem dX6_term_68 : decode cX6_term 68 = .ok (.aload_n 0, 1) := by decide +kernel
theorem dX6_term_69 : decode cX6_term 69 = .ok (.getfield 65, 3) := by decide +kernel
theorem dX6_term_72 : decode cX6_term 72 = .ok (.iaload, 1) := by decide +kernel
theorem dX6_term_73 : decode cX6_term 73 = .ok (.istore 5, 2) := by decide +kernel
theorem dX6_term_75 : decode cX6_term 75 = .ok (.iload 4, 2) := by decide +kernel
theorem dX6_term_77 : decode cX6_term 77 = .ok (.ifCond .eq 48, 3) := by decide +kernel
theorem dX6_term_80 : decode cX6_term 80 = .ok (.iload 5, 2) := by decide +kernel
theorem dX6_term_82 : decode cX6_term 82 = .ok (.aload_n 0, 1) := by decide +kernel
theorem dX6_term_83 : decode cX6_term 83 = .ok (.getfield 62, 3) := by decide +kernel
theorem dX6_term_86 : decode cX6_term 86 = .ok (.if_icmp .ge 39, 3) := by decide +kernel
theorem dX6_term_89 : decode cX6_term 89 = .ok (.aload_n 0, 1) := by decide +kernel
theorem dX6_term_90 : decode cX6_term 90 = .ok (.getfield 16, 3) := by decide +kernel
theorem dX6_term_93 : decode cX6_term 93 = .ok (.iload 5, 2) := by decide +kernel
theorem dX6_term_95 : decode cX6_term 95 = .ok (.iaload, 1) := by decide +kernel
theorem dX6_term_96 : decode cX6_term 96 = .ok (.iload_n 2, 1) := by decide +kernel
theorem dX6_term_97 : decode cX6_term 97 = .ok (.if_icmp .eq 19, 3) := by decide +kernel
theorem dX6_term_100 : decode cX6_term 100 = .ok (.aload_n 0, 1) := by decide +kernel
theorem dX6_term_101 : decode cX6_term 101 = .ok (.getfield 16, 3) := by decide +kernel
theorem dX6_term_104 : decode cX6_term 104 = .ok (.iload 5, 2) := by decide +kernel
theorem dX6_term_106 : decode cX6_term 106 = .ok (.iaload, 1) := by decide +kernel
theorem dX6_term_107 : decode cX6_term 107 = .ok (.iload_n 2, 1) := by decide +kernel
theorem dX6_term_108 : decode cX6_term 108 = .ok (.ineg, 1) := by decide +kernel
theorem dX6_term_109 : decode cX6_term 109 = .ok (.if_icmp .eq 7, 3) := by decide +kernel
theorem dX6_term_112 : decode cX6_term 112 = .ok (.iconst 1, 1) := by decide +kernel
theorem dX6_term_113 : decode cX6_term 113 = .ok (.goto 4, 3) := by decide +kernel
theorem dX6_term_116 : decode cX6_term 116 = .ok (.iconst 0, 1) := by decide +kernel
theorem dX6_term_117 : decode cX6_term 117 = .ok (.istore 4, 2) := by decide +kernel
theorem dX6_term_119 : decode cX6_term 119 = .ok (.iinc 5 1, 3) := by decide +kernel
theorem dX6_term_122 : decode cX6_term 122 = .ok (.goto (-47), 3) := by decide +kernel
theorem dX6_term_125 : decode cX6_term 125 = .ok (.iload 4, 2) := by decide +kernel
theorem dX6_term_127 : decode cX6_term 127 = .ok (.ifCond .ne 5, 3) := by decide +kernel
theorem dX6_term_130 : decode cX6_term 130 = .ok (.iconst (-1), 1) := by decide +kernel
theorem dX6_term_131 : decode cX6_term 131 = .ok (.ireturn, 1) := by decide +kernel
theorem dX6_term_132 : decode cX6_term 132 = .ok (.aload_n 0, 1) := by decide +kernel
theorem dX6_term_133 : decode cX6_term 133 = .ok (.getfield 13, 3) := by decide +kernel
theorem dX6_term_136 : decode cX6_term 136 = .ok (.aload_n 0, 1) := by decide +kernel
theorem dX6_term_137 : decode cX6_term 137 = .ok (.getfield 62, 3) := by decide +kernel
theorem dX6_term_140 : decode cX6_term 140 = .ok (.iload_n 1, 1) := by decide +kernel
theorem dX6_term_141 : decode cX6_term 141 = .ok (.iastore, 1) := by decide +kernel
theorem dX6_term_142 : decode cX6_term 142 = .ok (.aload_n 0, 1) := by decide +kernel
theorem dX6_term_143 : decode cX6_term 143 = .ok (.getfield 16, 3) := by decide +kernel
theorem dX6_term_146 : decode cX6_term 146 = .ok (.aload_n 0, 1) := by decide +kernel
theorem dX6_term_147 : decode cX6_term 147 = .ok (.getfield 62, 3) := by decide +kernel
theorem dX6_term_150 : decode cX6_term 150 = .ok (.iload_n 2, 1) := by decide +kernel
theorem dX6_term_151 : decode cX6_term 151 = .ok (.iastore, 1) := by decide +kernel
theorem dX6_term_152 : decode cX6_term 152 = .ok (.aload_n 0, 1) := by decide +kernel
theorem dX6_term_153 : decode cX6_term 153 = .ok (.dup, 1) := by decide +kernel
theorem dX6_term_154 : decode cX6_term 154 = .ok (.getfield 62, 3) := by decide +kernel
theorem dX6_term_157 : decode cX6_term 157 = .ok (.iconst 1, 1) := by decide +kernel
theorem dX6_term_158 : decode cX6_term 158 = .ok (.iadd, 1) := by decide +kernel
theorem dX6_term_159 : decode cX6_term 159 = .ok (.putfield 62, 3) := by decide +kernel
theorem dX6_term_162 : decode cX6_term 162 = .ok (.iconst 0, 1) := by decide +kernel
theorem dX6_term_163 : decode cX6_term 163 = .ok (.ireturn, 1) := by decide +kernel
theorem dX6_end_0 : decode cX6_end 0 = .ok (.aload_n 0, 1) := by decide +kernel
theorem dX6_end_1 : decode cX6_end 1 = .ok (.getfield 54, 3) := by decide +kernel
theorem dX6_end_4 : decode cX6_end 4 = .ok (.ifCond .ne 22, 3) := by decide +kernel
theorem dX6_end_7 : decode cX6_end 7 = .ok (.iload_n 1, 1) := by decide +kernel
theorem dX6_end_8 : decode cX6_end 8 = .ok (.iconst 0, 1) := by decide +kernel
theorem dX6_end_9 : decode cX6_end 9 = .ok (.ldc 68, 2) := by decide +kernel
theorem dX6_end_11 : decode cX6_end 11 = .ok (.invokestatic 58, 3) := by decide +kernel
theorem dX6_end_14 : decode cX6_end 14 = .ok (.ifCond .eq 12, 3) := by decide +kernel
theorem dX6_end_17 : decode cX6_end 17 = .ok (.aload_n 0, 1) := by decide +kernel
theorem dX6_end_18 : decode cX6_end 18 = .ok (.getfield 65, 3) := by decide +kernel
theorem dX6_end_21 : decode cX6_end 21 = .ok (.bipush 20, 2) := by decide +kernel
theorem dX6_end_23 : decode cX6_end 23 = .ok (.if_icmp .ne 5, 3) := by decide +kernel
theorem dX6_end_26 : decode cX6_end 26 = .ok (.iconst (-1), 1) := by decide +kernel
theorem dX6_end_27 : decode cX6_end 27 = .ok (.ireturn, 1) := by decide +kernel
theorem dX6_end_28 : decode cX6_end 28 = .ok (.aload_n 0, 1) := by decide +kernel
theorem dX6_end_29 : decode cX6_end 29 = .ok (.getfield 22, 3) := by decide +kernel
theorem dX6_end_32 : decode cX6_end 32 = .ok (.aload_n 0, 1) := by decide +kernel
theorem dX6_end_33 : decode cX6_end 33 = .ok (.getfield 65, 3) := by decide +kernel
theorem dX6_end_36 : decode cX6_end 36 = .ok (.iload_n 1, 1) := by decide +kernel
theorem dX6_end_37 : decode cX6_end 37 = .ok (.iastore, 1) := by decide +kernel
theorem dX6_end_38 : decode cX6_end 38 = .ok (.aload_n 0, 1) := by decide +kernel
theorem dX6_end_39 : decode cX6_end 39 = .ok (.dup, 1) := by decide +kernel
theorem dX6_end_40 : decode cX6_end 40 = .ok (.getfield 65, 3) := by decide +kernel
theorem dX6_end_43 : decode cX6_end 43 = .ok (.iconst 1, 1) := by decide +kernel
theorem dX6_end_44 : decode cX6_end 44 = .ok (.iadd, 1) := by decide +kernel
theorem dX6_end_45 : decode cX6_end 45 = .ok (.putfield 65, 3) := by decide +kernel
theorem dX6_end_48 : decode cX6_end 48 = .ok (.aload_n 0, 1) := by decide +kernel
theorem dX6_end_49 : decode cX6_end 49 = .ok (.getfield 19, 3) := by decide +kernel
theorem dX6_end_52 : decode cX6_end 52 = .ok (.aload_n 0, 1) := by decide +kernel
theorem dX6_end_53 : decode cX6_end 53 = .ok (.getfield 65, 3) := by decide +kernel
theorem dX6_end_56 : decode cX6_end 56 = .ok (.aload_n 0, 1) := by decide +kernel
theorem dX6_end_57 : decode cX6_end 57 = .ok (.getfield 62, 3) := by decide +kernel
theorem dX6_end_60 : decode cX6_end 60 = .ok (.iastore, 1) := by decide +kernel
theorem dX6_end_61 : decode cX6_end 61 = .ok (.aload_n 0, 1) := by decide +kernel
theorem dX6_end_62 : decode cX6_end 62 = .ok (.getfield 65, 3) := by decide +kernel
theorem dX6_end_65 : decode cX6_end 65 = .ok (.iconst 1, 1) := by decide +kernel
theorem dX6_end_66 : decode cX6_end 66 = .ok (.isub, 1) := by decide +kernel
theorem dX6_end_67 : decode cX6_end 67 = .ok (.ireturn, 1) := by decide +kernel
theorem dX6_isSet_0 : decode cX6_isSet 0 = .ok (.aload_n 0, 1) := by decide +kernel
theorem dX6_isSet_1 : decode cX6_isSet 1 = .ok (.getfield 69, 3) := by decide +kernel
theorem dX6_isSet_4 : decode cX6_isSet 4 = .ok (.iload_n 1, 1) := by decide +kernel
theorem dX6_isSet_5 : decode cX6_isSet 5 = .ok (.iconst 1, 1) := by decide +kernel
theorem dX6_isSet_6 : decode cX6_isSet 6 = .ok (.isub, 1) := by decide +kernel
theorem dX6_isSet_7 : decode cX6_isSet 7 = .ok (.ishr, 1) := by decide +kernel
theorem dX6_isSet_8 : decode cX6_isSet 8 = .ok (.iconst 1, 1) := by decide +kernel
theorem dX6_isSet_9 : decode cX6_isSet 9 = .ok (.iand, 1) := by decide +kernel
theorem dX6_isSet_10 : decode cX6_isSet 10 = .ok (.iconst 1, 1) := by decide +kernel
theorem dX6_isSet_11 : decode cX6_isSet 11 = .ok (.if_icmp .ne 7, 3) := by decide +kernel
theorem dX6_isSet_14 : decode cX6_isSet 14 = .ok (.iconst 1, 1) := by decide +kernel
theorem dX6_isSet_15 : decode cX6_isSet 15 = .ok (.goto 4, 3) := by decide +kernel
theorem dX6_isSet_18 : decode cX6_isSet 18 = .ok (.iconst 0, 1) := by decide +kernel
theorem dX6_isSet_19 : decode cX6_isSet 19 = .ok (.ireturn, 1) := by decide +kernel
theorem dX6_isOne_0 : decode cX6_isOne 0 = .ok (.aload_n 0, 1) := by decide +kernel
theorem dX6_isOne_1 : decode cX6_isOne 1 = .ok (.getfield 72, 3) := by decide +kernel
theorem dX6_isOne_4 : decode cX6_isOne 4 = .ok (.iload_n 1, 1) := by decide +kernel
theorem dX6_isOne_5 : decode cX6_isOne 5 = .ok (.iconst 1, 1) := by decide +kernel
theorem dX6_isOne_6 : decode cX6_isOne 6 = .ok (.isub, 1) := by decide +kernel
theorem dX6_isOne_7 : decode cX6_isOne 7 = .ok (.ishr, 1) := by decide +kernel
theorem dX6_isOne_8 : decode cX6_isOne 8 = .ok (.iconst 1, 1) := by decide +kernel
theorem dX6_isOne_9 : decode cX6_isOne 9 = .ok (.iand, 1) := by decide +kernel
theorem dX6_isOne_10 : decode cX6_isOne 10 = .ok (.iconst 1, 1) := by decide +kernel
theorem dX6_isOne_11 : decode cX6_isOne 11 = .ok (.if_icmp .ne 7, 3) := by decide +kernel
theorem dX6_isOne_14 : decode cX6_isOne 14 = .ok (.iconst 1, 1) := by decide +kernel
theorem dX6_isOne_15 : decode cX6_isOne 15 = .ok (.goto 4, 3) := by decide +kernel
theorem dX6_isOne_18 : decode cX6_isOne 18 = .ok (.iconst 0, 1) := by decide +kernel
theorem dX6_isOne_19 : decode cX6_isOne 19 = .ok (.ireturn, 1) := by decide +kernel
theorem dX6_isFalse_0 : decode cX6_isFalse 0 = .ok (.iload_n 1, 1) := by decide +kernel
theorem dX6_isFalse_1 : decode cX6_isFalse 1 = .ok (.ifCond .ge 8, 3) := by decide +kernel
theorem dX6_isFalse_4 : decode cX6_isFalse 4 = .ok (.iload_n 1, 1) := by decide +kernel
theorem dX6_isFalse_5 : decode cX6_isFalse 5 = .ok (.ineg, 1) := by decide +kernel
theorem dX6_isFalse_6 : decode cX6_isFalse 6 = .ok (.goto 4, 3) := by decide +kernel
theorem dX6_isFalse_9 : decode cX6_isFalse 9 = .ok (.iload_n 1, 1) := by decide +kernel
theorem dX6_isFalse_10 : decode cX6_isFalse 10 = .ok (.istore_n 2, 1) := by decide +kernel
theorem dX6_isFalse_11 : decode cX6_isFalse 11 = .ok (.aload_n 0, 1) := by decide +kernel
theorem dX6_isFalse_12 : decode cX6_isFalse 12 = .ok (.iload_n 2, 1) := by decide +kernel
theorem dX6_isFalse_13 : decode cX6_isFalse 13 = .ok (.invokevirtual 75, 3) := by decide +kernel
theorem dX6_isFalse_16 : decode cX6_isFalse 16 = .ok (.ifCond .eq 24, 3) := by decide +kernel
theorem dX6_isFalse_19 : decode cX6_isFalse 19 = .ok (.aload_n 0, 1) := by decide +kernel
theorem dX6_isFalse_20 : decode cX6_isFalse 20 = .ok (.iload_n 2, 1) := by decide +kernel
theorem dX6_isFalse_21 : decode cX6_isFalse 21 = .ok (.invokevirtual 79, 3) := by decide +kernel
theorem dX6_isFalse_24 : decode cX6_isFalse 24 = .ok (.iload_n 1, 1) := by decide +kernel
theorem dX6_isFalse_25 : decode cX6_isFalse 25 = .ok (.ifCond .le 7, 3) := by decide +kernel
theorem dX6_isFalse_28 : decode cX6_isFalse 28 = .ok (.iconst 1, 1) := by decide +kernel
theorem dX6_isFalse_29 : decode cX6_isFalse 29 = .ok (.goto 4, 3) := by decide +kernel
theorem dX6_isFalse_32 : decode cX6_isFalse 32 = .ok (.iconst 0, 1) := by decide +kernel
theorem dX6_isFalse_33 : decode cX6_isFalse 33 = .ok (.if_icmp .eq 7, 3) := by decide +kernel
theorem dX6_isFalse_36 : decode cX6_isFalse 36 = .ok (.iconst 1, 1) := by decide +kernel
theorem dX6_isFalse_37 : decode cX6_isFalse 37 = .ok (.goto 4, 3) := by decide +kernel
theorem dX6_isFalse_40 : decode cX6_isFalse 40 = .ok (.iconst 0, 1) := by decide +kernel
theorem dX6_isFalse_41 : decode cX6_isFalse 41 = .ok (.ireturn, 1) := by decide +kernel
theorem dX6_slack_0 : decode cX6_slack 0 = .ok (.aload_n 0, 1) := by decide +kernel
theorem dX6_slack_1 : decode cX6_slack 1 = .ok (.getfield 22, 3) := by decide +kernel
theorem dX6_slack_4 : decode cX6_slack 4 = .ok (.iload_n 1, 1) := by decide +kernel
theorem dX6_slack_5 : decode cX6_slack 5 = .ok (.iaload, 1) := by decide +kernel
theorem dX6_slack_6 : decode cX6_slack 6 = .ok (.ineg, 1) := by decide +kernel
theorem dX6_slack_7 : decode cX6_slack 7 = .ok (.istore_n 2, 1) := by decide +kernel
theorem dX6_slack_8 : decode cX6_slack 8 = .ok (.aload_n 0, 1) := by decide +kernel
theorem dX6_slack_9 : decode cX6_slack 9 = .ok (.getfield 19, 3) := by decide +kernel
theorem dX6_slack_12 : decode cX6_slack 12 = .ok (.iload_n 1, 1) := by decide +kernel
theorem dX6_slack_13 : decode cX6_slack 13 = .ok (.iaload, 1) := by decide +kernel
theorem dX6_slack_14 : decode cX6_slack 14 = .ok (.istore_n 3, 1) := by decide +kernel
theorem dX6_slack_15 : decode cX6_slack 15 = .ok (.iload_n 3, 1) := by decide +kernel
theorem dX6_slack_16 : decode cX6_slack 16 = .ok (.aload_n 0, 1) := by decide +kernel
theorem dX6_slack_17 : decode cX6_slack 17 = .ok (.getfield 19, 3) := by decide +kernel
theorem dX6_slack_20 : decode cX6_slack 20 = .ok (.iload_n 1, 1) := by decide +kernel
theorem dX6_slack_21 : decode cX6_slack 21 = .ok (.iconst 1, 1) := by decide +kernel
theorem dX6_slack_22 : decode cX6_slack 22 = .ok (.iadd, 1) := by decide +kernel
theorem dX6_slack_23 : decode cX6_slack 23 = .ok (.iaload, 1) := by decide +kernel
theorem dX6_slack_24 : decode cX6_slack 24 = .ok (.if_icmp .ge 35, 3) := by decide +kernel
theorem dX6_slack_27 : decode cX6_slack 27 = .ok (.aload_n 0, 1) := by decide +kernel
theorem dX6_slack_28 : decode cX6_slack 28 = .ok (.aload_n 0, 1) := by decide +kernel
theorem dX6_slack_29 : decode cX6_slack 29 = .ok (.getfield 16, 3) := by decide +kernel
theorem dX6_slack_32 : decode cX6_slack 32 = .ok (.iload_n 3, 1) := by decide +kernel
theorem dX6_slack_33 : decode cX6_slack 33 = .ok (.iaload, 1) := by decide +kernel
theorem dX6_slack_34 : decode cX6_slack 34 = .ok (.invokevirtual 82, 3) := by decide +kernel
theorem dX6_slack_37 : decode cX6_slack 37 = .ok (.ifCond .eq 7, 3) := by decide +kernel
theorem dX6_slack_40 : decode cX6_slack 40 = .ok (.iload_n 2, 1) := by decide +kernel
theorem dX6_slack_41 : decode cX6_slack 41 = .ok (.goto 11, 3) := by decide +kernel
theorem dX6_slack_44 : decode cX6_slack 44 = .ok (.iload_n 2, 1) := by decide +kernel
theorem dX6_slack_45 : decode cX6_slack 45 = .ok (.aload_n 0, 1) := by decide +kernel
theorem dX6_slack_46 : decode cX6_slack 46 = .ok (.getfield 13, 3) := by decide +kernel
theorem dX6_slack_49 : decode cX6_slack 49 = .ok (.iload_n 3, 1) := by decide +kernel
theorem dX6_slack_50 : decode cX6_slack 50 = .ok (.iaload, 1) := by decide +kernel
theorem dX6_slack_51 : decode cX6_slack 51 = .ok (.iadd, 1) := by decide +kernel
theorem dX6_slack_52 : decode cX6_slack 52 = .ok (.istore_n 2, 1) := by decide +kernel
theorem dX6_slack_53 : decode cX6_slack 53 = .ok (.iinc 3 1, 3) := by decide +kernel
theorem dX6_slack_56 : decode cX6_slack 56 = .ok (.goto (-41), 3) := by decide +kernel
theorem dX6_slack_59 : decode cX6_slack 59 = .ok (.iload_n 2, 1) := by decide +kernel
theorem dX6_slack_60 : decode cX6_slack 60 = .ok (.ireturn, 1) := by decide +kernel
theorem dX6_cost_0 : decode cX6_cost 0 = .ok (.iconst 0, 1) := by decide +kernel
theorem dX6_cost_1 : decode cX6_cost 1 = .ok (.istore_n 1, 1) := by decide +kernel
theorem dX6_cost_2 : decode cX6_cost 2 = .ok (.iconst 1, 1) := by decide +kernel
theorem dX6_cost_3 : decode cX6_cost 3 = .ok (.istore_n 2, 1) := by decide +kernel
theorem dX6_cost_4 : decode cX6_cost 4 = .ok (.iload_n 2, 1) := by decide +kernel
theorem dX6_cost_5 : decode cX6_cost 5 = .ok (.bipush 16, 2) := by decide +kernel
theorem dX6_cost_7 : decode cX6_cost 7 = .ok (.if_icmp .gt 38, 3) := by decide +kernel
theorem dX6_cost_10 : decode cX6_cost 10 = .ok (.aload_n 0, 1) := by decide +kernel
theorem dX6_cost_11 : decode cX6_cost 11 = .ok (.iload_n 2, 1) := by decide +kernel
theorem dX6_cost_12 : decode cX6_cost 12 = .ok (.invokevirtual 75, 3) := by decide +kernel
theorem dX6_cost_15 : decode cX6_cost 15 = .ok (.ifCond .eq 22, 3) := by decide +kernel
theorem dX6_cost_18 : decode cX6_cost 18 = .ok (.aload_n 0, 1) := by decide +kernel
theorem dX6_cost_19 : decode cX6_cost 19 = .ok (.iload_n 2, 1) := by decide +kernel
theorem dX6_cost_20 : decode cX6_cost 20 = .ok (.invokevirtual 79, 3) := by decide +kernel
theorem dX6_cost_23 : decode cX6_cost 23 = .ok (.ifCond .eq 14, 3) := by decide +kernel
theorem dX6_cost_26 : decode cX6_cost 26 = .ok (.iload_n 1, 1) := by decide +kernel
theorem dX6_cost_27 : decode cX6_cost 27 = .ok (.aload_n 0, 1) := by decide +kernel
theorem dX6_cost_28 : decode cX6_cost 28 = .ok (.getfield 7, 3) := by decide +kernel
theorem dX6_cost_31 : decode cX6_cost 31 = .ok (.iload_n 2, 1) := by decide +kernel
theorem dX6_cost_32 : decode cX6_cost 32 = .ok (.iaload, 1) := by decide +kernel
theorem dX6_cost_33 : decode cX6_cost 33 = .ok (.iadd, 1) := by decide +kernel
theorem dX6_cost_34 : decode cX6_cost 34 = .ok (.goto 4, 3) := by decide +kernel
theorem dX6_cost_37 : decode cX6_cost 37 = .ok (.iload_n 1, 1) := by decide +kernel
theorem dX6_cost_38 : decode cX6_cost 38 = .ok (.istore_n 1, 1) := by decide +kernel
theorem dX6_cost_39 : decode cX6_cost 39 = .ok (.iinc 2 1, 3) := by decide +kernel
theorem dX6_cost_42 : decode cX6_cost 42 = .ok (.goto (-38), 3) := by decide +kernel
theorem dX6_cost_45 : decode cX6_cost 45 = .ok (.iload_n 1, 1) := by decide +kernel
theorem dX6_cost_46 : decode cX6_cost 46 = .ok (.ireturn, 1) := by decide +kernel
theorem dX6_isBroken_0 : decode cX6_isBroken 0 = .ok (.iload_n 1, 1) := by decide +kernel
theorem dX6_isBroken_1 : decode cX6_isBroken 1 = .ok (.ifCond .eq 16, 3) := by decide +kernel
theorem dX6_isBroken_4 : decode cX6_isBroken 4 = .ok (.iload_n 2, 1) := by decide +kernel
theorem dX6_isBroken_5 : decode cX6_isBroken 5 = .ok (.aload_n 0, 1) := by decide +kernel
theorem dX6_isBroken_6 : decode cX6_isBroken 6 = .ok (.invokevirtual 85, 3) := by decide +kernel
theorem dX6_isBroken_9 : decode cX6_isBroken 9 = .ok (.isub, 1) := by decide +kernel
theorem dX6_isBroken_10 : decode cX6_isBroken 10 = .ok (.ifCond .ge 7, 3) := by decide +kernel
theorem dX6_isBroken_13 : decode cX6_isBroken 13 = .ok (.iconst 1, 1) := by decide +kernel
theorem dX6_isBroken_14 : decode cX6_isBroken 14 = .ok (.goto 4, 3) := by decide +kernel
theorem dX6_isBroken_17 : decode cX6_isBroken 17 = .ok (.iconst 0, 1) := by decide +kernel
theorem dX6_isBroken_18 : decode cX6_isBroken 18 = .ok (.istore_n 3, 1) := by decide +kernel
theorem dX6_isBroken_19 : decode cX6_isBroken 19 = .ok (.iconst 0, 1) := by decide +kernel
theorem dX6_isBroken_20 : decode cX6_isBroken 20 = .ok (.istore 4, 2) := by decide +kernel
theorem dX6_isBroken_22 : decode cX6_isBroken 22 = .ok (.iload 4, 2) := by decide +kernel
theorem dX6_isBroken_24 : decode cX6_isBroken 24 = .ok (.aload_n 0, 1) := by decide +kernel
theorem dX6_isBroken_25 : decode cX6_isBroken 25 = .ok (.getfield 65, 3) := by decide +kernel
theorem dX6_isBroken_28 : decode cX6_isBroken 28 = .ok (.if_icmp .ge 28, 3) := by decide +kernel
theorem dX6_isBroken_31 : decode cX6_isBroken 31 = .ok (.iload_n 3, 1) := by decide +kernel
theorem dX6_isBroken_32 : decode cX6_isBroken 32 = .ok (.ifCond .ne 12, 3) := by decide +kernel
theorem dX6_isBroken_35 : decode cX6_isBroken 35 = .ok (.aload_n 0, 1) := by decide +kernel
theorem dX6_isBroken_36 : decode cX6_isBroken 36 = .ok (.iload 4, 2) := by decide +kernel
theorem dX6_isBroken_38 : decode cX6_isBroken 38 = .ok (.invokevirtual 89, 3) := by decide +kernel
theorem dX6_isBroken_41 : decode cX6_isBroken 41 = .ok (.ifCond .ge 7, 3) := by decide +kernel
theorem dX6_isBroken_44 : decode cX6_isBroken 44 = .ok (.iconst 1, 1) := by decide +kernel
theorem dX6_isBroken_45 : decode cX6_isBroken 45 = .ok (.goto 4, 3) := by decide +kernel
theorem dX6_isBroken_48 : decode cX6_isBroken 48 = .ok (.iconst 0, 1) := by decide +kernel
theorem dX6_isBroken_49 : decode cX6_isBroken 49 = .ok (.istore_n 3, 1) := by decide +kernel
theorem dX6_isBroken_50 : decode cX6_isBroken 50 = .ok (.iinc 4 1, 3) := by decide +kernel
theorem dX6_isBroken_53 : decode cX6_isBroken 53 = .ok (.goto (-31), 3) := by decide +kernel
theorem dX6_isBroken_56 : decode cX6_isBroken 56 = .ok (.iload_n 3, 1) := by decide +kernel
theorem dX6_isBroken_57 : decode cX6_isBroken 57 = .ok (.ireturn, 1) := by decide +kernel
theorem dX6_forced_0 : decode cX6_forced 0 = .ok (.iconst 0, 1) := by decide +kernel
theorem dX6_forced_1 : decode cX6_forced 1 = .ok (.istore_n 3, 1) := by decide +kernel
theorem dX6_forced_2 : decode cX6_forced 2 = .ok (.iload_n 3, 1) := by decide +kernel
theorem dX6_forced_3 : decode cX6_forced 3 = .ok (.aload_n 0, 1) := by decide +kernel
theorem dX6_forced_4 : decode cX6_forced 4 = .ok (.getfield 65, 3) := by decide +kernel
theorem dX6_forced_7 : decode cX6_forced 7 = .ok (.if_icmp .ge 102, 3) := by decide +kernel
theorem dX6_forced_10 : decode cX6_forced 10 = .ok (.aload_n 0, 1) := by decide +kernel
theorem dX6_forced_11 : decode cX6_forced 11 = .ok (.iload_n 3, 1) := by decide +kernel
theorem dX6_forced_12 : decode cX6_forced 12 = .ok (.invokevirtual 89, 3) := by decide +kernel
theorem dX6_forced_15 : decode cX6_forced 15 = .ok (.istore 4, 2) := by decide +kernel
theorem dX6_forced_17 : decode cX6_forced 17 = .ok (.aload_n 0, 1) := by decide +kernel
theorem dX6_forced_18 : decode cX6_forced 18 = .ok (.getfield 19, 3) := by decide +kernel
theorem dX6_forced_21 : decode cX6_forced 21 = .ok (.iload_n 3, 1) := by decide +kernel
theorem dX6_forced_22 : decode cX6_forced 22 = .ok (.iaload, 1) := by decide +kernel
theorem dX6_forced_23 : decode cX6_forced 23 = .ok (.istore 5, 2) := by decide +kernel
theorem dX6_forced_25 : decode cX6_forced 25 = .ok (.iload 5, 2) := by decide +kernel
theorem dX6_forced_27 : decode cX6_forced 27 = .ok (.aload_n 0, 1) := by decide +kernel
theorem dX6_forced_28 : decode cX6_forced 28 = .ok (.getfield 19, 3) := by decide +kernel
theorem dX6_forced_31 : decode cX6_forced 31 = .ok (.iload_n 3, 1) := by decide +kernel
theorem dX6_forced_32 : decode cX6_forced 32 = .ok (.iconst 1, 1) := by decide +kernel
theorem dX6_forced_33 : decode cX6_forced 33 = .ok (.iadd, 1) := by decide +kernel
theorem dX6_forced_34 : decode cX6_forced 34 = .ok (.iaload, 1) := by decide +kernel
theorem dX6_forced_35 : decode cX6_forced 35 = .ok (.if_icmp .ge 68, 3) := by decide +kernel
theorem dX6_forced_38 : decode cX6_forced 38 = .ok (.aload_n 0, 1) := by decide +kernel
theorem dX6_forced_39 : decode cX6_forced 39 = .ok (.getfield 16, 3) := by decide +kernel
theorem dX6_forced_42 : decode cX6_forced 42 = .ok (.iload 5, 2) := by decide +kernel
theorem dX6_forced_44 : decode cX6_forced 44 = .ok (.iaload, 1) := by decide +kernel
theorem dX6_forced_45 : decode cX6_forced 45 = .ok (.ifCond .ge 14, 3) := by decide +kernel
theorem dX6_forced_48 : decode cX6_forced 48 = .ok (.aload_n 0, 1) := by decide +kernel
theorem dX6_forced_49 : decode cX6_forced 49 = .ok (.getfield 16, 3) := by decide +kernel
theorem dX6_forced_52 : decode cX6_forced 52 = .ok (.iload 5, 2) := by decide +kernel
theorem dX6_forced_54 : decode cX6_forced 54 = .ok (.iaload, 1) := by decide +kernel
theorem dX6_forced_55 : decode cX6_forced 55 = .ok (.ineg, 1) := by decide +kernel
theorem dX6_forced_56 : decode cX6_forced 56 = .ok (.goto 10, 3) := by decide +kernel
theorem dX6_forced_59 : decode cX6_forced 59 = .ok (.aload_n 0, 1) := by decide +kernel
theorem dX6_forced_60 : decode cX6_forced 60 = .ok (.getfield 16, 3) := by decide +kernel
theorem dX6_forced_63 : decode cX6_forced 63 = .ok (.iload 5, 2) := by decide +kernel
theorem dX6_forced_65 : decode cX6_forced 65 = .ok (.iaload, 1) := by decide +kernel
theorem dX6_forced_66 : decode cX6_forced 66 = .ok (.istore 6, 2) := by decide +kernel
theorem dX6_forced_68 : decode cX6_forced 68 = .ok (.aload_n 0, 1) := by decide +kernel
theorem dX6_forced_69 : decode cX6_forced 69 = .ok (.iload 6, 2) := by decide +kernel
theorem dX6_forced_71 : decode cX6_forced 71 = .ok (.invokevirtual 75, 3) := by decide +kernel
theorem dX6_forced_74 : decode cX6_forced 74 = .ok (.ifCond .ne 23, 3) := by decide +kernel
theorem dX6_forced_77 : decode cX6_forced 77 = .ok (.aload_n 0, 1) := by decide +kernel
theorem dX6_forced_78 : decode cX6_forced 78 = .ok (.getfield 13, 3) := by decide +kernel
theorem dX6_forced_81 : decode cX6_forced 81 = .ok (.iload 5, 2) := by decide +kernel
theorem dX6_forced_83 : decode cX6_forced 83 = .ok (.iaload, 1) := by decide +kernel
theorem dX6_forced_84 : decode cX6_forced 84 = .ok (.iload 4, 2) := by decide +kernel
theorem dX6_forced_86 : decode cX6_forced 86 = .ok (.if_icmp .le 11, 3) := by decide +kernel
theorem dX6_forced_89 : decode cX6_forced 89 = .ok (.aload_n 0, 1) := by decide +kernel
theorem dX6_forced_90 : decode cX6_forced 90 = .ok (.getfield 16, 3) := by decide +kernel
theorem dX6_forced_93 : decode cX6_forced 93 = .ok (.iload 5, 2) := by decide +kernel
theorem dX6_forced_95 : decode cX6_forced 95 = .ok (.iaload, 1) := by decide +kernel
theorem dX6_forced_96 : decode cX6_forced 96 = .ok (.ireturn, 1) := by decide +kernel
theorem dX6_forced_97 : decode cX6_forced 97 = .ok (.iinc 5 1, 3) := by decide +kernel
theorem dX6_forced_100 : decode cX6_forced 100 = .ok (.goto (-75), 3) := by decide +kernel
theorem dX6_forced_103 : decode cX6_forced 103 = .ok (.iinc 3 1, 3) := by decide +kernel
theorem dX6_forced_106 : decode cX6_forced 106 = .ok (.goto (-104), 3) := by decide +kernel
theorem dX6_forced_109 : decode cX6_forced 109 = .ok (.iconst 1, 1) := by decide +kernel
theorem dX6_forced_110 : decode cX6_forced 110 = .ok (.istore_n 3, 1) := by decide +kernel
theorem dX6_forced_111 : decode cX6_forced 111 = .ok (.iload_n 3, 1) := by decide +kernel
theorem dX6_forced_112 : decode cX6_forced 112 = .ok (.bipush 16, 2) := by decide +kernel
theorem dX6_forced_114 : decode cX6_forced 114 = .ok (.if_icmp .gt 48, 3) := by decide +kernel
theorem dX6_forced_117 : decode cX6_forced 117 = .ok (.iload_n 1, 1) := by decide +kernel
theorem dX6_forced_118 : decode cX6_forced 118 = .ok (.ifCond .eq 44, 3) := by decide +kernel
theorem dX6_forced_121 : decode cX6_forced 121 = .ok (.aload_n 0, 1) := by decide +kernel
theorem dX6_forced_122 : decode cX6_forced 122 = .ok (.iload_n 3, 1) := by decide +kernel
theorem dX6_forced_123 : decode cX6_forced 123 = .ok (.invokevirtual 75, 3) := by decide +kernel
theorem dX6_forced_126 : decode cX6_forced 126 = .ok (.ifCond .ne 30, 3) := by decide +kernel
theorem dX6_forced_129 : decode cX6_forced 129 = .ok (.aload_n 0, 1) := by decide +kernel
theorem dX6_forced_130 : decode cX6_forced 130 = .ok (.getfield 7, 3) := by decide +kernel
theorem dX6_forced_133 : decode cX6_forced 133 = .ok (.iload_n 3, 1) := by decide +kernel
theorem dX6_forced_134 : decode cX6_forced 134 = .ok (.iaload, 1) := by decide +kernel
theorem dX6_forced_135 : decode cX6_forced 135 = .ok (.ifCond .le 21, 3) := by decide +kernel
theorem dX6_forced_138 : decode cX6_forced 138 = .ok (.aload_n 0, 1) := by decide +kernel
theorem dX6_forced_139 : decode cX6_forced 139 = .ok (.getfield 7, 3) := by decide +kernel
theorem dX6_forced_142 : decode cX6_forced 142 = .ok (.iload_n 3, 1) := by decide +kernel
theorem dX6_forced_143 : decode cX6_forced 143 = .ok (.iaload, 1) := by decide +kernel
theorem dX6_forced_144 : decode cX6_forced 144 = .ok (.iload_n 2, 1) := by decide +kernel
theorem dX6_forced_145 : decode cX6_forced 145 = .ok (.aload_n 0, 1) := by decide +kernel
theorem dX6_forced_146 : decode cX6_forced 146 = .ok (.invokevirtual 85, 3) := by decide +kernel
theorem dX6_forced_149 : decode cX6_forced 149 = .ok (.isub, 1) := by decide +kernel
theorem dX6_forced_150 : decode cX6_forced 150 = .ok (.if_icmp .le 6, 3) := by decide +kernel
theorem dX6_forced_153 : decode cX6_forced 153 = .ok (.iload_n 3, 1) := by decide +kernel
theorem dX6_forced_154 : decode cX6_forced 154 = .ok (.ineg, 1) := by decide +kernel
theorem dX6_forced_155 : decode cX6_forced 155 = .ok (.ireturn, 1) := by decide +kernel
theorem dX6_forced_156 : decode cX6_forced 156 = .ok (.iinc 3 1, 3) := by decide +kernel
theorem dX6_forced_159 : decode cX6_forced 159 = .ok (.goto (-48), 3) := by decide +kernel
theorem dX6_forced_162 : decode cX6_forced 162 = .ok (.iconst 0, 1) := by decide +kernel
theorem dX6_forced_163 : decode cX6_forced 163 = .ok (.ireturn, 1) := by decide +kernel
theorem dX6_put_0 : decode cX6_put 0 = .ok (.aload_n 0, 1) := by decide +kernel
theorem dX6_put_1 : decode cX6_put 1 = .ok (.aload_n 0, 1) := by decide +kernel
theorem dX6_put_2 : decode cX6_put 2 = .ok (.getfield 69, 3) := by decide +kernel
theorem dX6_put_5 : decode cX6_put 5 = .ok (.iconst 1, 1) := by decide +kernel
theorem dX6_put_6 : decode cX6_put 6 = .ok (.iload_n 1, 1) := by decide +kernel
theorem dX6_put_7 : decode cX6_put 7 = .ok (.iconst 1, 1) := by decide +kernel
theorem dX6_put_8 : decode cX6_put 8 = .ok (.isub, 1) := by decide +kernel
theorem dX6_put_9 : decode cX6_put 9 = .ok (.ishl, 1) := by decide +kernel
theorem dX6_put_10 : decode cX6_put 10 = .ok (.ior, 1) := by decide +kernel
theorem dX6_put_11 : decode cX6_put 11 = .ok (.putfield 69, 3) := by decide +kernel
theorem dX6_put_14 : decode cX6_put 14 = .ok (.aload_n 0, 1) := by decide +kernel
theorem dX6_put_15 : decode cX6_put 15 = .ok (.iload_n 2, 1) := by decide +kernel
theorem dX6_put_16 : decode cX6_put 16 = .ok (.ifCond .eq 16, 3) := by decide +kernel
theorem dX6_put_19 : decode cX6_put 19 = .ok (.aload_n 0, 1) := by decide +kernel
theorem dX6_put_20 : decode cX6_put 20 = .ok (.getfield 72, 3) := by decide +kernel
theorem dX6_put_23 : decode cX6_put 23 = .ok (.iconst 1, 1) := by decide +kernel
theorem dX6_put_24 : decode cX6_put 24 = .ok (.iload_n 1, 1) := by decide +kernel
theorem dX6_put_25 : decode cX6_put 25 = .ok (.iconst 1, 1) := by decide +kernel
theorem dX6_put_26 : decode cX6_put 26 = .ok (.isub, 1) := by decide +kernel
theorem dX6_put_27 : decode cX6_put 27 = .ok (.ishl, 1) := by decide +kernel
theorem dX6_put_28 : decode cX6_put 28 = .ok (.ior, 1) := by decide +kernel
theorem dX6_put_29 : decode cX6_put 29 = .ok (.goto 15, 3) := by decide +kernel
theorem dX6_put_32 : decode cX6_put 32 = .ok (.aload_n 0, 1) := by decide +kernel
theorem dX6_put_33 : decode cX6_put 33 = .ok (.getfield 72, 3) := by decide +kernel
theorem dX6_put_36 : decode cX6_put 36 = .ok (.iconst 1, 1) := by decide +kernel
theorem dX6_put_37 : decode cX6_put 37 = .ok (.iload_n 1, 1) := by decide +kernel
theorem dX6_put_38 : decode cX6_put 38 = .ok (.iconst 1, 1) := by decide +kernel
theorem dX6_put_39 : decode cX6_put 39 = .ok (.isub, 1) := by decide +kernel
theorem dX6_put_40 : decode cX6_put 40 = .ok (.ishl, 1) := by decide +kernel
theorem dX6_put_41 : decode cX6_put 41 = .ok (.iconst (-1), 1) := by decide +kernel
theorem dX6_put_42 : decode cX6_put 42 = .ok (.ixor, 1) := by decide +kernel
theorem dX6_put_43 : decode cX6_put 43 = .ok (.iand, 1) := by decide +kernel
theorem dX6_put_44 : decode cX6_put 44 = .ok (.putfield 72, 3) := by decide +kernel
theorem dX6_put_47 : decode cX6_put 47 = .ok (.return_, 1) := by decide +kernel
theorem dX6_write_0 : decode cX6_write 0 = .ok (.aload_n 0, 1) := by decide +kernel
theorem dX6_write_1 : decode cX6_write 1 = .ok (.getfield 93, 3) := by decide +kernel
theorem dX6_write_4 : decode cX6_write 4 = .ok (.sipush 400, 3) := by decide +kernel
theorem dX6_write_7 : decode cX6_write 7 = .ok (.if_icmp .ne 10, 3) := by decide +kernel
theorem dX6_write_10 : decode cX6_write 10 = .ok (.aload_n 0, 1) := by decide +kernel
theorem dX6_write_11 : decode cX6_write 11 = .ok (.iconst 1, 1) := by decide +kernel
theorem dX6_write_12 : decode cX6_write 12 = .ok (.putfield 96, 3) := by decide +kernel
theorem dX6_write_15 : decode cX6_write 15 = .ok (.iconst 0, 1) := by decide +kernel
theorem dX6_write_16 : decode cX6_write 16 = .ok (.ireturn, 1) := by decide +kernel
theorem dX6_write_17 : decode cX6_write 17 = .ok (.aload_n 0, 1) := by decide +kernel
theorem dX6_write_18 : decode cX6_write 18 = .ok (.getfield 36, 3) := by decide +kernel
theorem dX6_write_21 : decode cX6_write 21 = .ok (.aload_n 0, 1) := by decide +kernel
theorem dX6_write_22 : decode cX6_write 22 = .ok (.getfield 93, 3) := by decide +kernel
theorem dX6_write_25 : decode cX6_write 25 = .ok (.iload_n 1, 1) := by decide +kernel
theorem dX6_write_26 : decode cX6_write 26 = .ok (.iastore, 1) := by decide +kernel
theorem dX6_write_27 : decode cX6_write 27 = .ok (.aload_n 0, 1) := by decide +kernel
theorem dX6_write_28 : decode cX6_write 28 = .ok (.dup, 1) := by decide +kernel
theorem dX6_write_29 : decode cX6_write 29 = .ok (.getfield 93, 3) := by decide +kernel
theorem dX6_write_32 : decode cX6_write 32 = .ok (.iconst 1, 1) := by decide +kernel
theorem dX6_write_33 : decode cX6_write 33 = .ok (.iadd, 1) := by decide +kernel
theorem dX6_write_34 : decode cX6_write 34 = .ok (.putfield 93, 3) := by decide +kernel
theorem dX6_write_37 : decode cX6_write 37 = .ok (.iconst 1, 1) := by decide +kernel
theorem dX6_write_38 : decode cX6_write 38 = .ok (.ireturn, 1) := by decide +kernel
theorem dX6_lay_0 : decode cX6_lay 0 = .ok (.aload_n 0, 1) := by decide +kernel
theorem dX6_lay_1 : decode cX6_lay 1 = .ok (.iload_n 1, 1) := by decide +kernel
theorem dX6_lay_2 : decode cX6_lay 2 = .ok (.iload_n 2, 1) := by decide +kernel
theorem dX6_lay_3 : decode cX6_lay 3 = .ok (.invokevirtual 99, 3) := by decide +kernel
theorem dX6_lay_6 : decode cX6_lay 6 = .ok (.aload_n 0, 1) := by decide +kernel
theorem dX6_lay_7 : decode cX6_lay 7 = .ok (.getfield 25, 3) := by decide +kernel
theorem dX6_lay_10 : decode cX6_lay 10 = .ok (.aload_n 0, 1) := by decide +kernel
theorem dX6_lay_11 : decode cX6_lay 11 = .ok (.getfield 103, 3) := by decide +kernel
theorem dX6_lay_14 : decode cX6_lay 14 = .ok (.iload_n 1, 1) := by decide +kernel
theorem dX6_lay_15 : decode cX6_lay 15 = .ok (.iastore, 1) := by decide +kernel
theorem dX6_lay_16 : decode cX6_lay 16 = .ok (.aload_n 0, 1) := by decide +kernel
theorem dX6_lay_17 : decode cX6_lay 17 = .ok (.getfield 28, 3) := by decide +kernel
theorem dX6_lay_20 : decode cX6_lay 20 = .ok (.aload_n 0, 1) := by decide +kernel
theorem dX6_lay_21 : decode cX6_lay 21 = .ok (.getfield 103, 3) := by decide +kernel
theorem dX6_lay_24 : decode cX6_lay 24 = .ok (.iload_n 3, 1) := by decide +kernel
theorem dX6_lay_25 : decode cX6_lay 25 = .ok (.bastore, 1) := by decide +kernel
theorem dX6_lay_26 : decode cX6_lay 26 = .ok (.aload_n 0, 1) := by decide +kernel
theorem dX6_lay_27 : decode cX6_lay 27 = .ok (.dup, 1) := by decide +kernel
theorem dX6_lay_28 : decode cX6_lay 28 = .ok (.getfield 103, 3) := by decide +kernel
theorem dX6_lay_31 : decode cX6_lay 31 = .ok (.iconst 1, 1) := by decide +kernel
theorem dX6_lay_32 : decode cX6_lay 32 = .ok (.iadd, 1) := by decide +kernel
theorem dX6_lay_33 : decode cX6_lay 33 = .ok (.putfield 103, 3) := by decide +kernel
theorem dX6_lay_36 : decode cX6_lay 36 = .ok (.return_, 1) := by decide +kernel
theorem dX6_goBack_0 : decode cX6_goBack 0 = .ok (.aload_n 0, 1) := by decide +kernel
theorem dX6_goBack_1 : decode cX6_goBack 1 = .ok (.iconst 0, 1) := by decide +kernel
theorem dX6_goBack_2 : decode cX6_goBack 2 = .ok (.invokevirtual 106, 3) := by decide +kernel
theorem dX6_goBack_5 : decode cX6_goBack 5 = .ok (.ifCond .ne 4, 3) := by decide +kernel
theorem dX6_goBack_8 : decode cX6_goBack 8 = .ok (.return_, 1) := by decide +kernel
theorem dX6_goBack_9 : decode cX6_goBack 9 = .ok (.aload_n 0, 1) := by decide +kernel
theorem dX6_goBack_10 : decode cX6_goBack 10 = .ok (.getfield 103, 3) := by decide +kernel
theorem dX6_goBack_13 : decode cX6_goBack 13 = .ok (.ifCond .le 96, 3) := by decide +kernel
theorem dX6_goBack_16 : decode cX6_goBack 16 = .ok (.aload_n 0, 1) := by decide +kernel
theorem dX6_goBack_17 : decode cX6_goBack 17 = .ok (.dup, 1) := by decide +kernel
theorem dX6_goBack_18 : decode cX6_goBack 18 = .ok (.getfield 103, 3) := by decide +kernel
theorem dX6_goBack_21 : decode cX6_goBack 21 = .ok (.iconst 1, 1) := by decide +kernel
theorem dX6_goBack_22 : decode cX6_goBack 22 = .ok (.isub, 1) := by decide +kernel
theorem dX6_goBack_23 : decode cX6_goBack 23 = .ok (.putfield 103, 3) := by decide +kernel
theorem dX6_goBack_26 : decode cX6_goBack 26 = .ok (.aload_n 0, 1) := by decide +kernel
theorem dX6_goBack_27 : decode cX6_goBack 27 = .ok (.getfield 25, 3) := by decide +kernel
theorem dX6_goBack_30 : decode cX6_goBack 30 = .ok (.aload_n 0, 1) := by decide +kernel
theorem dX6_goBack_31 : decode cX6_goBack 31 = .ok (.getfield 103, 3) := by decide +kernel
theorem dX6_goBack_34 : decode cX6_goBack 34 = .ok (.iaload, 1) := by decide +kernel
theorem dX6_goBack_35 : decode cX6_goBack 35 = .ok (.istore_n 1, 1) := by decide +kernel
theorem dX6_goBack_36 : decode cX6_goBack 36 = .ok (.aload_n 0, 1) := by decide +kernel
theorem dX6_goBack_37 : decode cX6_goBack 37 = .ok (.getfield 28, 3) := by decide +kernel
theorem dX6_goBack_40 : decode cX6_goBack 40 = .ok (.aload_n 0, 1) := by decide +kernel
theorem dX6_goBack_41 : decode cX6_goBack 41 = .ok (.getfield 103, 3) := by decide +kernel
theorem dX6_goBack_44 : decode cX6_goBack 44 = .ok (.baload, 1) := by decide +kernel
theorem dX6_goBack_45 : decode cX6_goBack 45 = .ok (.ifCond .eq 15, 3) := by decide +kernel
theorem dX6_goBack_48 : decode cX6_goBack 48 = .ok (.aload_n 0, 1) := by decide +kernel
theorem dX6_goBack_49 : decode cX6_goBack 49 = .ok (.iload_n 1, 1) := by decide +kernel
theorem dX6_goBack_50 : decode cX6_goBack 50 = .ok (.invokevirtual 79, 3) := by decide +kernel
theorem dX6_goBack_53 : decode cX6_goBack 53 = .ok (.ifCond .ne 7, 3) := by decide +kernel
theorem dX6_goBack_56 : decode cX6_goBack 56 = .ok (.iconst 1, 1) := by decide +kernel
theorem dX6_goBack_57 : decode cX6_goBack 57 = .ok (.goto 4, 3) := by decide +kernel
theorem dX6_goBack_60 : decode cX6_goBack 60 = .ok (.iconst 0, 1) := by decide +kernel
theorem dX6_goBack_61 : decode cX6_goBack 61 = .ok (.istore_n 2, 1) := by decide +kernel
theorem dX6_goBack_62 : decode cX6_goBack 62 = .ok (.aload_n 0, 1) := by decide +kernel
theorem dX6_goBack_63 : decode cX6_goBack 63 = .ok (.aload_n 0, 1) := by decide +kernel
theorem dX6_goBack_64 : decode cX6_goBack 64 = .ok (.getfield 69, 3) := by decide +kernel
theorem dX6_goBack_67 : decode cX6_goBack 67 = .ok (.iconst 1, 1) := by decide +kernel
theorem dX6_goBack_68 : decode cX6_goBack 68 = .ok (.iload_n 1, 1) := by decide +kernel
theorem dX6_goBack_69 : decode cX6_goBack 69 = .ok (.iconst 1, 1) := by decide +kernel
theorem dX6_goBack_70 : decode cX6_goBack 70 = .ok (.isub, 1) := by decide +kernel
theorem dX6_goBack_71 : decode cX6_goBack 71 = .ok (.ishl, 1) := by decide +kernel
theorem dX6_goBack_72 : decode cX6_goBack 72 = .ok (.iconst (-1), 1) := by decide +kernel
theorem dX6_goBack_73 : decode cX6_goBack 73 = .ok (.ixor, 1) := by decide +kernel
theorem dX6_goBack_74 : decode cX6_goBack 74 = .ok (.iand, 1) := by decide +kernel
theorem dX6_goBack_75 : decode cX6_goBack 75 = .ok (.putfield 69, 3) := by decide +kernel
theorem dX6_goBack_78 : decode cX6_goBack 78 = .ok (.aload_n 0, 1) := by decide +kernel
theorem dX6_goBack_79 : decode cX6_goBack 79 = .ok (.aload_n 0, 1) := by decide +kernel
theorem dX6_goBack_80 : decode cX6_goBack 80 = .ok (.getfield 72, 3) := by decide +kernel
theorem dX6_goBack_83 : decode cX6_goBack 83 = .ok (.iconst 1, 1) := by decide +kernel
theorem dX6_goBack_84 : decode cX6_goBack 84 = .ok (.iload_n 1, 1) := by decide +kernel
theorem dX6_goBack_85 : decode cX6_goBack 85 = .ok (.iconst 1, 1) := by decide +kernel
theorem dX6_goBack_86 : decode cX6_goBack 86 = .ok (.isub, 1) := by decide +kernel
theorem dX6_goBack_87 : decode cX6_goBack 87 = .ok (.ishl, 1) := by decide +kernel
theorem dX6_goBack_88 : decode cX6_goBack 88 = .ok (.iconst (-1), 1) := by decide +kernel
theorem dX6_goBack_89 : decode cX6_goBack 89 = .ok (.ixor, 1) := by decide +kernel
theorem dX6_goBack_90 : decode cX6_goBack 90 = .ok (.iand, 1) := by decide +kernel
theorem dX6_goBack_91 : decode cX6_goBack 91 = .ok (.putfield 72, 3) := by decide +kernel
theorem dX6_goBack_94 : decode cX6_goBack 94 = .ok (.iload_n 2, 1) := by decide +kernel
theorem dX6_goBack_95 : decode cX6_goBack 95 = .ok (.ifCond .eq 11, 3) := by decide +kernel
theorem dX6_goBack_98 : decode cX6_goBack 98 = .ok (.aload_n 0, 1) := by decide +kernel
theorem dX6_goBack_99 : decode cX6_goBack 99 = .ok (.iload_n 1, 1) := by decide +kernel
theorem dX6_goBack_100 : decode cX6_goBack 100 = .ok (.iconst 1, 1) := by decide +kernel
theorem dX6_goBack_101 : decode cX6_goBack 101 = .ok (.iconst 1, 1) := by decide +kernel
theorem dX6_goBack_102 : decode cX6_goBack 102 = .ok (.invokevirtual 109, 3) := by decide +kernel
theorem dX6_goBack_105 : decode cX6_goBack 105 = .ok (.return_, 1) := by decide +kernel
theorem dX6_goBack_106 : decode cX6_goBack 106 = .ok (.goto (-97), 3) := by decide +kernel
theorem dX6_goBack_109 : decode cX6_goBack 109 = .ok (.aload_n 0, 1) := by decide +kernel
theorem dX6_goBack_110 : decode cX6_goBack 110 = .ok (.aload_n 0, 1) := by decide +kernel
theorem dX6_goBack_111 : decode cX6_goBack 111 = .ok (.getfield 32, 3) := by decide +kernel
theorem dX6_goBack_114 : decode cX6_goBack 114 = .ok (.invokevirtual 106, 3) := by decide +kernel
theorem dX6_goBack_117 : decode cX6_goBack 117 = .ok (.ifCond .eq 30, 3) := by decide +kernel
theorem dX6_goBack_120 : decode cX6_goBack 120 = .ok (.aload_n 0, 1) := by decide +kernel
theorem dX6_goBack_121 : decode cX6_goBack 121 = .ok (.aload_n 0, 1) := by decide +kernel
theorem dX6_goBack_122 : decode cX6_goBack 122 = .ok (.getfield 32, 3) := by decide +kernel
theorem dX6_goBack_125 : decode cX6_goBack 125 = .ok (.ifCond .ge 7, 3) := by decide +kernel
theorem dX6_goBack_128 : decode cX6_goBack 128 = .ok (.iconst 0, 1) := by decide +kernel
theorem dX6_goBack_129 : decode cX6_goBack 129 = .ok (.goto 7, 3) := by decide +kernel
theorem dX6_goBack_132 : decode cX6_goBack 132 = .ok (.aload_n 0, 1) := by decide +kernel
theorem dX6_goBack_133 : decode cX6_goBack 133 = .ok (.getfield 113, 3) := by decide +kernel
theorem dX6_goBack_136 : decode cX6_goBack 136 = .ok (.invokevirtual 106, 3) := by decide +kernel
theorem dX6_goBack_139 : decode cX6_goBack 139 = .ok (.ifCond .eq 8, 3) := by decide +kernel
theorem dX6_goBack_142 : decode cX6_goBack 142 = .ok (.aload_n 0, 1) := by decide +kernel
theorem dX6_goBack_143 : decode cX6_goBack 143 = .ok (.iconst 1, 1) := by decide +kernel
theorem dX6_goBack_144 : decode cX6_goBack 144 = .ok (.putfield 116, 3) := by decide +kernel
theorem dX6_goBack_147 : decode cX6_goBack 147 = .ok (.return_, 1) := by decide +kernel
theorem dX6_step_0 : decode cX6_step 0 = .ok (.aload_n 0, 1) := by decide +kernel
theorem dX6_step_1 : decode cX6_step 1 = .ok (.dup, 1) := by decide +kernel
theorem dX6_step_2 : decode cX6_step 2 = .ok (.getfield 119, 3) := by decide +kernel
theorem dX6_step_5 : decode cX6_step 5 = .ok (.iconst 1, 1) := by decide +kernel
theorem dX6_step_6 : decode cX6_step 6 = .ok (.iadd, 1) := by decide +kernel
theorem dX6_step_7 : decode cX6_step 7 = .ok (.putfield 119, 3) := by decide +kernel
theorem dX6_step_10 : decode cX6_step 10 = .ok (.aload_n 0, 1) := by decide +kernel
theorem dX6_step_11 : decode cX6_step 11 = .ok (.getfield 32, 3) := by decide +kernel
theorem dX6_step_14 : decode cX6_step 14 = .ok (.ifCond .lt 7, 3) := by decide +kernel
theorem dX6_step_17 : decode cX6_step 17 = .ok (.iconst 1, 1) := by decide +kernel
theorem dX6_step_18 : decode cX6_step 18 = .ok (.goto 4, 3) := by decide +kernel
theorem dX6_step_21 : decode cX6_step 21 = .ok (.iconst 0, 1) := by decide +kernel
theorem dX6_step_22 : decode cX6_step 22 = .ok (.istore_n 1, 1) := by decide +kernel
theorem dX6_step_23 : decode cX6_step 23 = .ok (.aload_n 0, 1) := by decide +kernel
theorem dX6_step_24 : decode cX6_step 24 = .ok (.iload_n 1, 1) := by decide +kernel
theorem dX6_step_25 : decode cX6_step 25 = .ok (.aload_n 0, 1) := by decide +kernel
theorem dX6_step_26 : decode cX6_step 26 = .ok (.getfield 32, 3) := by decide +kernel
theorem dX6_step_29 : decode cX6_step 29 = .ok (.iconst 1, 1) := by decide +kernel
theorem dX6_step_30 : decode cX6_step 30 = .ok (.isub, 1) := by decide +kernel
theorem dX6_step_31 : decode cX6_step 31 = .ok (.invokevirtual 122, 3) := by decide +kernel
theorem dX6_step_34 : decode cX6_step 34 = .ok (.ifCond .eq 8, 3) := by decide +kernel
theorem dX6_step_37 : decode cX6_step 37 = .ok (.aload_n 0, 1) := by decide +kernel
theorem dX6_step_38 : decode cX6_step 38 = .ok (.invokevirtual 126, 3) := by decide +kernel
theorem dX6_step_41 : decode cX6_step 41 = .ok (.return_, 1) := by decide +kernel
theorem dX6_step_42 : decode cX6_step 42 = .ok (.aload_n 0, 1) := by decide +kernel
theorem dX6_step_43 : decode cX6_step 43 = .ok (.iload_n 1, 1) := by decide +kernel
theorem dX6_step_44 : decode cX6_step 44 = .ok (.aload_n 0, 1) := by decide +kernel
theorem dX6_step_45 : decode cX6_step 45 = .ok (.getfield 32, 3) := by decide +kernel
theorem dX6_step_48 : decode cX6_step 48 = .ok (.iconst 1, 1) := by decide +kernel
theorem dX6_step_49 : decode cX6_step 49 = .ok (.isub, 1) := by decide +kernel
theorem dX6_step_50 : decode cX6_step 50 = .ok (.invokevirtual 129, 3) := by decide +kernel
theorem dX6_step_53 : decode cX6_step 53 = .ok (.istore_n 2, 1) := by decide +kernel
theorem dX6_step_54 : decode cX6_step 54 = .ok (.iload_n 2, 1) := by decide +kernel
theorem dX6_step_55 : decode cX6_step 55 = .ok (.ifCond .eq 28, 3) := by decide +kernel
theorem dX6_step_58 : decode cX6_step 58 = .ok (.aload_n 0, 1) := by decide +kernel
theorem dX6_step_59 : decode cX6_step 59 = .ok (.iload_n 2, 1) := by decide +kernel
theorem dX6_step_60 : decode cX6_step 60 = .ok (.ifCond .ge 8, 3) := by decide +kernel
theorem dX6_step_63 : decode cX6_step 63 = .ok (.iload_n 2, 1) := by decide +kernel
theorem dX6_step_64 : decode cX6_step 64 = .ok (.ineg, 1) := by decide +kernel
theorem dX6_step_65 : decode cX6_step 65 = .ok (.goto 4, 3) := by decide +kernel
theorem dX6_step_68 : decode cX6_step 68 = .ok (.iload_n 2, 1) := by decide +kernel
theorem dX6_step_69 : decode cX6_step 69 = .ok (.iload_n 2, 1) := by decide +kernel
theorem dX6_step_70 : decode cX6_step 70 = .ok (.ifCond .le 7, 3) := by decide +kernel
theorem dX6_step_73 : decode cX6_step 73 = .ok (.iconst 1, 1) := by decide +kernel
theorem dX6_step_74 : decode cX6_step 74 = .ok (.goto 4, 3) := by decide +kernel
theorem dX6_step_77 : decode cX6_step 77 = .ok (.iconst 0, 1) := by decide +kernel
theorem dX6_step_78 : decode cX6_step 78 = .ok (.iconst 0, 1) := by decide +kernel
theorem dX6_step_79 : decode cX6_step 79 = .ok (.invokevirtual 109, 3) := by decide +kernel
theorem dX6_step_82 : decode cX6_step 82 = .ok (.return_, 1) := by decide +kernel
theorem dX6_step_83 : decode cX6_step 83 = .ok (.aload_n 0, 1) := by decide +kernel
theorem dX6_step_84 : decode cX6_step 84 = .ok (.getfield 103, 3) := by decide +kernel
theorem dX6_step_87 : decode cX6_step 87 = .ok (.bipush 16, 2) := by decide +kernel
theorem dX6_step_89 : decode cX6_step 89 = .ok (.if_icmp .ne 20, 3) := by decide +kernel
theorem dX6_step_92 : decode cX6_step 92 = .ok (.aload_n 0, 1) := by decide +kernel
theorem dX6_step_93 : decode cX6_step 93 = .ok (.aload_n 0, 1) := by decide +kernel
theorem dX6_step_94 : decode cX6_step 94 = .ok (.invokevirtual 85, 3) := by decide +kernel
theorem dX6_step_97 : decode cX6_step 97 = .ok (.putfield 32, 3) := by decide +kernel
theorem dX6_step_100 : decode cX6_step 100 = .ok (.aload_n 0, 1) := by decide +kernel
theorem dX6_step_101 : decode cX6_step 101 = .ok (.aload_n 0, 1) := by decide +kernel
theorem dX6_step_102 : decode cX6_step 102 = .ok (.getfield 72, 3) := by decide +kernel
theorem dX6_step_105 : decode cX6_step 105 = .ok (.putfield 113, 3) := by decide +kernel
theorem dX6_step_108 : decode cX6_step 108 = .ok (.return_, 1) := by decide +kernel
theorem dX6_step_109 : decode cX6_step 109 = .ok (.iconst 1, 1) := by decide +kernel
theorem dX6_step_110 : decode cX6_step 110 = .ok (.istore_n 3, 1) := by decide +kernel
theorem dX6_step_111 : decode cX6_step 111 = .ok (.aload_n 0, 1) := by decide +kernel
theorem dX6_step_112 : decode cX6_step 112 = .ok (.iload_n 3, 1) := by decide +kernel
theorem dX6_step_113 : decode cX6_step 113 = .ok (.invokevirtual 75, 3) := by decide +kernel
theorem dX6_step_116 : decode cX6_step 116 = .ok (.ifCond .eq 9, 3) := by decide +kernel
theorem dX6_step_119 : decode cX6_step 119 = .ok (.iinc 3 1, 3) := by decide +kernel
theorem dX6_step_122 : decode cX6_step 122 = .ok (.goto (-11), 3) := by decide +kernel
theorem dX6_step_125 : decode cX6_step 125 = .ok (.aload_n 0, 1) := by decide +kernel
theorem dX6_step_126 : decode cX6_step 126 = .ok (.iload_n 3, 1) := by decide +kernel
theorem dX6_step_127 : decode cX6_step 127 = .ok (.invokevirtual 106, 3) := by decide +kernel
theorem dX6_step_130 : decode cX6_step 130 = .ok (.ifCond .eq 10, 3) := by decide +kernel
theorem dX6_step_133 : decode cX6_step 133 = .ok (.aload_n 0, 1) := by decide +kernel
theorem dX6_step_134 : decode cX6_step 134 = .ok (.iload_n 3, 1) := by decide +kernel
theorem dX6_step_135 : decode cX6_step 135 = .ok (.iconst 0, 1) := by decide +kernel
theorem dX6_step_136 : decode cX6_step 136 = .ok (.iconst 1, 1) := by decide +kernel
theorem dX6_step_137 : decode cX6_step 137 = .ok (.invokevirtual 109, 3) := by decide +kernel
theorem dX6_step_140 : decode cX6_step 140 = .ok (.return_, 1) := by decide +kernel
theorem dX6_run_0 : decode cX6_run 0 = .ok (.iload_n 1, 1) := by decide +kernel
theorem dX6_run_1 : decode cX6_run 1 = .ok (.iconst 1, 1) := by decide +kernel
theorem dX6_run_2 : decode cX6_run 2 = .ok (.sipush 2000, 3) := by decide +kernel
theorem dX6_run_5 : decode cX6_run 5 = .ok (.invokestatic 58, 3) := by decide +kernel
theorem dX6_run_8 : decode cX6_run 8 = .ok (.ifCond .ne 5, 3) := by decide +kernel
theorem dX6_run_11 : decode cX6_run 11 = .ok (.iconst (-1), 1) := by decide +kernel
theorem dX6_run_12 : decode cX6_run 12 = .ok (.ireturn, 1) := by decide +kernel
theorem dX6_run_13 : decode cX6_run 13 = .ok (.aload_n 0, 1) := by decide +kernel
theorem dX6_run_14 : decode cX6_run 14 = .ok (.getfield 54, 3) := by decide +kernel
theorem dX6_run_17 : decode cX6_run 17 = .ok (.ifCond .ne 21, 3) := by decide +kernel
theorem dX6_run_20 : decode cX6_run 20 = .ok (.aload_n 0, 1) := by decide +kernel
theorem dX6_run_21 : decode cX6_run 21 = .ok (.iconst 1, 1) := by decide +kernel
theorem dX6_run_22 : decode cX6_run 22 = .ok (.putfield 54, 3) := by decide +kernel
theorem dX6_run_25 : decode cX6_run 25 = .ok (.aload_n 0, 1) := by decide +kernel
theorem dX6_run_26 : decode cX6_run 26 = .ok (.aload_n 0, 1) := by decide +kernel
theorem dX6_run_27 : decode cX6_run 27 = .ok (.getfield 19, 3) := by decide +kernel
theorem dX6_run_30 : decode cX6_run 30 = .ok (.aload_n 0, 1) := by decide +kernel
theorem dX6_run_31 : decode cX6_run 31 = .ok (.getfield 65, 3) := by decide +kernel
theorem dX6_run_34 : decode cX6_run 34 = .ok (.iaload, 1) := by decide +kernel
theorem dX6_run_35 : decode cX6_run 35 = .ok (.putfield 62, 3) := by decide +kernel
theorem dX6_run_38 : decode cX6_run 38 = .ok (.aload_n 0, 1) := by decide +kernel
theorem dX6_run_39 : decode cX6_run 39 = .ok (.aload_n 0, 1) := by decide +kernel
theorem dX6_run_40 : decode cX6_run 40 = .ok (.getfield 133, 3) := by decide +kernel
theorem dX6_run_43 : decode cX6_run 43 = .ok (.putfield 69, 3) := by decide +kernel
theorem dX6_run_46 : decode cX6_run 46 = .ok (.aload_n 0, 1) := by decide +kernel
theorem dX6_run_47 : decode cX6_run 47 = .ok (.aload_n 0, 1) := by decide +kernel
theorem dX6_run_48 : decode cX6_run 48 = .ok (.getfield 136, 3) := by decide +kernel
theorem dX6_run_51 : decode cX6_run 51 = .ok (.putfield 72, 3) := by decide +kernel
theorem dX6_run_54 : decode cX6_run 54 = .ok (.iconst 0, 1) := by decide +kernel
theorem dX6_run_55 : decode cX6_run 55 = .ok (.istore_n 2, 1) := by decide +kernel
theorem dX6_run_56 : decode cX6_run 56 = .ok (.iload_n 2, 1) := by decide +kernel
theorem dX6_run_57 : decode cX6_run 57 = .ok (.iload_n 1, 1) := by decide +kernel
theorem dX6_run_58 : decode cX6_run 58 = .ok (.if_icmp .ge 27, 3) := by decide +kernel
theorem dX6_run_61 : decode cX6_run 61 = .ok (.aload_n 0, 1) := by decide +kernel
theorem dX6_run_62 : decode cX6_run 62 = .ok (.getfield 116, 3) := by decide +kernel
theorem dX6_run_65 : decode cX6_run 65 = .ok (.ifCond .ne 20, 3) := by decide +kernel
theorem dX6_run_68 : decode cX6_run 68 = .ok (.aload_n 0, 1) := by decide +kernel
theorem dX6_run_69 : decode cX6_run 69 = .ok (.getfield 96, 3) := by decide +kernel
theorem dX6_run_72 : decode cX6_run 72 = .ok (.ifCond .ne 13, 3) := by decide +kernel
theorem dX6_run_75 : decode cX6_run 75 = .ok (.aload_n 0, 1) := by decide +kernel
theorem dX6_run_76 : decode cX6_run 76 = .ok (.invokevirtual 139, 3) := by decide +kernel
theorem dX6_run_79 : decode cX6_run 79 = .ok (.iinc 2 1, 3) := by decide +kernel
theorem dX6_run_82 : decode cX6_run 82 = .ok (.goto (-26), 3) := by decide +kernel
theorem dX6_run_85 : decode cX6_run 85 = .ok (.aload_n 0, 1) := by decide +kernel
theorem dX6_run_86 : decode cX6_run 86 = .ok (.aload_n 0, 1) := by decide +kernel
theorem dX6_run_87 : decode cX6_run 87 = .ok (.getfield 69, 3) := by decide +kernel
theorem dX6_run_90 : decode cX6_run 90 = .ok (.putfield 133, 3) := by decide +kernel
theorem dX6_run_93 : decode cX6_run 93 = .ok (.aload_n 0, 1) := by decide +kernel
theorem dX6_run_94 : decode cX6_run 94 = .ok (.aload_n 0, 1) := by decide +kernel
theorem dX6_run_95 : decode cX6_run 95 = .ok (.getfield 72, 3) := by decide +kernel
theorem dX6_run_98 : decode cX6_run 98 = .ok (.putfield 136, 3) := by decide +kernel
theorem dX6_run_101 : decode cX6_run 101 = .ok (.aload_n 0, 1) := by decide +kernel
theorem dX6_run_102 : decode cX6_run 102 = .ok (.getfield 96, 3) := by decide +kernel
theorem dX6_run_105 : decode cX6_run 105 = .ok (.ifCond .eq 8, 3) := by decide +kernel
theorem dX6_run_108 : decode cX6_run 108 = .ok (.bipush (-2), 2) := by decide +kernel
theorem dX6_run_110 : decode cX6_run 110 = .ok (.goto 15, 3) := by decide +kernel
theorem dX6_run_113 : decode cX6_run 113 = .ok (.aload_n 0, 1) := by decide +kernel
theorem dX6_run_114 : decode cX6_run 114 = .ok (.getfield 116, 3) := by decide +kernel
theorem dX6_run_117 : decode cX6_run 117 = .ok (.ifCond .eq 7, 3) := by decide +kernel
theorem dX6_run_120 : decode cX6_run 120 = .ok (.iconst 1, 1) := by decide +kernel
theorem dX6_run_121 : decode cX6_run 121 = .ok (.goto 4, 3) := by decide +kernel
theorem dX6_run_124 : decode cX6_run 124 = .ok (.iconst 2, 1) := by decide +kernel
theorem dX6_run_125 : decode cX6_run 125 = .ok (.ireturn, 1) := by decide +kernel
theorem dX6_optimum_0 : decode cX6_optimum 0 = .ok (.aload_n 0, 1) := by decide +kernel
theorem dX6_optimum_1 : decode cX6_optimum 1 = .ok (.getfield 116, 3) := by decide +kernel
theorem dX6_optimum_4 : decode cX6_optimum 4 = .ok (.ifCond .eq 10, 3) := by decide +kernel
theorem dX6_optimum_7 : decode cX6_optimum 7 = .ok (.aload_n 0, 1) := by decide +kernel
theorem dX6_optimum_8 : decode cX6_optimum 8 = .ok (.getfield 32, 3) := by decide +kernel
theorem dX6_optimum_11 : decode cX6_optimum 11 = .ok (.goto 5, 3) := by decide +kernel
theorem dX6_optimum_14 : decode cX6_optimum 14 = .ok (.bipush (-3), 2) := by decide +kernel
theorem dX6_optimum_16 : decode cX6_optimum 16 = .ok (.ireturn, 1) := by decide +kernel
theorem dX6_value_0 : decode cX6_value 0 = .ok (.iload_n 1, 1) := by decide +kernel
theorem dX6_value_1 : decode cX6_value 1 = .ok (.iconst 1, 1) := by decide +kernel
theorem dX6_value_2 : decode cX6_value 2 = .ok (.bipush 16, 2) := by decide +kernel
theorem dX6_value_4 : decode cX6_value 4 = .ok (.invokestatic 58, 3) := by decide +kernel
theorem dX6_value_7 : decode cX6_value 7 = .ok (.ifCond .eq 10, 3) := by decide +kernel
theorem dX6_value_10 : decode cX6_value 10 = .ok (.aload_n 0, 1) := by decide +kernel
theorem dX6_value_11 : decode cX6_value 11 = .ok (.getfield 32, 3) := by decide +kernel
theorem dX6_value_14 : decode cX6_value 14 = .ok (.ifCond .ge 5, 3) := by decide +kernel
theorem dX6_value_17 : decode cX6_value 17 = .ok (.iconst (-1), 1) := by decide +kernel
theorem dX6_value_18 : decode cX6_value 18 = .ok (.ireturn, 1) := by decide +kernel
theorem dX6_value_19 : decode cX6_value 19 = .ok (.aload_n 0, 1) := by decide +kernel
theorem dX6_value_20 : decode cX6_value 20 = .ok (.getfield 113, 3) := by decide +kernel
theorem dX6_value_23 : decode cX6_value 23 = .ok (.iload_n 1, 1) := by decide +kernel
theorem dX6_value_24 : decode cX6_value 24 = .ok (.iconst 1, 1) := by decide +kernel
theorem dX6_value_25 : decode cX6_value 25 = .ok (.isub, 1) := by decide +kernel
theorem dX6_value_26 : decode cX6_value 26 = .ok (.ishr, 1) := by decide +kernel
theorem dX6_value_27 : decode cX6_value 27 = .ok (.iconst 1, 1) := by decide +kernel
theorem dX6_value_28 : decode cX6_value 28 = .ok (.iand, 1) := by decide +kernel
theorem dX6_value_29 : decode cX6_value 29 = .ok (.ireturn, 1) := by decide +kernel
theorem dX6_logSize_0 : decode cX6_logSize 0 = .ok (.aload_n 0, 1) := by decide +kernel
theorem dX6_logSize_1 : decode cX6_logSize 1 = .ok (.getfield 93, 3) := by decide +kernel
theorem dX6_logSize_4 : decode cX6_logSize 4 = .ok (.ireturn, 1) := by decide +kernel
theorem dX6_logAt_0 : decode cX6_logAt 0 = .ok (.iload_n 1, 1) := by decide +kernel
theorem dX6_logAt_1 : decode cX6_logAt 1 = .ok (.ifCond .lt 20, 3) := by decide +kernel
theorem dX6_logAt_4 : decode cX6_logAt 4 = .ok (.iload_n 1, 1) := by decide +kernel
theorem dX6_logAt_5 : decode cX6_logAt 5 = .ok (.aload_n 0, 1) := by decide +kernel
theorem dX6_logAt_6 : decode cX6_logAt 6 = .ok (.getfield 93, 3) := by decide +kernel
theorem dX6_logAt_9 : decode cX6_logAt 9 = .ok (.if_icmp .ge 12, 3) := by decide +kernel
theorem dX6_logAt_12 : decode cX6_logAt 12 = .ok (.aload_n 0, 1) := by decide +kernel
theorem dX6_logAt_13 : decode cX6_logAt 13 = .ok (.getfield 36, 3) := by decide +kernel
theorem dX6_logAt_16 : decode cX6_logAt 16 = .ok (.iload_n 1, 1) := by decide +kernel
theorem dX6_logAt_17 : decode cX6_logAt 17 = .ok (.iaload, 1) := by decide +kernel
theorem dX6_logAt_18 : decode cX6_logAt 18 = .ok (.goto 5, 3) := by decide +kernel
theorem dX6_logAt_21 : decode cX6_logAt 21 = .ok (.bipush (-9), 2) := by decide +kernel
theorem dX6_logAt_23 : decode cX6_logAt 23 = .ok (.ireturn, 1) := by decide +kernel
theorem dX6_poke_0 : decode cX6_poke 0 = .ok (.aload_n 0, 1) := by decide +kernel
theorem dX6_poke_1 : decode cX6_poke 1 = .ok (.getfield 116, 3) := by decide +kernel
theorem dX6_poke_4 : decode cX6_poke 4 = .ok (.ifCond .eq 22, 3) := by decide +kernel
theorem dX6_poke_7 : decode cX6_poke 7 = .ok (.iload_n 1, 1) := by decide +kernel
theorem dX6_poke_8 : decode cX6_poke 8 = .ok (.iconst 0, 1) := by decide +kernel
theorem dX6_poke_9 : decode cX6_poke 9 = .ok (.aload_n 0, 1) := by decide +kernel
theorem dX6_poke_10 : decode cX6_poke 10 = .ok (.getfield 93, 3) := by decide +kernel
theorem dX6_poke_13 : decode cX6_poke 13 = .ok (.invokestatic 58, 3) := by decide +kernel
theorem dX6_poke_16 : decode cX6_poke 16 = .ok (.ifCond .eq 10, 3) := by decide +kernel
theorem dX6_poke_19 : decode cX6_poke 19 = .ok (.iload_n 1, 1) := by decide +kernel
theorem dX6_poke_20 : decode cX6_poke 20 = .ok (.sipush 400, 3) := by decide +kernel
theorem dX6_poke_23 : decode cX6_poke 23 = .ok (.if_icmp .ne 5, 3) := by decide +kernel
theorem dX6_poke_26 : decode cX6_poke 26 = .ok (.iconst (-1), 1) := by decide +kernel
theorem dX6_poke_27 : decode cX6_poke 27 = .ok (.ireturn, 1) := by decide +kernel
theorem dX6_poke_28 : decode cX6_poke 28 = .ok (.aload_n 0, 1) := by decide +kernel
theorem dX6_poke_29 : decode cX6_poke 29 = .ok (.getfield 36, 3) := by decide +kernel
theorem dX6_poke_32 : decode cX6_poke 32 = .ok (.iload_n 1, 1) := by decide +kernel
theorem dX6_poke_33 : decode cX6_poke 33 = .ok (.iload_n 2, 1) := by decide +kernel
theorem dX6_poke_34 : decode cX6_poke 34 = .ok (.iastore, 1) := by decide +kernel
theorem dX6_poke_35 : decode cX6_poke 35 = .ok (.aload_n 0, 1) := by decide +kernel
theorem dX6_poke_36 : decode cX6_poke 36 = .ok (.iload_n 1, 1) := by decide +kernel
theorem dX6_poke_37 : decode cX6_poke 37 = .ok (.aload_n 0, 1) := by decide +kernel
theorem dX6_poke_38 : decode cX6_poke 38 = .ok (.getfield 93, 3) := by decide +kernel
theorem dX6_poke_41 : decode cX6_poke 41 = .ok (.if_icmp .ne 12, 3) := by decide +kernel
theorem dX6_poke_44 : decode cX6_poke 44 = .ok (.aload_n 0, 1) := by decide +kernel
theorem dX6_poke_45 : decode cX6_poke 45 = .ok (.getfield 93, 3) := by decide +kernel
theorem dX6_poke_48 : decode cX6_poke 48 = .ok (.iconst 1, 1) := by decide +kernel
theorem dX6_poke_49 : decode cX6_poke 49 = .ok (.iadd, 1) := by decide +kernel
theorem dX6_poke_50 : decode cX6_poke 50 = .ok (.goto 7, 3) := by decide +kernel
theorem dX6_poke_53 : decode cX6_poke 53 = .ok (.aload_n 0, 1) := by decide +kernel
theorem dX6_poke_54 : decode cX6_poke 54 = .ok (.getfield 93, 3) := by decide +kernel
theorem dX6_poke_57 : decode cX6_poke 57 = .ok (.putfield 93, 3) := by decide +kernel
theorem dX6_poke_60 : decode cX6_poke 60 = .ok (.aload_n 0, 1) := by decide +kernel
theorem dX6_poke_61 : decode cX6_poke 61 = .ok (.invokevirtual 142, 3) := by decide +kernel
theorem dX6_poke_64 : decode cX6_poke 64 = .ok (.iconst 0, 1) := by decide +kernel
theorem dX6_poke_65 : decode cX6_poke 65 = .ok (.ireturn, 1) := by decide +kernel
theorem dX6_cut_0 : decode cX6_cut 0 = .ok (.aload_n 0, 1) := by decide +kernel
theorem dX6_cut_1 : decode cX6_cut 1 = .ok (.getfield 116, 3) := by decide +kernel
theorem dX6_cut_4 : decode cX6_cut 4 = .ok (.ifCond .eq 15, 3) := by decide +kernel
theorem dX6_cut_7 : decode cX6_cut 7 = .ok (.iload_n 1, 1) := by decide +kernel
theorem dX6_cut_8 : decode cX6_cut 8 = .ok (.iconst 0, 1) := by decide +kernel
theorem dX6_cut_9 : decode cX6_cut 9 = .ok (.aload_n 0, 1) := by decide +kernel
theorem dX6_cut_10 : decode cX6_cut 10 = .ok (.getfield 93, 3) := by decide +kernel
theorem dX6_cut_13 : decode cX6_cut 13 = .ok (.invokestatic 58, 3) := by decide +kernel
theorem dX6_cut_16 : decode cX6_cut 16 = .ok (.ifCond .ne 5, 3) := by decide +kernel
theorem dX6_cut_19 : decode cX6_cut 19 = .ok (.iconst (-1), 1) := by decide +kernel
theorem dX6_cut_20 : decode cX6_cut 20 = .ok (.ireturn, 1) := by decide +kernel
theorem dX6_cut_21 : decode cX6_cut 21 = .ok (.aload_n 0, 1) := by decide +kernel
theorem dX6_cut_22 : decode cX6_cut 22 = .ok (.iload_n 1, 1) := by decide +kernel
theorem dX6_cut_23 : decode cX6_cut 23 = .ok (.putfield 93, 3) := by decide +kernel
theorem dX6_cut_26 : decode cX6_cut 26 = .ok (.aload_n 0, 1) := by decide +kernel
theorem dX6_cut_27 : decode cX6_cut 27 = .ok (.invokevirtual 142, 3) := by decide +kernel
theorem dX6_cut_30 : decode cX6_cut 30 = .ok (.iconst 0, 1) := by decide +kernel
theorem dX6_cut_31 : decode cX6_cut 31 = .ok (.ireturn, 1) := by decide +kernel
theorem dX6_anew_0 : decode cX6_anew 0 = .ok (.aload_n 0, 1) := by decide +kernel
theorem dX6_anew_1 : decode cX6_anew 1 = .ok (.iconst 2, 1) := by decide +kernel
theorem dX6_anew_2 : decode cX6_anew 2 = .ok (.putfield 39, 3) := by decide +kernel
theorem dX6_anew_5 : decode cX6_anew 5 = .ok (.aload_n 0, 1) := by decide +kernel
theorem dX6_anew_6 : decode cX6_anew 6 = .ok (.iconst 0, 1) := by decide +kernel
theorem dX6_anew_7 : decode cX6_anew 7 = .ok (.putfield 145, 3) := by decide +kernel
theorem dX6_anew_10 : decode cX6_anew 10 = .ok (.return_, 1) := by decide +kernel
theorem dX6_look_0 : decode cX6_look 0 = .ok (.aload_n 0, 1) := by decide +kernel
theorem dX6_look_1 : decode cX6_look 1 = .ok (.iconst 1, 1) := by decide +kernel
theorem dX6_look_2 : decode cX6_look 2 = .ok (.putfield 145, 3) := by decide +kernel
theorem dX6_look_5 : decode cX6_look 5 = .ok (.aload_n 0, 1) := by decide +kernel
theorem dX6_look_6 : decode cX6_look 6 = .ok (.iconst 0, 1) := by decide +kernel
theorem dX6_look_7 : decode cX6_look 7 = .ok (.putfield 148, 3) := by decide +kernel
theorem dX6_look_10 : decode cX6_look 10 = .ok (.aload_n 0, 1) := by decide +kernel
theorem dX6_look_11 : decode cX6_look 11 = .ok (.iconst 1, 1) := by decide +kernel
theorem dX6_look_12 : decode cX6_look 12 = .ok (.putfield 151, 3) := by decide +kernel
theorem dX6_look_15 : decode cX6_look 15 = .ok (.aload_n 0, 1) := by decide +kernel
theorem dX6_look_16 : decode cX6_look 16 = .ok (.getfield 42, 3) := by decide +kernel
theorem dX6_look_19 : decode cX6_look 19 = .ok (.iconst 0, 1) := by decide +kernel
theorem dX6_look_20 : decode cX6_look 20 = .ok (.iconst 0, 1) := by decide +kernel
theorem dX6_look_21 : decode cX6_look 21 = .ok (.iastore, 1) := by decide +kernel
theorem dX6_look_22 : decode cX6_look 22 = .ok (.aload_n 0, 1) := by decide +kernel
theorem dX6_look_23 : decode cX6_look 23 = .ok (.getfield 45, 3) := by decide +kernel
theorem dX6_look_26 : decode cX6_look 26 = .ok (.iconst 0, 1) := by decide +kernel
theorem dX6_look_27 : decode cX6_look 27 = .ok (.iconst 0, 1) := by decide +kernel
theorem dX6_look_28 : decode cX6_look 28 = .ok (.iastore, 1) := by decide +kernel
theorem dX6_look_29 : decode cX6_look 29 = .ok (.aload_n 0, 1) := by decide +kernel
theorem dX6_look_30 : decode cX6_look 30 = .ok (.getfield 48, 3) := by decide +kernel
theorem dX6_look_33 : decode cX6_look 33 = .ok (.iconst 0, 1) := by decide +kernel
theorem dX6_look_34 : decode cX6_look 34 = .ok (.iconst 0, 1) := by decide +kernel
theorem dX6_look_35 : decode cX6_look 35 = .ok (.bastore, 1) := by decide +kernel
theorem dX6_look_36 : decode cX6_look 36 = .ok (.aload_n 0, 1) := by decide +kernel
theorem dX6_look_37 : decode cX6_look 37 = .ok (.getfield 93, 3) := by decide +kernel
theorem dX6_look_40 : decode cX6_look 40 = .ok (.iconst 2, 1) := by decide +kernel
theorem dX6_look_41 : decode cX6_look 41 = .ok (.if_icmp .ge 9, 3) := by decide +kernel
theorem dX6_look_44 : decode cX6_look 44 = .ok (.aload_n 0, 1) := by decide +kernel
theorem dX6_look_45 : decode cX6_look 45 = .ok (.iconst 0, 1) := by decide +kernel
theorem dX6_look_46 : decode cX6_look 46 = .ok (.putfield 39, 3) := by decide +kernel
theorem dX6_look_49 : decode cX6_look 49 = .ok (.return_, 1) := by decide +kernel
theorem dX6_look_50 : decode cX6_look 50 = .ok (.aload_n 0, 1) := by decide +kernel
theorem dX6_look_51 : decode cX6_look 51 = .ok (.getfield 36, 3) := by decide +kernel
theorem dX6_look_54 : decode cX6_look 54 = .ok (.aload_n 0, 1) := by decide +kernel
theorem dX6_look_55 : decode cX6_look 55 = .ok (.getfield 93, 3) := by decide +kernel
theorem dX6_look_58 : decode cX6_look 58 = .ok (.iconst 2, 1) := by decide +kernel
theorem dX6_look_59 : decode cX6_look 59 = .ok (.isub, 1) := by decide +kernel
theorem dX6_look_60 : decode cX6_look 60 = .ok (.iaload, 1) := by decide +kernel
theorem dX6_look_61 : decode cX6_look 61 = .ok (.istore_n 1, 1) := by decide +kernel
theorem dX6_look_62 : decode cX6_look 62 = .ok (.aload_n 0, 1) := by decide +kernel
theorem dX6_look_63 : decode cX6_look 63 = .ok (.ldc 154, 2) := by decide +kernel
theorem dX6_look_65 : decode cX6_look 65 = .ok (.putfield 69, 3) := by decide +kernel
theorem dX6_look_68 : decode cX6_look 68 = .ok (.aload_n 0, 1) := by decide +kernel
theorem dX6_look_69 : decode cX6_look 69 = .ok (.aload_n 0, 1) := by decide +kernel
theorem dX6_look_70 : decode cX6_look 70 = .ok (.getfield 36, 3) := by decide +kernel
theorem dX6_look_73 : decode cX6_look 73 = .ok (.aload_n 0, 1) := by decide +kernel
theorem dX6_look_74 : decode cX6_look 74 = .ok (.getfield 93, 3) := by decide +kernel
theorem dX6_look_77 : decode cX6_look 77 = .ok (.iconst 1, 1) := by decide +kernel
theorem dX6_look_78 : decode cX6_look 78 = .ok (.isub, 1) := by decide +kernel
theorem dX6_look_79 : decode cX6_look 79 = .ok (.iaload, 1) := by decide +kernel
theorem dX6_look_80 : decode cX6_look 80 = .ok (.ldc 154, 2) := by decide +kernel
theorem dX6_look_82 : decode cX6_look 82 = .ok (.iand, 1) := by decide +kernel
theorem dX6_look_83 : decode cX6_look 83 = .ok (.putfield 72, 3) := by decide +kernel
theorem dX6_look_86 : decode cX6_look 86 = .ok (.iload_n 1, 1) := by decide +kernel
theorem dX6_look_87 : decode cX6_look 87 = .ok (.iconst (-1), 1) := by decide +kernel
theorem dX6_look_88 : decode cX6_look 88 = .ok (.if_icmp .eq 25, 3) := by decide +kernel
theorem dX6_look_91 : decode cX6_look 91 = .ok (.aload_n 0, 1) := by decide +kernel
theorem dX6_look_92 : decode cX6_look 92 = .ok (.iconst 0, 1) := by decide +kernel
theorem dX6_look_93 : decode cX6_look 93 = .ok (.iconst 0, 1) := by decide +kernel
theorem dX6_look_94 : decode cX6_look 94 = .ok (.invokevirtual 122, 3) := by decide +kernel
theorem dX6_look_97 : decode cX6_look 97 = .ok (.ifCond .ne 11, 3) := by decide +kernel
theorem dX6_look_100 : decode cX6_look 100 = .ok (.aload_n 0, 1) := by decide +kernel
theorem dX6_look_101 : decode cX6_look 101 = .ok (.invokevirtual 85, 3) := by decide +kernel
theorem dX6_look_104 : decode cX6_look 104 = .ok (.iload_n 1, 1) := by decide +kernel
theorem dX6_look_105 : decode cX6_look 105 = .ok (.if_icmp .eq 8, 3) := by decide +kernel
theorem dX6_look_108 : decode cX6_look 108 = .ok (.aload_n 0, 1) := by decide +kernel
theorem dX6_look_109 : decode cX6_look 109 = .ok (.iconst 0, 1) := by decide +kernel
theorem dX6_look_110 : decode cX6_look 110 = .ok (.putfield 39, 3) := by decide +kernel
theorem dX6_look_113 : decode cX6_look 113 = .ok (.return_, 1) := by decide +kernel
theorem dX6_hold_0 : decode cX6_hold 0 = .ok (.aload_n 0, 1) := by decide +kernel
theorem dX6_hold_1 : decode cX6_hold 1 = .ok (.getfield 42, 3) := by decide +kernel
theorem dX6_hold_4 : decode cX6_hold 4 = .ok (.aload_n 0, 1) := by decide +kernel
theorem dX6_hold_5 : decode cX6_hold 5 = .ok (.getfield 151, 3) := by decide +kernel
theorem dX6_hold_8 : decode cX6_hold 8 = .ok (.iload_n 1, 1) := by decide +kernel
theorem dX6_hold_9 : decode cX6_hold 9 = .ok (.iastore, 1) := by decide +kernel
theorem dX6_hold_10 : decode cX6_hold 10 = .ok (.aload_n 0, 1) := by decide +kernel
theorem dX6_hold_11 : decode cX6_hold 11 = .ok (.getfield 45, 3) := by decide +kernel
theorem dX6_hold_14 : decode cX6_hold 14 = .ok (.aload_n 0, 1) := by decide +kernel
theorem dX6_hold_15 : decode cX6_hold 15 = .ok (.getfield 151, 3) := by decide +kernel
theorem dX6_hold_18 : decode cX6_hold 18 = .ok (.iload_n 2, 1) := by decide +kernel
theorem dX6_hold_19 : decode cX6_hold 19 = .ok (.iastore, 1) := by decide +kernel
theorem dX6_hold_20 : decode cX6_hold 20 = .ok (.aload_n 0, 1) := by decide +kernel
theorem dX6_hold_21 : decode cX6_hold 21 = .ok (.getfield 48, 3) := by decide +kernel
theorem dX6_hold_24 : decode cX6_hold 24 = .ok (.aload_n 0, 1) := by decide +kernel
theorem dX6_hold_25 : decode cX6_hold 25 = .ok (.getfield 151, 3) := by decide +kernel
theorem dX6_hold_28 : decode cX6_hold 28 = .ok (.iload_n 3, 1) := by decide +kernel
theorem dX6_hold_29 : decode cX6_hold 29 = .ok (.bastore, 1) := by decide +kernel
theorem dX6_hold_30 : decode cX6_hold 30 = .ok (.aload_n 0, 1) := by decide +kernel
theorem dX6_hold_31 : decode cX6_hold 31 = .ok (.dup, 1) := by decide +kernel
theorem dX6_hold_32 : decode cX6_hold 32 = .ok (.getfield 151, 3) := by decide +kernel
theorem dX6_hold_35 : decode cX6_hold 35 = .ok (.iconst 1, 1) := by decide +kernel
theorem dX6_hold_36 : decode cX6_hold 36 = .ok (.iadd, 1) := by decide +kernel
theorem dX6_hold_37 : decode cX6_hold 37 = .ok (.putfield 151, 3) := by decide +kernel
theorem dX6_hold_40 : decode cX6_hold 40 = .ok (.return_, 1) := by decide +kernel
theorem dX6_word_0 : decode cX6_word 0 = .ok (.aload_n 0, 1) := by decide +kernel
theorem dX6_word_1 : decode cX6_word 1 = .ok (.getfield 148, 3) := by decide +kernel
theorem dX6_word_4 : decode cX6_word 4 = .ok (.aload_n 0, 1) := by decide +kernel
theorem dX6_word_5 : decode cX6_word 5 = .ok (.getfield 93, 3) := by decide +kernel
theorem dX6_word_8 : decode cX6_word 8 = .ok (.iconst 2, 1) := by decide +kernel
theorem dX6_word_9 : decode cX6_word 9 = .ok (.isub, 1) := by decide +kernel
theorem dX6_word_10 : decode cX6_word 10 = .ok (.if_icmp .lt 9, 3) := by decide +kernel
theorem dX6_word_13 : decode cX6_word 13 = .ok (.aload_n 0, 1) := by decide +kernel
theorem dX6_word_14 : decode cX6_word 14 = .ok (.iconst 0, 1) := by decide +kernel
theorem dX6_word_15 : decode cX6_word 15 = .ok (.putfield 39, 3) := by decide +kernel
theorem dX6_word_18 : decode cX6_word 18 = .ok (.return_, 1) := by decide +kernel
theorem dX6_word_19 : decode cX6_word 19 = .ok (.aload_n 0, 1) := by decide +kernel
theorem dX6_word_20 : decode cX6_word 20 = .ok (.getfield 36, 3) := by decide +kernel
theorem dX6_word_23 : decode cX6_word 23 = .ok (.aload_n 0, 1) := by decide +kernel
theorem dX6_word_24 : decode cX6_word 24 = .ok (.getfield 148, 3) := by decide +kernel
theorem dX6_word_27 : decode cX6_word 27 = .ok (.iaload, 1) := by decide +kernel
theorem dX6_word_28 : decode cX6_word 28 = .ok (.istore_n 1, 1) := by decide +kernel
theorem dX6_word_29 : decode cX6_word 29 = .ok (.aload_n 0, 1) := by decide +kernel
theorem dX6_word_30 : decode cX6_word 30 = .ok (.dup, 1) := by decide +kernel
theorem dX6_word_31 : decode cX6_word 31 = .ok (.getfield 148, 3) := by decide +kernel
theorem dX6_word_34 : decode cX6_word 34 = .ok (.iconst 1, 1) := by decide +kernel
theorem dX6_word_35 : decode cX6_word 35 = .ok (.iadd, 1) := by decide +kernel
theorem dX6_word_36 : decode cX6_word 36 = .ok (.putfield 148, 3) := by decide +kernel
theorem dX6_word_39 : decode cX6_word 39 = .ok (.aload_n 0, 1) := by decide +kernel
theorem dX6_word_40 : decode cX6_word 40 = .ok (.dup, 1) := by decide +kernel
theorem dX6_word_41 : decode cX6_word 41 = .ok (.getfield 151, 3) := by decide +kernel
theorem dX6_word_44 : decode cX6_word 44 = .ok (.iconst 1, 1) := by decide +kernel
theorem dX6_word_45 : decode cX6_word 45 = .ok (.isub, 1) := by decide +kernel
theorem dX6_word_46 : decode cX6_word 46 = .ok (.putfield 151, 3) := by decide +kernel
theorem dX6_word_49 : decode cX6_word 49 = .ok (.aload_n 0, 1) := by decide +kernel
theorem dX6_word_50 : decode cX6_word 50 = .ok (.aload_n 0, 1) := by decide +kernel
theorem dX6_word_51 : decode cX6_word 51 = .ok (.getfield 42, 3) := by decide +kernel
theorem dX6_word_54 : decode cX6_word 54 = .ok (.aload_n 0, 1) := by decide +kernel
theorem dX6_word_55 : decode cX6_word 55 = .ok (.getfield 151, 3) := by decide +kernel
theorem dX6_word_58 : decode cX6_word 58 = .ok (.iaload, 1) := by decide +kernel
theorem dX6_word_59 : decode cX6_word 59 = .ok (.putfield 69, 3) := by decide +kernel
theorem dX6_word_62 : decode cX6_word 62 = .ok (.aload_n 0, 1) := by decide +kernel
theorem dX6_word_63 : decode cX6_word 63 = .ok (.aload_n 0, 1) := by decide +kernel
theorem dX6_word_64 : decode cX6_word 64 = .ok (.getfield 45, 3) := by decide +kernel
theorem dX6_word_67 : decode cX6_word 67 = .ok (.aload_n 0, 1) := by decide +kernel
theorem dX6_word_68 : decode cX6_word 68 = .ok (.getfield 151, 3) := by decide +kernel
theorem dX6_word_71 : decode cX6_word 71 = .ok (.iaload, 1) := by decide +kernel
theorem dX6_word_72 : decode cX6_word 72 = .ok (.putfield 72, 3) := by decide +kernel
theorem dX6_word_75 : decode cX6_word 75 = .ok (.aload_n 0, 1) := by decide +kernel
theorem dX6_word_76 : decode cX6_word 76 = .ok (.getfield 48, 3) := by decide +kernel
theorem dX6_word_79 : decode cX6_word 79 = .ok (.aload_n 0, 1) := by decide +kernel
theorem dX6_word_80 : decode cX6_word 80 = .ok (.getfield 151, 3) := by decide +kernel
theorem dX6_word_83 : decode cX6_word 83 = .ok (.baload, 1) := by decide +kernel
theorem dX6_word_84 : decode cX6_word 84 = .ok (.istore_n 2, 1) := by decide +kernel
theorem dX6_word_85 : decode cX6_word 85 = .ok (.aload_n 0, 1) := by decide +kernel
theorem dX6_word_86 : decode cX6_word 86 = .ok (.getfield 36, 3) := by decide +kernel
theorem dX6_word_89 : decode cX6_word 89 = .ok (.aload_n 0, 1) := by decide +kernel
theorem dX6_word_90 : decode cX6_word 90 = .ok (.getfield 93, 3) := by decide +kernel
theorem dX6_word_93 : decode cX6_word 93 = .ok (.iconst 2, 1) := by decide +kernel
theorem dX6_word_94 : decode cX6_word 94 = .ok (.isub, 1) := by decide +kernel
theorem dX6_word_95 : decode cX6_word 95 = .ok (.iaload, 1) := by decide +kernel
theorem dX6_word_96 : decode cX6_word 96 = .ok (.istore_n 3, 1) := by decide +kernel
theorem dX6_word_97 : decode cX6_word 97 = .ok (.iload_n 3, 1) := by decide +kernel
theorem dX6_word_98 : decode cX6_word 98 = .ok (.iconst (-1), 1) := by decide +kernel
theorem dX6_word_99 : decode cX6_word 99 = .ok (.if_icmp .eq 7, 3) := by decide +kernel
theorem dX6_word_102 : decode cX6_word 102 = .ok (.iconst 1, 1) := by decide +kernel
theorem dX6_word_103 : decode cX6_word 103 = .ok (.goto 4, 3) := by decide +kernel
theorem dX6_word_106 : decode cX6_word 106 = .ok (.iconst 0, 1) := by decide +kernel
theorem dX6_word_107 : decode cX6_word 107 = .ok (.istore 4, 2) := by decide +kernel
theorem dX6_word_109 : decode cX6_word 109 = .ok (.iload_n 2, 1) := by decide +kernel
theorem dX6_word_110 : decode cX6_word 110 = .ok (.ifCond .ne 68, 3) := by decide +kernel
theorem dX6_word_113 : decode cX6_word 113 = .ok (.aload_n 0, 1) := by decide +kernel
theorem dX6_word_114 : decode cX6_word 114 = .ok (.iload 4, 2) := by decide +kernel
theorem dX6_word_116 : decode cX6_word 116 = .ok (.iload_n 3, 1) := by decide +kernel
theorem dX6_word_117 : decode cX6_word 117 = .ok (.iconst 1, 1) := by decide +kernel
theorem dX6_word_118 : decode cX6_word 118 = .ok (.isub, 1) := by decide +kernel
theorem dX6_word_119 : decode cX6_word 119 = .ok (.invokevirtual 122, 3) := by decide +kernel
theorem dX6_word_122 : decode cX6_word 122 = .ok (.ifCond .ne 56, 3) := by decide +kernel
theorem dX6_word_125 : decode cX6_word 125 = .ok (.aload_n 0, 1) := by decide +kernel
theorem dX6_word_126 : decode cX6_word 126 = .ok (.iload 4, 2) := by decide +kernel
theorem dX6_word_128 : decode cX6_word 128 = .ok (.iload_n 3, 1) := by decide +kernel
theorem dX6_word_129 : decode cX6_word 129 = .ok (.iconst 1, 1) := by decide +kernel
theorem dX6_word_130 : decode cX6_word 130 = .ok (.isub, 1) := by decide +kernel
theorem dX6_word_131 : decode cX6_word 131 = .ok (.invokevirtual 129, 3) := by decide +kernel
theorem dX6_word_134 : decode cX6_word 134 = .ok (.ifCond .eq 44, 3) := by decide +kernel
theorem dX6_word_137 : decode cX6_word 137 = .ok (.aload_n 0, 1) := by decide +kernel
theorem dX6_word_138 : decode cX6_word 138 = .ok (.iload 4, 2) := by decide +kernel
theorem dX6_word_140 : decode cX6_word 140 = .ok (.iload_n 3, 1) := by decide +kernel
theorem dX6_word_141 : decode cX6_word 141 = .ok (.iconst 1, 1) := by decide +kernel
theorem dX6_word_142 : decode cX6_word 142 = .ok (.isub, 1) := by decide +kernel
theorem dX6_word_143 : decode cX6_word 143 = .ok (.invokevirtual 129, 3) := by decide +kernel
theorem dX6_word_146 : decode cX6_word 146 = .ok (.istore 5, 2) := by decide +kernel
theorem dX6_word_148 : decode cX6_word 148 = .ok (.aload_n 0, 1) := by decide +kernel
theorem dX6_word_149 : decode cX6_word 149 = .ok (.iload 5, 2) := by decide +kernel
theorem dX6_word_151 : decode cX6_word 151 = .ok (.ifCond .ge 9, 3) := by decide +kernel
theorem dX6_word_154 : decode cX6_word 154 = .ok (.iload 5, 2) := by decide +kernel
theorem dX6_word_156 : decode cX6_word 156 = .ok (.ineg, 1) := by decide +kernel
theorem dX6_word_157 : decode cX6_word 157 = .ok (.goto 5, 3) := by decide +kernel
theorem dX6_word_160 : decode cX6_word 160 = .ok (.iload 5, 2) := by decide +kernel
theorem dX6_word_162 : decode cX6_word 162 = .ok (.iload 5, 2) := by decide +kernel
theorem dX6_word_164 : decode cX6_word 164 = .ok (.ifCond .le 7, 3) := by decide +kernel
theorem dX6_word_167 : decode cX6_word 167 = .ok (.iconst 1, 1) := by decide +kernel
theorem dX6_word_168 : decode cX6_word 168 = .ok (.goto 4, 3) := by decide +kernel
theorem dX6_word_171 : decode cX6_word 171 = .ok (.iconst 0, 1) := by decide +kernel
theorem dX6_word_172 : decode cX6_word 172 = .ok (.invokevirtual 99, 3) := by decide +kernel
theorem dX6_word_175 : decode cX6_word 175 = .ok (.goto (-66), 3) := by decide +kernel
theorem dX6_word_178 : decode cX6_word 178 = .ok (.iload_n 2, 1) := by decide +kernel
theorem dX6_word_179 : decode cX6_word 179 = .ok (.ifCond .ne 15, 3) := by decide +kernel
theorem dX6_word_182 : decode cX6_word 182 = .ok (.aload_n 0, 1) := by decide +kernel
theorem dX6_word_183 : decode cX6_word 183 = .ok (.iload 4, 2) := by decide +kernel
theorem dX6_word_185 : decode cX6_word 185 = .ok (.iload_n 3, 1) := by decide +kernel
theorem dX6_word_186 : decode cX6_word 186 = .ok (.iconst 1, 1) := by decide +kernel
theorem dX6_word_187 : decode cX6_word 187 = .ok (.isub, 1) := by decide +kernel
theorem dX6_word_188 : decode cX6_word 188 = .ok (.invokevirtual 122, 3) := by decide +kernel
theorem dX6_word_191 : decode cX6_word 191 = .ok (.ifCond .eq 7, 3) := by decide +kernel
theorem dX6_word_194 : decode cX6_word 194 = .ok (.iconst 1, 1) := by decide +kernel
theorem dX6_word_195 : decode cX6_word 195 = .ok (.goto 4, 3) := by decide +kernel
theorem dX6_word_198 : decode cX6_word 198 = .ok (.iconst 0, 1) := by decide +kernel
theorem dX6_word_199 : decode cX6_word 199 = .ok (.istore_n 2, 1) := by decide +kernel
theorem dX6_word_200 : decode cX6_word 200 = .ok (.iload_n 1, 1) := by decide +kernel
theorem dX6_word_201 : decode cX6_word 201 = .ok (.ifCond .ne 22, 3) := by decide +kernel
theorem dX6_word_204 : decode cX6_word 204 = .ok (.aload_n 0, 1) := by decide +kernel
theorem dX6_word_205 : decode cX6_word 205 = .ok (.iload_n 2, 1) := by decide +kernel
theorem dX6_word_206 : decode cX6_word 206 = .ok (.ifCond .eq 10, 3) := by decide +kernel
theorem dX6_word_209 : decode cX6_word 209 = .ok (.aload_n 0, 1) := by decide +kernel
theorem dX6_word_210 : decode cX6_word 210 = .ok (.getfield 39, 3) := by decide +kernel
theorem dX6_word_213 : decode cX6_word 213 = .ok (.goto 4, 3) := by decide +kernel
theorem dX6_word_216 : decode cX6_word 216 = .ok (.iconst 0, 1) := by decide +kernel
theorem dX6_word_217 : decode cX6_word 217 = .ok (.putfield 39, 3) := by decide +kernel
theorem dX6_word_220 : decode cX6_word 220 = .ok (.goto 118, 3) := by decide +kernel
theorem dX6_word_223 : decode cX6_word 223 = .ok (.iload_n 1, 1) := by decide +kernel
theorem dX6_word_224 : decode cX6_word 224 = .ok (.iconst 1, 1) := by decide +kernel
theorem dX6_word_225 : decode cX6_word 225 = .ok (.bipush 16, 2) := by decide +kernel
theorem dX6_word_227 : decode cX6_word 227 = .ok (.invokestatic 58, 3) := by decide +kernel
theorem dX6_word_230 : decode cX6_word 230 = .ok (.ifCond .eq 103, 3) := by decide +kernel
theorem dX6_word_233 : decode cX6_word 233 = .ok (.aload_n 0, 1) := by decide +kernel
theorem dX6_word_234 : decode cX6_word 234 = .ok (.iload_n 1, 1) := by decide +kernel
theorem dX6_word_235 : decode cX6_word 235 = .ok (.invokevirtual 75, 3) := by decide +kernel
theorem dX6_word_238 : decode cX6_word 238 = .ok (.istore 5, 2) := by decide +kernel
theorem dX6_word_240 : decode cX6_word 240 = .ok (.aload_n 0, 1) := by decide +kernel
theorem dX6_word_241 : decode cX6_word 241 = .ok (.iload_n 1, 1) := by decide +kernel
theorem dX6_word_242 : decode cX6_word 242 = .ok (.invokevirtual 79, 3) := by decide +kernel
theorem dX6_word_245 : decode cX6_word 245 = .ok (.istore 6, 2) := by decide +kernel
theorem dX6_word_247 : decode cX6_word 247 = .ok (.iconst 1, 1) := by decide +kernel
theorem dX6_word_248 : decode cX6_word 248 = .ok (.iload_n 1, 1) := by decide +kernel
theorem dX6_word_249 : decode cX6_word 249 = .ok (.iconst 1, 1) := by decide +kernel
theorem dX6_word_250 : decode cX6_word 250 = .ok (.isub, 1) := by decide +kernel
theorem dX6_word_251 : decode cX6_word 251 = .ok (.ishl, 1) := by decide +kernel
theorem dX6_word_252 : decode cX6_word 252 = .ok (.istore 7, 2) := by decide +kernel
theorem dX6_word_254 : decode cX6_word 254 = .ok (.aload_n 0, 1) := by decide +kernel
theorem dX6_word_255 : decode cX6_word 255 = .ok (.aload_n 0, 1) := by decide +kernel
theorem dX6_word_256 : decode cX6_word 256 = .ok (.getfield 69, 3) := by decide +kernel
theorem dX6_word_259 : decode cX6_word 259 = .ok (.iload 7, 2) := by decide +kernel
theorem dX6_word_261 : decode cX6_word 261 = .ok (.ior, 1) := by decide +kernel
theorem dX6_word_262 : decode cX6_word 262 = .ok (.aload_n 0, 1) := by decide +kernel
theorem dX6_word_263 : decode cX6_word 263 = .ok (.getfield 72, 3) := by decide +kernel
theorem dX6_word_266 : decode cX6_word 266 = .ok (.iload 7, 2) := by decide +kernel
theorem dX6_word_268 : decode cX6_word 268 = .ok (.ior, 1) := by decide +kernel
theorem dX6_word_269 : decode cX6_word 269 = .ok (.iload_n 2, 1) := by decide +kernel
theorem dX6_word_270 : decode cX6_word 270 = .ok (.ifCond .ne 13, 3) := by decide +kernel
theorem dX6_word_273 : decode cX6_word 273 = .ok (.iload 5, 2) := by decide +kernel
theorem dX6_word_275 : decode cX6_word 275 = .ok (.ifCond .eq 12, 3) := by decide +kernel
theorem dX6_word_278 : decode cX6_word 278 = .ok (.iload 6, 2) := by decide +kernel
theorem dX6_word_280 : decode cX6_word 280 = .ok (.ifCond .ne 7, 3) := by decide +kernel
theorem dX6_word_283 : decode cX6_word 283 = .ok (.iconst 1, 1) := by decide +kernel
theorem dX6_word_284 : decode cX6_word 284 = .ok (.goto 4, 3) := by decide +kernel
theorem dX6_word_287 : decode cX6_word 287 = .ok (.iconst 0, 1) := by decide +kernel
theorem dX6_word_288 : decode cX6_word 288 = .ok (.invokevirtual 155, 3) := by decide +kernel
theorem dX6_word_291 : decode cX6_word 291 = .ok (.aload_n 0, 1) := by decide +kernel
theorem dX6_word_292 : decode cX6_word 292 = .ok (.aload_n 0, 1) := by decide +kernel
theorem dX6_word_293 : decode cX6_word 293 = .ok (.getfield 69, 3) := by decide +kernel
theorem dX6_word_296 : decode cX6_word 296 = .ok (.iload 7, 2) := by decide +kernel
theorem dX6_word_298 : decode cX6_word 298 = .ok (.ior, 1) := by decide +kernel
theorem dX6_word_299 : decode cX6_word 299 = .ok (.aload_n 0, 1) := by decide +kernel
theorem dX6_word_300 : decode cX6_word 300 = .ok (.getfield 72, 3) := by decide +kernel
theorem dX6_word_303 : decode cX6_word 303 = .ok (.iload 7, 2) := by decide +kernel
theorem dX6_word_305 : decode cX6_word 305 = .ok (.iconst (-1), 1) := by decide +kernel
theorem dX6_word_306 : decode cX6_word 306 = .ok (.ixor, 1) := by decide +kernel
theorem dX6_word_307 : decode cX6_word 307 = .ok (.iand, 1) := by decide +kernel
theorem dX6_word_308 : decode cX6_word 308 = .ok (.iload_n 2, 1) := by decide +kernel
theorem dX6_word_309 : decode cX6_word 309 = .ok (.ifCond .ne 13, 3) := by decide +kernel
theorem dX6_word_312 : decode cX6_word 312 = .ok (.iload 5, 2) := by decide +kernel
theorem dX6_word_314 : decode cX6_word 314 = .ok (.ifCond .eq 12, 3) := by decide +kernel
theorem dX6_word_317 : decode cX6_word 317 = .ok (.iload 6, 2) := by decide +kernel
theorem dX6_word_319 : decode cX6_word 319 = .ok (.ifCond .eq 7, 3) := by decide +kernel
theorem dX6_word_322 : decode cX6_word 322 = .ok (.iconst 1, 1) := by decide +kernel
theorem dX6_word_323 : decode cX6_word 323 = .ok (.goto 4, 3) := by decide +kernel
theorem dX6_word_326 : decode cX6_word 326 = .ok (.iconst 0, 1) := by decide +kernel
theorem dX6_word_327 : decode cX6_word 327 = .ok (.invokevirtual 155, 3) := by decide +kernel
theorem dX6_word_330 : decode cX6_word 330 = .ok (.goto 8, 3) := by decide +kernel
theorem dX6_word_333 : decode cX6_word 333 = .ok (.aload_n 0, 1) := by decide +kernel
theorem dX6_word_334 : decode cX6_word 334 = .ok (.iconst 0, 1) := by decide +kernel
theorem dX6_word_335 : decode cX6_word 335 = .ok (.putfield 39, 3) := by decide +kernel
theorem dX6_word_338 : decode cX6_word 338 = .ok (.aload_n 0, 1) := by decide +kernel
theorem dX6_word_339 : decode cX6_word 339 = .ok (.getfield 39, 3) := by decide +kernel
theorem dX6_word_342 : decode cX6_word 342 = .ok (.iconst 2, 1) := by decide +kernel
theorem dX6_word_343 : decode cX6_word 343 = .ok (.if_icmp .ne 32, 3) := by decide +kernel
theorem dX6_word_346 : decode cX6_word 346 = .ok (.aload_n 0, 1) := by decide +kernel
theorem dX6_word_347 : decode cX6_word 347 = .ok (.getfield 151, 3) := by decide +kernel
theorem dX6_word_350 : decode cX6_word 350 = .ok (.ifCond .ne 25, 3) := by decide +kernel
theorem dX6_word_353 : decode cX6_word 353 = .ok (.aload_n 0, 1) := by decide +kernel
theorem dX6_word_354 : decode cX6_word 354 = .ok (.aload_n 0, 1) := by decide +kernel
theorem dX6_word_355 : decode cX6_word 355 = .ok (.getfield 148, 3) := by decide +kernel
theorem dX6_word_358 : decode cX6_word 358 = .ok (.aload_n 0, 1) := by decide +kernel
theorem dX6_word_359 : decode cX6_word 359 = .ok (.getfield 93, 3) := by decide +kernel
theorem dX6_word_362 : decode cX6_word 362 = .ok (.iconst 2, 1) := by decide +kernel
theorem dX6_word_363 : decode cX6_word 363 = .ok (.isub, 1) := by decide +kernel
theorem dX6_word_364 : decode cX6_word 364 = .ok (.if_icmp .ne 7, 3) := by decide +kernel
theorem dX6_word_367 : decode cX6_word 367 = .ok (.iconst 1, 1) := by decide +kernel
theorem dX6_word_368 : decode cX6_word 368 = .ok (.goto 4, 3) := by decide +kernel
theorem dX6_word_371 : decode cX6_word 371 = .ok (.iconst 0, 1) := by decide +kernel
theorem dX6_word_372 : decode cX6_word 372 = .ok (.putfield 39, 3) := by decide +kernel
theorem dX6_word_375 : decode cX6_word 375 = .ok (.return_, 1) := by decide +kernel
theorem dX6_check_0 : decode cX6_check 0 = .ok (.aload_n 0, 1) := by decide +kernel
theorem dX6_check_1 : decode cX6_check 1 = .ok (.getfield 116, 3) := by decide +kernel
theorem dX6_check_4 : decode cX6_check 4 = .ok (.ifCond .ne 6, 3) := by decide +kernel
theorem dX6_check_7 : decode cX6_check 7 = .ok (.bipush (-3), 2) := by decide +kernel
theorem dX6_check_9 : decode cX6_check 9 = .ok (.ireturn, 1) := by decide +kernel
theorem dX6_check_10 : decode cX6_check 10 = .ok (.iload_n 1, 1) := by decide +kernel
theorem dX6_check_11 : decode cX6_check 11 = .ok (.iconst 1, 1) := by decide +kernel
theorem dX6_check_12 : decode cX6_check 12 = .ok (.sipush 2000, 3) := by decide +kernel
theorem dX6_check_15 : decode cX6_check 15 = .ok (.invokestatic 58, 3) := by decide +kernel
theorem dX6_check_18 : decode cX6_check 18 = .ok (.ifCond .ne 5, 3) := by decide +kernel
theorem dX6_check_21 : decode cX6_check 21 = .ok (.iconst (-1), 1) := by decide +kernel
theorem dX6_check_22 : decode cX6_check 22 = .ok (.ireturn, 1) := by decide +kernel
theorem dX6_check_23 : decode cX6_check 23 = .ok (.aload_n 0, 1) := by decide +kernel
theorem dX6_check_24 : decode cX6_check 24 = .ok (.getfield 145, 3) := by decide +kernel
theorem dX6_check_27 : decode cX6_check 27 = .ok (.ifCond .ne 7, 3) := by decide +kernel
theorem dX6_check_30 : decode cX6_check 30 = .ok (.aload_n 0, 1) := by decide +kernel
theorem dX6_check_31 : decode cX6_check 31 = .ok (.invokevirtual 159, 3) := by decide +kernel
theorem dX6_check_34 : decode cX6_check 34 = .ok (.iconst 0, 1) := by decide +kernel
theorem dX6_check_35 : decode cX6_check 35 = .ok (.istore_n 2, 1) := by decide +kernel
theorem dX6_check_36 : decode cX6_check 36 = .ok (.iload_n 2, 1) := by decide +kernel
theorem dX6_check_37 : decode cX6_check 37 = .ok (.iload_n 1, 1) := by decide +kernel
theorem dX6_check_38 : decode cX6_check 38 = .ok (.if_icmp .ge 21, 3) := by decide +kernel
theorem dX6_check_41 : decode cX6_check 41 = .ok (.aload_n 0, 1) := by decide +kernel
theorem dX6_check_42 : decode cX6_check 42 = .ok (.getfield 39, 3) := by decide +kernel
theorem dX6_check_45 : decode cX6_check 45 = .ok (.iconst 2, 1) := by decide +kernel
theorem dX6_check_46 : decode cX6_check 46 = .ok (.if_icmp .ne 13, 3) := by decide +kernel
theorem dX6_check_49 : decode cX6_check 49 = .ok (.aload_n 0, 1) := by decide +kernel
theorem dX6_check_50 : decode cX6_check 50 = .ok (.invokevirtual 162, 3) := by decide +kernel
theorem dX6_check_53 : decode cX6_check 53 = .ok (.iinc 2 1, 3) := by decide +kernel
theorem dX6_check_56 : decode cX6_check 56 = .ok (.goto (-20), 3) := by decide +kernel
theorem dX6_check_59 : decode cX6_check 59 = .ok (.aload_n 0, 1) := by decide +kernel
theorem dX6_check_60 : decode cX6_check 60 = .ok (.getfield 39, 3) := by decide +kernel
theorem dX6_check_63 : decode cX6_check 63 = .ok (.ireturn, 1) := by decide +kernel
theorem dX6_steps_0 : decode cX6_steps 0 = .ok (.aload_n 0, 1) := by decide +kernel
theorem dX6_steps_1 : decode cX6_steps 1 = .ok (.getfield 119, 3) := by decide +kernel
theorem dX6_steps_4 : decode cX6_steps 4 = .ok (.ireturn, 1) := by decide +kernel
theorem dL_law_0 : decode cL_law 0 = .ok (.new 7, 3) := by decide +kernel
theorem dL_law_3 : decode cL_law 3 = .ok (.dup, 1) := by decide +kernel
theorem dL_law_4 : decode cL_law 4 = .ok (.invokespecial 9, 3) := by decide +kernel
theorem dL_law_7 : decode cL_law 7 = .ok (.astore_n 1, 1) := by decide +kernel
theorem dL_law_8 : decode cL_law 8 = .ok (.new 10, 3) := by decide +kernel
theorem dL_law_11 : decode cL_law 11 = .ok (.dup, 1) := by decide +kernel
theorem dL_law_12 : decode cL_law 12 = .ok (.invokespecial 12, 3) := by decide +kernel
theorem dL_law_15 : decode cL_law 15 = .ok (.astore_n 2, 1) := by decide +kernel
theorem dL_law_16 : decode cL_law 16 = .ok (.iconst 0, 1) := by decide +kernel
theorem dL_law_17 : decode cL_law 17 = .ok (.istore_n 3, 1) := by decide +kernel
theorem dL_law_18 : decode cL_law 18 = .ok (.iload_n 3, 1) := by decide +kernel
theorem dL_law_19 : decode cL_law 19 = .ok (.aload_n 0, 1) := by decide +kernel
theorem dL_law_20 : decode cL_law 20 = .ok (.arraylength, 1) := by decide +kernel
theorem dL_law_21 : decode cL_law 21 = .ok (.iconst 3, 1) := by decide +kernel
theorem dL_law_22 : decode cL_law 22 = .ok (.isub, 1) := by decide +kernel
theorem dL_law_23 : decode cL_law 23 = .ok (.if_icmp .gt 355, 3) := by decide +kernel
theorem dL_law_26 : decode cL_law 26 = .ok (.aload_n 0, 1) := by decide +kernel
theorem dL_law_27 : decode cL_law 27 = .ok (.iload_n 3, 1) := by decide +kernel
theorem dL_law_28 : decode cL_law 28 = .ok (.iaload, 1) := by decide +kernel
theorem dL_law_29 : decode cL_law 29 = .ok (.bipush 15, 2) := by decide +kernel
theorem dL_law_31 : decode cL_law 31 = .ok (.iand, 1) := by decide +kernel
theorem dL_law_32 : decode cL_law 32 = .ok (.tableswitch 340 0 11 #[64, 97, 130, 153, 176, 189, 212, 225, 248, 281, 304, 327], 64) := by decide +kernel
theorem dL_law_96 : decode cL_law 96 = .ok (.aload_n 1, 1) := by decide +kernel
theorem dL_law_97 : decode cL_law 97 = .ok (.aload_n 0, 1) := by decide +kernel
theorem dL_law_98 : decode cL_law 98 = .ok (.iload_n 3, 1) := by decide +kernel
theorem dL_law_99 : decode cL_law 99 = .ok (.iconst 1, 1) := by decide +kernel
theorem dL_law_100 : decode cL_law 100 = .ok (.iadd, 1) := by decide +kernel
theorem dL_law_101 : decode cL_law 101 = .ok (.iaload, 1) := by decide +kernel
theorem dL_law_102 : decode cL_law 102 = .ok (.aload_n 0, 1) := by decide +kernel
theorem dL_law_103 : decode cL_law 103 = .ok (.iload_n 3, 1) := by decide +kernel
theorem dL_law_104 : decode cL_law 104 = .ok (.iconst 2, 1) := by decide +kernel
theorem dL_law_105 : decode cL_law 105 = .ok (.iadd, 1) := by decide +kernel
theorem dL_law_106 : decode cL_law 106 = .ok (.iaload, 1) := by decide +kernel
theorem dL_law_107 : decode cL_law 107 = .ok (.invokevirtual 13, 3) := by decide +kernel
theorem dL_law_110 : decode cL_law 110 = .ok (.pop, 1) := by decide +kernel
theorem dL_law_111 : decode cL_law 111 = .ok (.aload_n 2, 1) := by decide +kernel
theorem dL_law_112 : decode cL_law 112 = .ok (.aload_n 0, 1) := by decide +kernel
theorem dL_law_113 : decode cL_law 113 = .ok (.iload_n 3, 1) := by decide +kernel
theorem dL_law_114 : decode cL_law 114 = .ok (.iconst 1, 1) := by decide +kernel
theorem dL_law_115 : decode cL_law 115 = .ok (.iadd, 1) := by decide +kernel
theorem dL_law_116 : decode cL_law 116 = .ok (.iaload, 1) := by decide +kernel
theorem dL_law_117 : decode cL_law 117 = .ok (.aload_n 0, 1) := by decide +kernel
theorem dL_law_118 : decode cL_law 118 = .ok (.iload_n 3, 1) := by decide +kernel
theorem dL_law_119 : decode cL_law 119 = .ok (.iconst 2, 1) := by decide +kernel
theorem dL_law_120 : decode cL_law 120 = .ok (.iadd, 1) := by decide +kernel
theorem dL_law_121 : decode cL_law 121 = .ok (.iaload, 1) := by decide +kernel
theorem dL_law_122 : decode cL_law 122 = .ok (.invokevirtual 17, 3) := by decide +kernel
theorem dL_law_125 : decode cL_law 125 = .ok (.pop, 1) := by decide +kernel
theorem dL_law_126 : decode cL_law 126 = .ok (.goto 246, 3) := by decide +kernel
theorem dL_law_129 : decode cL_law 129 = .ok (.aload_n 1, 1) := by decide +kernel
theorem dL_law_130 : decode cL_law 130 = .ok (.aload_n 0, 1) := by decide +kernel
theorem dL_law_131 : decode cL_law 131 = .ok (.iload_n 3, 1) := by decide +kernel
theorem dL_law_132 : decode cL_law 132 = .ok (.iconst 1, 1) := by decide +kernel
theorem dL_law_133 : decode cL_law 133 = .ok (.iadd, 1) := by decide +kernel
theorem dL_law_134 : decode cL_law 134 = .ok (.iaload, 1) := by decide +kernel
theorem dL_law_135 : decode cL_law 135 = .ok (.aload_n 0, 1) := by decide +kernel
theorem dL_law_136 : decode cL_law 136 = .ok (.iload_n 3, 1) := by decide +kernel
theorem dL_law_137 : decode cL_law 137 = .ok (.iconst 2, 1) := by decide +kernel
theorem dL_law_138 : decode cL_law 138 = .ok (.iadd, 1) := by decide +kernel
theorem dL_law_139 : decode cL_law 139 = .ok (.iaload, 1) := by decide +kernel
theorem dL_law_140 : decode cL_law 140 = .ok (.invokevirtual 18, 3) := by decide +kernel
theorem dL_law_143 : decode cL_law 143 = .ok (.pop, 1) := by decide +kernel
theorem dL_law_144 : decode cL_law 144 = .ok (.aload_n 2, 1) := by decide +kernel
theorem dL_law_145 : decode cL_law 145 = .ok (.aload_n 0, 1) := by decide +kernel
theorem dL_law_146 : decode cL_law 146 = .ok (.iload_n 3, 1) := by decide +kernel
theorem dL_law_147 : decode cL_law 147 = .ok (.iconst 1, 1) := by decide +kernel
theorem dL_law_148 : decode cL_law 148 = .ok (.iadd, 1) := by decide +kernel
theorem dL_law_149 : decode cL_law 149 = .ok (.iaload, 1) := by decide +kernel
theorem dL_law_150 : decode cL_law 150 = .ok (.aload_n 0, 1) := by decide +kernel
theorem dL_law_151 : decode cL_law 151 = .ok (.iload_n 3, 1) := by decide +kernel
theorem dL_law_152 : decode cL_law 152 = .ok (.iconst 2, 1) := by decide +kernel
theorem dL_law_153 : decode cL_law 153 = .ok (.iadd, 1) := by decide +kernel
theorem dL_law_154 : decode cL_law 154 = .ok (.iaload, 1) := by decide +kernel
theorem dL_law_155 : decode cL_law 155 = .ok (.invokevirtual 21, 3) := by decide +kernel
theorem dL_law_158 : decode cL_law 158 = .ok (.pop, 1) := by decide +kernel
theorem dL_law_159 : decode cL_law 159 = .ok (.goto 213, 3) := by decide +kernel
theorem dL_law_162 : decode cL_law 162 = .ok (.aload_n 1, 1) := by decide +kernel
theorem dL_law_163 : decode cL_law 163 = .ok (.aload_n 0, 1) := by decide +kernel
theorem dL_law_164 : decode cL_law 164 = .ok (.iload_n 3, 1) := by decide +kernel
theorem dL_law_165 : decode cL_law 165 = .ok (.iconst 1, 1) := by decide +kernel
theorem dL_law_166 : decode cL_law 166 = .ok (.iadd, 1) := by decide +kernel
theorem dL_law_167 : decode cL_law 167 = .ok (.iaload, 1) := by decide +kernel
theorem dL_law_168 : decode cL_law 168 = .ok (.invokevirtual 22, 3) := by decide +kernel
theorem dL_law_171 : decode cL_law 171 = .ok (.pop, 1) := by decide +kernel
theorem dL_law_172 : decode cL_law 172 = .ok (.aload_n 2, 1) := by decide +kernel
theorem dL_law_173 : decode cL_law 173 = .ok (.aload_n 0, 1) := by decide +kernel
theorem dL_law_174 : decode cL_law 174 = .ok (.iload_n 3, 1) := by decide +kernel
theorem dL_law_175 : decode cL_law 175 = .ok (.iconst 1, 1) := by decide +kernel
theorem dL_law_176 : decode cL_law 176 = .ok (.iadd, 1) := by decide +kernel
theorem dL_law_177 : decode cL_law 177 = .ok (.iaload, 1) := by decide +kernel
theorem dL_law_178 : decode cL_law 178 = .ok (.invokevirtual 26, 3) := by decide +kernel
theorem dL_law_181 : decode cL_law 181 = .ok (.pop, 1) := by decide +kernel
theorem dL_law_182 : decode cL_law 182 = .ok (.goto 190, 3) := by decide +kernel
theorem dL_law_185 : decode cL_law 185 = .ok (.aload_n 1, 1) := by decide +kernel
theorem dL_law_186 : decode cL_law 186 = .ok (.aload_n 0, 1) := by decide +kernel
theorem dL_law_187 : decode cL_law 187 = .ok (.iload_n 3, 1) := by decide +kernel
theorem dL_law_188 : decode cL_law 188 = .ok (.iconst 1, 1) := by decide +kernel
theorem dL_law_189 : decode cL_law 189 = .ok (.iadd, 1) := by decide +kernel
theorem dL_law_190 : decode cL_law 190 = .ok (.iaload, 1) := by decide +kernel
theorem dL_law_191 : decode cL_law 191 = .ok (.invokevirtual 27, 3) := by decide +kernel
theorem dL_law_194 : decode cL_law 194 = .ok (.pop, 1) := by decide +kernel
theorem dL_law_195 : decode cL_law 195 = .ok (.aload_n 2, 1) := by decide +kernel
theorem dL_law_196 : decode cL_law 196 = .ok (.aload_n 0, 1) := by decide +kernel
theorem dL_law_197 : decode cL_law 197 = .ok (.iload_n 3, 1) := by decide +kernel
theorem dL_law_198 : decode cL_law 198 = .ok (.iconst 1, 1) := by decide +kernel
theorem dL_law_199 : decode cL_law 199 = .ok (.iadd, 1) := by decide +kernel
theorem dL_law_200 : decode cL_law 200 = .ok (.iaload, 1) := by decide +kernel
theorem dL_law_201 : decode cL_law 201 = .ok (.invokevirtual 30, 3) := by decide +kernel
theorem dL_law_204 : decode cL_law 204 = .ok (.pop, 1) := by decide +kernel
theorem dL_law_205 : decode cL_law 205 = .ok (.goto 167, 3) := by decide +kernel
theorem dL_law_208 : decode cL_law 208 = .ok (.aload_n 1, 1) := by decide +kernel
theorem dL_law_209 : decode cL_law 209 = .ok (.invokevirtual 31, 3) := by decide +kernel
theorem dL_law_212 : decode cL_law 212 = .ok (.pop, 1) := by decide +kernel
theorem dL_law_213 : decode cL_law 213 = .ok (.aload_n 2, 1) := by decide +kernel
theorem dL_law_214 : decode cL_law 214 = .ok (.invokevirtual 35, 3) := by decide +kernel
theorem dL_law_217 : decode cL_law 217 = .ok (.pop, 1) := by decide +kernel
theorem dL_law_218 : decode cL_law 218 = .ok (.goto 154, 3) := by decide +kernel
theorem dL_law_221 : decode cL_law 221 = .ok (.aload_n 1, 1) := by decide +kernel
theorem dL_law_222 : decode cL_law 222 = .ok (.aload_n 0, 1) := by decide +kernel
theorem dL_law_223 : decode cL_law 223 = .ok (.iload_n 3, 1) := by decide +kernel
theorem dL_law_224 : decode cL_law 224 = .ok (.iconst 1, 1) := by decide +kernel
theorem dL_law_225 : decode cL_law 225 = .ok (.iadd, 1) := by decide +kernel
theorem dL_law_226 : decode cL_law 226 = .ok (.iaload, 1) := by decide +kernel
theorem dL_law_227 : decode cL_law 227 = .ok (.invokevirtual 36, 3) := by decide +kernel
theorem dL_law_230 : decode cL_law 230 = .ok (.pop, 1) := by decide +kernel
theorem dL_law_231 : decode cL_law 231 = .ok (.aload_n 2, 1) := by decide +kernel
theorem dL_law_232 : decode cL_law 232 = .ok (.aload_n 0, 1) := by decide +kernel
theorem dL_law_233 : decode cL_law 233 = .ok (.iload_n 3, 1) := by decide +kernel
theorem dL_law_234 : decode cL_law 234 = .ok (.iconst 1, 1) := by decide +kernel
theorem dL_law_235 : decode cL_law 235 = .ok (.iadd, 1) := by decide +kernel
theorem dL_law_236 : decode cL_law 236 = .ok (.iaload, 1) := by decide +kernel
theorem dL_law_237 : decode cL_law 237 = .ok (.invokevirtual 39, 3) := by decide +kernel
theorem dL_law_240 : decode cL_law 240 = .ok (.pop, 1) := by decide +kernel
theorem dL_law_241 : decode cL_law 241 = .ok (.goto 131, 3) := by decide +kernel
theorem dL_law_244 : decode cL_law 244 = .ok (.aload_n 1, 1) := by decide +kernel
theorem dL_law_245 : decode cL_law 245 = .ok (.invokevirtual 40, 3) := by decide +kernel
theorem dL_law_248 : decode cL_law 248 = .ok (.pop, 1) := by decide +kernel
theorem dL_law_249 : decode cL_law 249 = .ok (.aload_n 2, 1) := by decide +kernel
theorem dL_law_250 : decode cL_law 250 = .ok (.invokevirtual 43, 3) := by decide +kernel
theorem dL_law_253 : decode cL_law 253 = .ok (.pop, 1) := by decide +kernel
theorem dL_law_254 : decode cL_law 254 = .ok (.goto 118, 3) := by decide +kernel
theorem dL_law_257 : decode cL_law 257 = .ok (.aload_n 1, 1) := by decide +kernel
theorem dL_law_258 : decode cL_law 258 = .ok (.aload_n 0, 1) := by decide +kernel
theorem dL_law_259 : decode cL_law 259 = .ok (.iload_n 3, 1) := by decide +kernel
theorem dL_law_260 : decode cL_law 260 = .ok (.iconst 1, 1) := by decide +kernel
theorem dL_law_261 : decode cL_law 261 = .ok (.iadd, 1) := by decide +kernel
theorem dL_law_262 : decode cL_law 262 = .ok (.iaload, 1) := by decide +kernel
theorem dL_law_263 : decode cL_law 263 = .ok (.invokevirtual 44, 3) := by decide +kernel
theorem dL_law_266 : decode cL_law 266 = .ok (.pop, 1) := by decide +kernel
theorem dL_law_267 : decode cL_law 267 = .ok (.aload_n 2, 1) := by decide +kernel
theorem dL_law_268 : decode cL_law 268 = .ok (.aload_n 0, 1) := by decide +kernel
theorem dL_law_269 : decode cL_law 269 = .ok (.iload_n 3, 1) := by decide +kernel
theorem dL_law_270 : decode cL_law 270 = .ok (.iconst 1, 1) := by decide +kernel
theorem dL_law_271 : decode cL_law 271 = .ok (.iadd, 1) := by decide +kernel
theorem dL_law_272 : decode cL_law 272 = .ok (.iaload, 1) := by decide +kernel
theorem dL_law_273 : decode cL_law 273 = .ok (.invokevirtual 47, 3) := by decide +kernel
theorem dL_law_276 : decode cL_law 276 = .ok (.pop, 1) := by decide +kernel
theorem dL_law_277 : decode cL_law 277 = .ok (.goto 95, 3) := by decide +kernel
theorem dL_law_280 : decode cL_law 280 = .ok (.aload_n 1, 1) := by decide +kernel
theorem dL_law_281 : decode cL_law 281 = .ok (.aload_n 0, 1) := by decide +kernel
theorem dL_law_282 : decode cL_law 282 = .ok (.iload_n 3, 1) := by decide +kernel
theorem dL_law_283 : decode cL_law 283 = .ok (.iconst 1, 1) := by decide +kernel
theorem dL_law_284 : decode cL_law 284 = .ok (.iadd, 1) := by decide +kernel
theorem dL_law_285 : decode cL_law 285 = .ok (.iaload, 1) := by decide +kernel
theorem dL_law_286 : decode cL_law 286 = .ok (.aload_n 0, 1) := by decide +kernel
theorem dL_law_287 : decode cL_law 287 = .ok (.iload_n 3, 1) := by decide +kernel
theorem dL_law_288 : decode cL_law 288 = .ok (.iconst 2, 1) := by decide +kernel
theorem dL_law_289 : decode cL_law 289 = .ok (.iadd, 1) := by decide +kernel
theorem dL_law_290 : decode cL_law 290 = .ok (.iaload, 1) := by decide +kernel
theorem dL_law_291 : decode cL_law 291 = .ok (.invokevirtual 48, 3) := by decide +kernel
theorem dL_law_294 : decode cL_law 294 = .ok (.pop, 1) := by decide +kernel
theorem dL_law_295 : decode cL_law 295 = .ok (.aload_n 2, 1) := by decide +kernel
theorem dL_law_296 : decode cL_law 296 = .ok (.aload_n 0, 1) := by decide +kernel
theorem dL_law_297 : decode cL_law 297 = .ok (.iload_n 3, 1) := by decide +kernel
theorem dL_law_298 : decode cL_law 298 = .ok (.iconst 1, 1) := by decide +kernel
theorem dL_law_299 : decode cL_law 299 = .ok (.iadd, 1) := by decide +kernel
theorem dL_law_300 : decode cL_law 300 = .ok (.iaload, 1) := by decide +kernel
theorem dL_law_301 : decode cL_law 301 = .ok (.aload_n 0, 1) := by decide +kernel
theorem dL_law_302 : decode cL_law 302 = .ok (.iload_n 3, 1) := by decide +kernel
theorem dL_law_303 : decode cL_law 303 = .ok (.iconst 2, 1) := by decide +kernel
theorem dL_law_304 : decode cL_law 304 = .ok (.iadd, 1) := by decide +kernel
theorem dL_law_305 : decode cL_law 305 = .ok (.iaload, 1) := by decide +kernel
theorem dL_law_306 : decode cL_law 306 = .ok (.invokevirtual 51, 3) := by decide +kernel
theorem dL_law_309 : decode cL_law 309 = .ok (.pop, 1) := by decide +kernel
theorem dL_law_310 : decode cL_law 310 = .ok (.goto 62, 3) := by decide +kernel
theorem dL_law_313 : decode cL_law 313 = .ok (.aload_n 1, 1) := by decide +kernel
theorem dL_law_314 : decode cL_law 314 = .ok (.aload_n 0, 1) := by decide +kernel
theorem dL_law_315 : decode cL_law 315 = .ok (.iload_n 3, 1) := by decide +kernel
theorem dL_law_316 : decode cL_law 316 = .ok (.iconst 1, 1) := by decide +kernel
theorem dL_law_317 : decode cL_law 317 = .ok (.iadd, 1) := by decide +kernel
theorem dL_law_318 : decode cL_law 318 = .ok (.iaload, 1) := by decide +kernel
theorem dL_law_319 : decode cL_law 319 = .ok (.invokevirtual 52, 3) := by decide +kernel
theorem dL_law_322 : decode cL_law 322 = .ok (.pop, 1) := by decide +kernel
theorem dL_law_323 : decode cL_law 323 = .ok (.aload_n 2, 1) := by decide +kernel
theorem dL_law_324 : decode cL_law 324 = .ok (.aload_n 0, 1) := by decide +kernel
theorem dL_law_325 : decode cL_law 325 = .ok (.iload_n 3, 1) := by decide +kernel
theorem dL_law_326 : decode cL_law 326 = .ok (.iconst 1, 1) := by decide +kernel
theorem dL_law_327 : decode cL_law 327 = .ok (.iadd, 1) := by decide +kernel
theorem dL_law_328 : decode cL_law 328 = .ok (.iaload, 1) := by decide +kernel
theorem dL_law_329 : decode cL_law 329 = .ok (.invokevirtual 55, 3) := by decide +kernel
theorem dL_law_332 : decode cL_law 332 = .ok (.pop, 1) := by decide +kernel
theorem dL_law_333 : decode cL_law 333 = .ok (.goto 39, 3) := by decide +kernel
theorem dL_law_336 : decode cL_law 336 = .ok (.aload_n 1, 1) := by decide +kernel
theorem dL_law_337 : decode cL_law 337 = .ok (.aload_n 0, 1) := by decide +kernel
theorem dL_law_338 : decode cL_law 338 = .ok (.iload_n 3, 1) := by decide +kernel
theorem dL_law_339 : decode cL_law 339 = .ok (.iconst 1, 1) := by decide +kernel
theorem dL_law_340 : decode cL_law 340 = .ok (.iadd, 1) := by decide +kernel
theorem dL_law_341 : decode cL_law 341 = .ok (.iaload, 1) := by decide +kernel
theorem dL_law_342 : decode cL_law 342 = .ok (.invokevirtual 56, 3) := by decide +kernel
theorem dL_law_345 : decode cL_law 345 = .ok (.pop, 1) := by decide +kernel
theorem dL_law_346 : decode cL_law 346 = .ok (.aload_n 2, 1) := by decide +kernel
theorem dL_law_347 : decode cL_law 347 = .ok (.aload_n 0, 1) := by decide +kernel
theorem dL_law_348 : decode cL_law 348 = .ok (.iload_n 3, 1) := by decide +kernel
theorem dL_law_349 : decode cL_law 349 = .ok (.iconst 1, 1) := by decide +kernel
theorem dL_law_350 : decode cL_law 350 = .ok (.iadd, 1) := by decide +kernel
theorem dL_law_351 : decode cL_law 351 = .ok (.iaload, 1) := by decide +kernel
theorem dL_law_352 : decode cL_law 352 = .ok (.invokevirtual 59, 3) := by decide +kernel
theorem dL_law_355 : decode cL_law 355 = .ok (.pop, 1) := by decide +kernel
theorem dL_law_356 : decode cL_law 356 = .ok (.goto 16, 3) := by decide +kernel
theorem dL_law_359 : decode cL_law 359 = .ok (.aload_n 1, 1) := by decide +kernel
theorem dL_law_360 : decode cL_law 360 = .ok (.invokevirtual 60, 3) := by decide +kernel
theorem dL_law_363 : decode cL_law 363 = .ok (.aload_n 2, 1) := by decide +kernel
theorem dL_law_364 : decode cL_law 364 = .ok (.invokevirtual 63, 3) := by decide +kernel
theorem dL_law_367 : decode cL_law 367 = .ok (.if_icmp .eq 5, 3) := by decide +kernel
theorem dL_law_370 : decode cL_law 370 = .ok (.iconst 0, 1) := by decide +kernel
theorem dL_law_371 : decode cL_law 371 = .ok (.ireturn, 1) := by decide +kernel
theorem dL_law_372 : decode cL_law 372 = .ok (.iinc 3 3, 3) := by decide +kernel
theorem dL_law_375 : decode cL_law 375 = .ok (.goto (-357), 3) := by decide +kernel
theorem dL_law_378 : decode cL_law 378 = .ok (.iconst 1, 1) := by decide +kernel
theorem dL_law_379 : decode cL_law 379 = .ok (.ireturn, 1) := by decide +kernel
