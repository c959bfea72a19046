theorem d_Ci_new_0 : decode c_Ci_new 0 = .ok (.aload_n 0, 1) := by decide +kernel
theorem d_Ci_new_1 : decode c_Ci_new 1 = .ok (.invokespecial 1, 3) := by decide +kernel
theorem d_Ci_new_4 : decode c_Ci_new 4 = .ok (.aload_n 0, 1) := by decide +kernel
theorem d_Ci_new_5 : decode c_Ci_new 5 = .ok (.sipush 176, 3) := by decide +kernel
theorem d_Ci_new_8 : decode c_Ci_new 8 = .ok (.newarray .int, 2) := by decide +kernel
theorem d_Ci_new_10 : decode c_Ci_new 10 = .ok (.putfield 9, 3) := by decide +kernel
theorem d_Ci_new_13 : decode c_Ci_new 13 = .ok (.aload_n 0, 1) := by decide +kernel
theorem d_Ci_new_14 : decode c_Ci_new 14 = .ok (.bipush 16, 2) := by decide +kernel
theorem d_Ci_new_16 : decode c_Ci_new 16 = .ok (.newarray .int, 2) := by decide +kernel
theorem d_Ci_new_18 : decode c_Ci_new 18 = .ok (.putfield 13, 3) := by decide +kernel
theorem d_Ci_new_21 : decode c_Ci_new 21 = .ok (.aload_n 0, 1) := by decide +kernel
theorem d_Ci_new_22 : decode c_Ci_new 22 = .ok (.bipush 16, 2) := by decide +kernel
theorem d_Ci_new_24 : decode c_Ci_new 24 = .ok (.newarray .int, 2) := by decide +kernel
theorem d_Ci_new_26 : decode c_Ci_new 26 = .ok (.putfield 16, 3) := by decide +kernel
theorem d_Ci_new_29 : decode c_Ci_new 29 = .ok (.return_, 1) := by decide +kernel
theorem d_Ci_takeKey_0 : decode c_Ci_takeKey 0 = .ok (.aload_n 1, 1) := by decide +kernel
theorem d_Ci_takeKey_1 : decode c_Ci_takeKey 1 = .ok (.iconst 0, 1) := by decide +kernel
theorem d_Ci_takeKey_2 : decode c_Ci_takeKey 2 = .ok (.aload_n 0, 1) := by decide +kernel
theorem d_Ci_takeKey_3 : decode c_Ci_takeKey 3 = .ok (.getfield 9, 3) := by decide +kernel
theorem d_Ci_takeKey_6 : decode c_Ci_takeKey 6 = .ok (.iconst 0, 1) := by decide +kernel
theorem d_Ci_takeKey_7 : decode c_Ci_takeKey 7 = .ok (.bipush 16, 2) := by decide +kernel
theorem d_Ci_takeKey_9 : decode c_Ci_takeKey 9 = .ok (.invokestatic 19, 3) := by decide +kernel
theorem d_Ci_takeKey_12 : decode c_Ci_takeKey 12 = .ok (.iconst 1, 1) := by decide +kernel
theorem d_Ci_takeKey_13 : decode c_Ci_takeKey 13 = .ok (.istore_n 2, 1) := by decide +kernel
theorem d_Ci_takeKey_14 : decode c_Ci_takeKey 14 = .ok (.bipush 16, 2) := by decide +kernel
theorem d_Ci_takeKey_16 : decode c_Ci_takeKey 16 = .ok (.istore_n 3, 1) := by decide +kernel
theorem d_Ci_takeKey_17 : decode c_Ci_takeKey 17 = .ok (.iload_n 3, 1) := by decide +kernel
theorem d_Ci_takeKey_18 : decode c_Ci_takeKey 18 = .ok (.aload_n 0, 1) := by decide +kernel
theorem d_Ci_takeKey_19 : decode c_Ci_takeKey 19 = .ok (.getfield 9, 3) := by decide +kernel
theorem d_Ci_takeKey_22 : decode c_Ci_takeKey 22 = .ok (.arraylength, 1) := by decide +kernel
theorem d_Ci_takeKey_23 : decode c_Ci_takeKey 23 = .ok (.if_icmp .ge 67, 3) := by decide +kernel
theorem d_Ci_takeKey_26 : decode c_Ci_takeKey 26 = .ok (.aload_n 0, 1) := by decide +kernel
theorem d_Ci_takeKey_27 : decode c_Ci_takeKey 27 = .ok (.iload_n 3, 1) := by decide +kernel
theorem d_Ci_takeKey_28 : decode c_Ci_takeKey 28 = .ok (.iload_n 2, 1) := by decide +kernel
theorem d_Ci_takeKey_29 : decode c_Ci_takeKey 29 = .ok (.invokevirtual 25, 3) := by decide +kernel
theorem d_Ci_takeKey_32 : decode c_Ci_takeKey 32 = .ok (.iload_n 3, 1) := by decide +kernel
theorem d_Ci_takeKey_33 : decode c_Ci_takeKey 33 = .ok (.iconst 4, 1) := by decide +kernel
theorem d_Ci_takeKey_34 : decode c_Ci_takeKey 34 = .ok (.iadd, 1) := by decide +kernel
theorem d_Ci_takeKey_35 : decode c_Ci_takeKey 35 = .ok (.istore 4, 2) := by decide +kernel
theorem d_Ci_takeKey_37 : decode c_Ci_takeKey 37 = .ok (.iload 4, 2) := by decide +kernel
theorem d_Ci_takeKey_39 : decode c_Ci_takeKey 39 = .ok (.iload_n 3, 1) := by decide +kernel
theorem d_Ci_takeKey_40 : decode c_Ci_takeKey 40 = .ok (.bipush 16, 2) := by decide +kernel
theorem d_Ci_takeKey_42 : decode c_Ci_takeKey 42 = .ok (.iadd, 1) := by decide +kernel
theorem d_Ci_takeKey_43 : decode c_Ci_takeKey 43 = .ok (.if_icmp .ge 36, 3) := by decide +kernel
theorem d_Ci_takeKey_46 : decode c_Ci_takeKey 46 = .ok (.aload_n 0, 1) := by decide +kernel
theorem d_Ci_takeKey_47 : decode c_Ci_takeKey 47 = .ok (.getfield 9, 3) := by decide +kernel
theorem d_Ci_takeKey_50 : decode c_Ci_takeKey 50 = .ok (.iload 4, 2) := by decide +kernel
theorem d_Ci_takeKey_52 : decode c_Ci_takeKey 52 = .ok (.aload_n 0, 1) := by decide +kernel
theorem d_Ci_takeKey_53 : decode c_Ci_takeKey 53 = .ok (.getfield 9, 3) := by decide +kernel
theorem d_Ci_takeKey_56 : decode c_Ci_takeKey 56 = .ok (.iload 4, 2) := by decide +kernel
theorem d_Ci_takeKey_58 : decode c_Ci_takeKey 58 = .ok (.bipush 16, 2) := by decide +kernel
theorem d_Ci_takeKey_60 : decode c_Ci_takeKey 60 = .ok (.isub, 1) := by decide +kernel
theorem d_Ci_takeKey_61 : decode c_Ci_takeKey 61 = .ok (.iaload, 1) := by decide +kernel
theorem d_Ci_takeKey_62 : decode c_Ci_takeKey 62 = .ok (.aload_n 0, 1) := by decide +kernel
theorem d_Ci_takeKey_63 : decode c_Ci_takeKey 63 = .ok (.getfield 9, 3) := by decide +kernel
theorem d_Ci_takeKey_66 : decode c_Ci_takeKey 66 = .ok (.iload 4, 2) := by decide +kernel
theorem d_Ci_takeKey_68 : decode c_Ci_takeKey 68 = .ok (.iconst 4, 1) := by decide +kernel
theorem d_Ci_takeKey_69 : decode c_Ci_takeKey 69 = .ok (.isub, 1) := by decide +kernel
theorem d_Ci_takeKey_70 : decode c_Ci_takeKey 70 = .ok (.iaload, 1) := by decide +kernel
theorem d_Ci_takeKey_71 : decode c_Ci_takeKey 71 = .ok (.ixor, 1) := by decide +kernel
theorem d_Ci_takeKey_72 : decode c_Ci_takeKey 72 = .ok (.iastore, 1) := by decide +kernel
theorem d_Ci_takeKey_73 : decode c_Ci_takeKey 73 = .ok (.iinc 4 1, 3) := by decide +kernel
theorem d_Ci_takeKey_76 : decode c_Ci_takeKey 76 = .ok (.goto (-39), 3) := by decide +kernel
theorem d_Ci_takeKey_79 : decode c_Ci_takeKey 79 = .ok (.iload_n 2, 1) := by decide +kernel
theorem d_Ci_takeKey_80 : decode c_Ci_takeKey 80 = .ok (.invokestatic 29, 3) := by decide +kernel
theorem d_Ci_takeKey_83 : decode c_Ci_takeKey 83 = .ok (.istore_n 2, 1) := by decide +kernel
theorem d_Ci_takeKey_84 : decode c_Ci_takeKey 84 = .ok (.iinc 3 16, 3) := by decide +kernel
theorem d_Ci_takeKey_87 : decode c_Ci_takeKey 87 = .ok (.goto (-70), 3) := by decide +kernel
theorem d_Ci_takeKey_90 : decode c_Ci_takeKey 90 = .ok (.return_, 1) := by decide +kernel
theorem d_Ci_makeTurnedWord_0 : decode c_Ci_makeTurnedWord 0 = .ok (.iconst 0, 1) := by decide +kernel
theorem d_Ci_makeTurnedWord_1 : decode c_Ci_makeTurnedWord 1 = .ok (.istore_n 3, 1) := by decide +kernel
theorem d_Ci_makeTurnedWord_2 : decode c_Ci_makeTurnedWord 2 = .ok (.iload_n 3, 1) := by decide +kernel
theorem d_Ci_makeTurnedWord_3 : decode c_Ci_makeTurnedWord 3 = .ok (.iconst 4, 1) := by decide +kernel
theorem d_Ci_makeTurnedWord_4 : decode c_Ci_makeTurnedWord 4 = .ok (.if_icmp .ge 51, 3) := by decide +kernel
theorem d_Ci_makeTurnedWord_7 : decode c_Ci_makeTurnedWord 7 = .ok (.getstatic 33, 3) := by decide +kernel
theorem d_Ci_makeTurnedWord_10 : decode c_Ci_makeTurnedWord 10 = .ok (.aload_n 0, 1) := by decide +kernel
theorem d_Ci_makeTurnedWord_11 : decode c_Ci_makeTurnedWord 11 = .ok (.getfield 9, 3) := by decide +kernel
theorem d_Ci_makeTurnedWord_14 : decode c_Ci_makeTurnedWord 14 = .ok (.iload_n 1, 1) := by decide +kernel
theorem d_Ci_makeTurnedWord_15 : decode c_Ci_makeTurnedWord 15 = .ok (.iconst 4, 1) := by decide +kernel
theorem d_Ci_makeTurnedWord_16 : decode c_Ci_makeTurnedWord 16 = .ok (.isub, 1) := by decide +kernel
theorem d_Ci_makeTurnedWord_17 : decode c_Ci_makeTurnedWord 17 = .ok (.iload_n 3, 1) := by decide +kernel
theorem d_Ci_makeTurnedWord_18 : decode c_Ci_makeTurnedWord 18 = .ok (.iconst 1, 1) := by decide +kernel
theorem d_Ci_makeTurnedWord_19 : decode c_Ci_makeTurnedWord 19 = .ok (.iadd, 1) := by decide +kernel
theorem d_Ci_makeTurnedWord_20 : decode c_Ci_makeTurnedWord 20 = .ok (.iconst 4, 1) := by decide +kernel
theorem d_Ci_makeTurnedWord_21 : decode c_Ci_makeTurnedWord 21 = .ok (.irem, 1) := by decide +kernel
theorem d_Ci_makeTurnedWord_22 : decode c_Ci_makeTurnedWord 22 = .ok (.iadd, 1) := by decide +kernel
theorem d_Ci_makeTurnedWord_23 : decode c_Ci_makeTurnedWord 23 = .ok (.iaload, 1) := by decide +kernel
theorem d_Ci_makeTurnedWord_24 : decode c_Ci_makeTurnedWord 24 = .ok (.iaload, 1) := by decide +kernel
theorem d_Ci_makeTurnedWord_25 : decode c_Ci_makeTurnedWord 25 = .ok (.istore 4, 2) := by decide +kernel
theorem d_Ci_makeTurnedWord_27 : decode c_Ci_makeTurnedWord 27 = .ok (.aload_n 0, 1) := by decide +kernel
theorem d_Ci_makeTurnedWord_28 : decode c_Ci_makeTurnedWord 28 = .ok (.getfield 9, 3) := by decide +kernel
theorem d_Ci_makeTurnedWord_31 : decode c_Ci_makeTurnedWord 31 = .ok (.iload_n 1, 1) := by decide +kernel
theorem d_Ci_makeTurnedWord_32 : decode c_Ci_makeTurnedWord 32 = .ok (.iload_n 3, 1) := by decide +kernel
theorem d_Ci_makeTurnedWord_33 : decode c_Ci_makeTurnedWord 33 = .ok (.iadd, 1) := by decide +kernel
theorem d_Ci_makeTurnedWord_34 : decode c_Ci_makeTurnedWord 34 = .ok (.aload_n 0, 1) := by decide +kernel
theorem d_Ci_makeTurnedWord_35 : decode c_Ci_makeTurnedWord 35 = .ok (.getfield 9, 3) := by decide +kernel
theorem d_Ci_makeTurnedWord_38 : decode c_Ci_makeTurnedWord 38 = .ok (.iload_n 1, 1) := by decide +kernel
theorem d_Ci_makeTurnedWord_39 : decode c_Ci_makeTurnedWord 39 = .ok (.bipush 16, 2) := by decide +kernel
theorem d_Ci_makeTurnedWord_41 : decode c_Ci_makeTurnedWord 41 = .ok (.isub, 1) := by decide +kernel
theorem d_Ci_makeTurnedWord_42 : decode c_Ci_makeTurnedWord 42 = .ok (.iload_n 3, 1) := by decide +kernel
theorem d_Ci_makeTurnedWord_43 : decode c_Ci_makeTurnedWord 43 = .ok (.iadd, 1) := by decide +kernel
theorem d_Ci_makeTurnedWord_44 : decode c_Ci_makeTurnedWord 44 = .ok (.iaload, 1) := by decide +kernel
theorem d_Ci_makeTurnedWord_45 : decode c_Ci_makeTurnedWord 45 = .ok (.iload 4, 2) := by decide +kernel
theorem d_Ci_makeTurnedWord_47 : decode c_Ci_makeTurnedWord 47 = .ok (.ixor, 1) := by decide +kernel
theorem d_Ci_makeTurnedWord_48 : decode c_Ci_makeTurnedWord 48 = .ok (.iastore, 1) := by decide +kernel
theorem d_Ci_makeTurnedWord_49 : decode c_Ci_makeTurnedWord 49 = .ok (.iinc 3 1, 3) := by decide +kernel
theorem d_Ci_makeTurnedWord_52 : decode c_Ci_makeTurnedWord 52 = .ok (.goto (-50), 3) := by decide +kernel
theorem d_Ci_makeTurnedWord_55 : decode c_Ci_makeTurnedWord 55 = .ok (.aload_n 0, 1) := by decide +kernel
theorem d_Ci_makeTurnedWord_56 : decode c_Ci_makeTurnedWord 56 = .ok (.getfield 9, 3) := by decide +kernel
theorem d_Ci_makeTurnedWord_59 : decode c_Ci_makeTurnedWord 59 = .ok (.iload_n 1, 1) := by decide +kernel
theorem d_Ci_makeTurnedWord_60 : decode c_Ci_makeTurnedWord 60 = .ok (.dup2, 1) := by decide +kernel
theorem d_Ci_makeTurnedWord_61 : decode c_Ci_makeTurnedWord 61 = .ok (.iaload, 1) := by decide +kernel
theorem d_Ci_makeTurnedWord_62 : decode c_Ci_makeTurnedWord 62 = .ok (.iload_n 2, 1) := by decide +kernel
theorem d_Ci_makeTurnedWord_63 : decode c_Ci_makeTurnedWord 63 = .ok (.ixor, 1) := by decide +kernel
theorem d_Ci_makeTurnedWord_64 : decode c_Ci_makeTurnedWord 64 = .ok (.iastore, 1) := by decide +kernel
theorem d_Ci_makeTurnedWord_65 : decode c_Ci_makeTurnedWord 65 = .ok (.return_, 1) := by decide +kernel
theorem d_Ci_encrypt_0 : decode c_Ci_encrypt 0 = .ok (.aload_n 1, 1) := by decide +kernel
theorem d_Ci_encrypt_1 : decode c_Ci_encrypt 1 = .ok (.iconst 0, 1) := by decide +kernel
theorem d_Ci_encrypt_2 : decode c_Ci_encrypt 2 = .ok (.aload_n 0, 1) := by decide +kernel
theorem d_Ci_encrypt_3 : decode c_Ci_encrypt 3 = .ok (.getfield 13, 3) := by decide +kernel
theorem d_Ci_encrypt_6 : decode c_Ci_encrypt 6 = .ok (.iconst 0, 1) := by decide +kernel
theorem d_Ci_encrypt_7 : decode c_Ci_encrypt 7 = .ok (.bipush 16, 2) := by decide +kernel
theorem d_Ci_encrypt_9 : decode c_Ci_encrypt 9 = .ok (.invokestatic 19, 3) := by decide +kernel
theorem d_Ci_encrypt_12 : decode c_Ci_encrypt 12 = .ok (.aload_n 0, 1) := by decide +kernel
theorem d_Ci_encrypt_13 : decode c_Ci_encrypt 13 = .ok (.iconst 0, 1) := by decide +kernel
theorem d_Ci_encrypt_14 : decode c_Ci_encrypt 14 = .ok (.invokevirtual 36, 3) := by decide +kernel
theorem d_Ci_encrypt_17 : decode c_Ci_encrypt 17 = .ok (.iconst 1, 1) := by decide +kernel
theorem d_Ci_encrypt_18 : decode c_Ci_encrypt 18 = .ok (.istore 4, 2) := by decide +kernel
theorem d_Ci_encrypt_20 : decode c_Ci_encrypt 20 = .ok (.iload 4, 2) := by decide +kernel
theorem d_Ci_encrypt_22 : decode c_Ci_encrypt 22 = .ok (.bipush 10, 2) := by decide +kernel
theorem d_Ci_encrypt_24 : decode c_Ci_encrypt 24 = .ok (.if_icmp .gt 30, 3) := by decide +kernel
theorem d_Ci_encrypt_27 : decode c_Ci_encrypt 27 = .ok (.aload_n 0, 1) := by decide +kernel
theorem d_Ci_encrypt_28 : decode c_Ci_encrypt 28 = .ok (.invokevirtual 40, 3) := by decide +kernel
theorem d_Ci_encrypt_31 : decode c_Ci_encrypt 31 = .ok (.iload 4, 2) := by decide +kernel
theorem d_Ci_encrypt_33 : decode c_Ci_encrypt 33 = .ok (.bipush 10, 2) := by decide +kernel
theorem d_Ci_encrypt_35 : decode c_Ci_encrypt 35 = .ok (.if_icmp .ge 7, 3) := by decide +kernel
theorem d_Ci_encrypt_38 : decode c_Ci_encrypt 38 = .ok (.aload_n 0, 1) := by decide +kernel
theorem d_Ci_encrypt_39 : decode c_Ci_encrypt 39 = .ok (.invokevirtual 43, 3) := by decide +kernel
theorem d_Ci_encrypt_42 : decode c_Ci_encrypt 42 = .ok (.aload_n 0, 1) := by decide +kernel
theorem d_Ci_encrypt_43 : decode c_Ci_encrypt 43 = .ok (.iload 4, 2) := by decide +kernel
theorem d_Ci_encrypt_45 : decode c_Ci_encrypt 45 = .ok (.invokevirtual 36, 3) := by decide +kernel
theorem d_Ci_encrypt_48 : decode c_Ci_encrypt 48 = .ok (.iinc 4 1, 3) := by decide +kernel
theorem d_Ci_encrypt_51 : decode c_Ci_encrypt 51 = .ok (.goto (-31), 3) := by decide +kernel
theorem d_Ci_encrypt_54 : decode c_Ci_encrypt 54 = .ok (.aload_n 0, 1) := by decide +kernel
theorem d_Ci_encrypt_55 : decode c_Ci_encrypt 55 = .ok (.getfield 13, 3) := by decide +kernel
theorem d_Ci_encrypt_58 : decode c_Ci_encrypt 58 = .ok (.iconst 0, 1) := by decide +kernel
theorem d_Ci_encrypt_59 : decode c_Ci_encrypt 59 = .ok (.aload_n 2, 1) := by decide +kernel
theorem d_Ci_encrypt_60 : decode c_Ci_encrypt 60 = .ok (.iload_n 3, 1) := by decide +kernel
theorem d_Ci_encrypt_61 : decode c_Ci_encrypt 61 = .ok (.bipush 16, 2) := by decide +kernel
theorem d_Ci_encrypt_63 : decode c_Ci_encrypt 63 = .ok (.invokestatic 19, 3) := by decide +kernel
theorem d_Ci_encrypt_66 : decode c_Ci_encrypt 66 = .ok (.return_, 1) := by decide +kernel
theorem d_Ci_addRoundKey_0 : decode c_Ci_addRoundKey 0 = .ok (.iconst 0, 1) := by decide +kernel
theorem d_Ci_addRoundKey_1 : decode c_Ci_addRoundKey 1 = .ok (.istore_n 2, 1) := by decide +kernel
theorem d_Ci_addRoundKey_2 : decode c_Ci_addRoundKey 2 = .ok (.iload_n 2, 1) := by decide +kernel
theorem d_Ci_addRoundKey_3 : decode c_Ci_addRoundKey 3 = .ok (.bipush 16, 2) := by decide +kernel
theorem d_Ci_addRoundKey_5 : decode c_Ci_addRoundKey 5 = .ok (.if_icmp .ge 29, 3) := by decide +kernel
theorem d_Ci_addRoundKey_8 : decode c_Ci_addRoundKey 8 = .ok (.aload_n 0, 1) := by decide +kernel
theorem d_Ci_addRoundKey_9 : decode c_Ci_addRoundKey 9 = .ok (.getfield 13, 3) := by decide +kernel
theorem d_Ci_addRoundKey_12 : decode c_Ci_addRoundKey 12 = .ok (.iload_n 2, 1) := by decide +kernel
theorem d_Ci_addRoundKey_13 : decode c_Ci_addRoundKey 13 = .ok (.dup2, 1) := by decide +kernel
theorem d_Ci_addRoundKey_14 : decode c_Ci_addRoundKey 14 = .ok (.iaload, 1) := by decide +kernel
theorem d_Ci_addRoundKey_15 : decode c_Ci_addRoundKey 15 = .ok (.aload_n 0, 1) := by decide +kernel
theorem d_Ci_addRoundKey_16 : decode c_Ci_addRoundKey 16 = .ok (.getfield 9, 3) := by decide +kernel
theorem d_Ci_addRoundKey_19 : decode c_Ci_addRoundKey 19 = .ok (.iload_n 1, 1) := by decide +kernel
theorem d_Ci_addRoundKey_20 : decode c_Ci_addRoundKey 20 = .ok (.bipush 16, 2) := by decide +kernel
theorem d_Ci_addRoundKey_22 : decode c_Ci_addRoundKey 22 = .ok (.imul, 1) := by decide +kernel
theorem d_Ci_addRoundKey_23 : decode c_Ci_addRoundKey 23 = .ok (.iload_n 2, 1) := by decide +kernel
theorem d_Ci_addRoundKey_24 : decode c_Ci_addRoundKey 24 = .ok (.iadd, 1) := by decide +kernel
theorem d_Ci_addRoundKey_25 : decode c_Ci_addRoundKey 25 = .ok (.iaload, 1) := by decide +kernel
theorem d_Ci_addRoundKey_26 : decode c_Ci_addRoundKey 26 = .ok (.ixor, 1) := by decide +kernel
theorem d_Ci_addRoundKey_27 : decode c_Ci_addRoundKey 27 = .ok (.iastore, 1) := by decide +kernel
theorem d_Ci_addRoundKey_28 : decode c_Ci_addRoundKey 28 = .ok (.iinc 2 1, 3) := by decide +kernel
theorem d_Ci_addRoundKey_31 : decode c_Ci_addRoundKey 31 = .ok (.goto (-29), 3) := by decide +kernel
theorem d_Ci_addRoundKey_34 : decode c_Ci_addRoundKey 34 = .ok (.return_, 1) := by decide +kernel
theorem d_Ci_substituteAndMove_0 : decode c_Ci_substituteAndMove 0 = .ok (.iconst 0, 1) := by decide +kernel
theorem d_Ci_substituteAndMove_1 : decode c_Ci_substituteAndMove 1 = .ok (.istore_n 1, 1) := by decide +kernel
theorem d_Ci_substituteAndMove_2 : decode c_Ci_substituteAndMove 2 = .ok (.iload_n 1, 1) := by decide +kernel
theorem d_Ci_substituteAndMove_3 : decode c_Ci_substituteAndMove 3 = .ok (.bipush 16, 2) := by decide +kernel
theorem d_Ci_substituteAndMove_5 : decode c_Ci_substituteAndMove 5 = .ok (.if_icmp .ge 34, 3) := by decide +kernel
theorem d_Ci_substituteAndMove_8 : decode c_Ci_substituteAndMove 8 = .ok (.aload_n 0, 1) := by decide +kernel
theorem d_Ci_substituteAndMove_9 : decode c_Ci_substituteAndMove 9 = .ok (.getfield 16, 3) := by decide +kernel
theorem d_Ci_substituteAndMove_12 : decode c_Ci_substituteAndMove 12 = .ok (.iload_n 1, 1) := by decide +kernel
theorem d_Ci_substituteAndMove_13 : decode c_Ci_substituteAndMove 13 = .ok (.getstatic 33, 3) := by decide +kernel
theorem d_Ci_substituteAndMove_16 : decode c_Ci_substituteAndMove 16 = .ok (.aload_n 0, 1) := by decide +kernel
theorem d_Ci_substituteAndMove_17 : decode c_Ci_substituteAndMove 17 = .ok (.getfield 13, 3) := by decide +kernel
theorem d_Ci_substituteAndMove_20 : decode c_Ci_substituteAndMove 20 = .ok (.iload_n 1, 1) := by decide +kernel
theorem d_Ci_substituteAndMove_21 : decode c_Ci_substituteAndMove 21 = .ok (.iconst 4, 1) := by decide +kernel
theorem d_Ci_substituteAndMove_22 : decode c_Ci_substituteAndMove 22 = .ok (.iload_n 1, 1) := by decide +kernel
theorem d_Ci_substituteAndMove_23 : decode c_Ci_substituteAndMove 23 = .ok (.iconst 4, 1) := by decide +kernel
theorem d_Ci_substituteAndMove_24 : decode c_Ci_substituteAndMove 24 = .ok (.irem, 1) := by decide +kernel
theorem d_Ci_substituteAndMove_25 : decode c_Ci_substituteAndMove 25 = .ok (.imul, 1) := by decide +kernel
theorem d_Ci_substituteAndMove_26 : decode c_Ci_substituteAndMove 26 = .ok (.iadd, 1) := by decide +kernel
theorem d_Ci_substituteAndMove_27 : decode c_Ci_substituteAndMove 27 = .ok (.bipush 16, 2) := by decide +kernel
theorem d_Ci_substituteAndMove_29 : decode c_Ci_substituteAndMove 29 = .ok (.irem, 1) := by decide +kernel
theorem d_Ci_substituteAndMove_30 : decode c_Ci_substituteAndMove 30 = .ok (.iaload, 1) := by decide +kernel
theorem d_Ci_substituteAndMove_31 : decode c_Ci_substituteAndMove 31 = .ok (.iaload, 1) := by decide +kernel
theorem d_Ci_substituteAndMove_32 : decode c_Ci_substituteAndMove 32 = .ok (.iastore, 1) := by decide +kernel
theorem d_Ci_substituteAndMove_33 : decode c_Ci_substituteAndMove 33 = .ok (.iinc 1 1, 3) := by decide +kernel
theorem d_Ci_substituteAndMove_36 : decode c_Ci_substituteAndMove 36 = .ok (.goto (-34), 3) := by decide +kernel
theorem d_Ci_substituteAndMove_39 : decode c_Ci_substituteAndMove 39 = .ok (.aload_n 0, 1) := by decide +kernel
theorem d_Ci_substituteAndMove_40 : decode c_Ci_substituteAndMove 40 = .ok (.getfield 16, 3) := by decide +kernel
theorem d_Ci_substituteAndMove_43 : decode c_Ci_substituteAndMove 43 = .ok (.iconst 0, 1) := by decide +kernel
theorem d_Ci_substituteAndMove_44 : decode c_Ci_substituteAndMove 44 = .ok (.aload_n 0, 1) := by decide +kernel
theorem d_Ci_substituteAndMove_45 : decode c_Ci_substituteAndMove 45 = .ok (.getfield 13, 3) := by decide +kernel
theorem d_Ci_substituteAndMove_48 : decode c_Ci_substituteAndMove 48 = .ok (.iconst 0, 1) := by decide +kernel
theorem d_Ci_substituteAndMove_49 : decode c_Ci_substituteAndMove 49 = .ok (.bipush 16, 2) := by decide +kernel
theorem d_Ci_substituteAndMove_51 : decode c_Ci_substituteAndMove 51 = .ok (.invokestatic 19, 3) := by decide +kernel
theorem d_Ci_substituteAndMove_54 : decode c_Ci_substituteAndMove 54 = .ok (.return_, 1) := by decide +kernel
theorem d_Ci_mixColumns_0 : decode c_Ci_mixColumns 0 = .ok (.iconst 0, 1) := by decide +kernel
theorem d_Ci_mixColumns_1 : decode c_Ci_mixColumns 1 = .ok (.istore_n 1, 1) := by decide +kernel
theorem d_Ci_mixColumns_2 : decode c_Ci_mixColumns 2 = .ok (.iload_n 1, 1) := by decide +kernel
theorem d_Ci_mixColumns_3 : decode c_Ci_mixColumns 3 = .ok (.bipush 16, 2) := by decide +kernel
theorem d_Ci_mixColumns_5 : decode c_Ci_mixColumns 5 = .ok (.if_icmp .ge 136, 3) := by decide +kernel
theorem d_Ci_mixColumns_8 : decode c_Ci_mixColumns 8 = .ok (.aload_n 0, 1) := by decide +kernel
theorem d_Ci_mixColumns_9 : decode c_Ci_mixColumns 9 = .ok (.getfield 13, 3) := by decide +kernel
theorem d_Ci_mixColumns_12 : decode c_Ci_mixColumns 12 = .ok (.iload_n 1, 1) := by decide +kernel
theorem d_Ci_mixColumns_13 : decode c_Ci_mixColumns 13 = .ok (.iaload, 1) := by decide +kernel
theorem d_Ci_mixColumns_14 : decode c_Ci_mixColumns 14 = .ok (.istore_n 2, 1) := by decide +kernel
theorem d_Ci_mixColumns_15 : decode c_Ci_mixColumns 15 = .ok (.aload_n 0, 1) := by decide +kernel
theorem d_Ci_mixColumns_16 : decode c_Ci_mixColumns 16 = .ok (.getfield 13, 3) := by decide +kernel
theorem d_Ci_mixColumns_19 : decode c_Ci_mixColumns 19 = .ok (.iload_n 1, 1) := by decide +kernel
theorem d_Ci_mixColumns_20 : decode c_Ci_mixColumns 20 = .ok (.iconst 1, 1) := by decide +kernel
theorem d_Ci_mixColumns_21 : decode c_Ci_mixColumns 21 = .ok (.iadd, 1) := by decide +kernel
theorem d_Ci_mixColumns_22 : decode c_Ci_mixColumns 22 = .ok (.iaload, 1) := by decide +kernel
theorem d_Ci_mixColumns_23 : decode c_Ci_mixColumns 23 = .ok (.istore_n 3, 1) := by decide +kernel
theorem d_Ci_mixColumns_24 : decode c_Ci_mixColumns 24 = .ok (.aload_n 0, 1) := by decide +kernel
theorem d_Ci_mixColumns_25 : decode c_Ci_mixColumns 25 = .ok (.getfield 13, 3) := by decide +kernel
theorem d_Ci_mixColumns_28 : decode c_Ci_mixColumns 28 = .ok (.iload_n 1, 1) := by decide +kernel
theorem d_Ci_mixColumns_29 : decode c_Ci_mixColumns 29 = .ok (.iconst 2, 1) := by decide +kernel
theorem d_Ci_mixColumns_30 : decode c_Ci_mixColumns 30 = .ok (.iadd, 1) := by decide +kernel
theorem d_Ci_mixColumns_31 : decode c_Ci_mixColumns 31 = .ok (.iaload, 1) := by decide +kernel
theorem d_Ci_mixColumns_32 : decode c_Ci_mixColumns 32 = .ok (.istore 4, 2) := by decide +kernel
theorem d_Ci_mixColumns_34 : decode c_Ci_mixColumns 34 = .ok (.aload_n 0, 1) := by decide +kernel
theorem d_Ci_mixColumns_35 : decode c_Ci_mixColumns 35 = .ok (.getfield 13, 3) := by decide +kernel
theorem d_Ci_mixColumns_38 : decode c_Ci_mixColumns 38 = .ok (.iload_n 1, 1) := by decide +kernel
theorem d_Ci_mixColumns_39 : decode c_Ci_mixColumns 39 = .ok (.iconst 3, 1) := by decide +kernel
theorem d_Ci_mixColumns_40 : decode c_Ci_mixColumns 40 = .ok (.iadd, 1) := by decide +kernel
theorem d_Ci_mixColumns_41 : decode c_Ci_mixColumns 41 = .ok (.iaload, 1) := by decide +kernel
theorem d_Ci_mixColumns_42 : decode c_Ci_mixColumns 42 = .ok (.istore 5, 2) := by decide +kernel
theorem d_Ci_mixColumns_44 : decode c_Ci_mixColumns 44 = .ok (.iload_n 2, 1) := by decide +kernel
theorem d_Ci_mixColumns_45 : decode c_Ci_mixColumns 45 = .ok (.iload_n 3, 1) := by decide +kernel
theorem d_Ci_mixColumns_46 : decode c_Ci_mixColumns 46 = .ok (.ixor, 1) := by decide +kernel
theorem d_Ci_mixColumns_47 : decode c_Ci_mixColumns 47 = .ok (.iload 4, 2) := by decide +kernel
theorem d_Ci_mixColumns_49 : decode c_Ci_mixColumns 49 = .ok (.ixor, 1) := by decide +kernel
theorem d_Ci_mixColumns_50 : decode c_Ci_mixColumns 50 = .ok (.iload 5, 2) := by decide +kernel
theorem d_Ci_mixColumns_52 : decode c_Ci_mixColumns 52 = .ok (.ixor, 1) := by decide +kernel
theorem d_Ci_mixColumns_53 : decode c_Ci_mixColumns 53 = .ok (.istore 6, 2) := by decide +kernel
theorem d_Ci_mixColumns_55 : decode c_Ci_mixColumns 55 = .ok (.aload_n 0, 1) := by decide +kernel
theorem d_Ci_mixColumns_56 : decode c_Ci_mixColumns 56 = .ok (.getfield 13, 3) := by decide +kernel
theorem d_Ci_mixColumns_59 : decode c_Ci_mixColumns 59 = .ok (.iload_n 1, 1) := by decide +kernel
theorem d_Ci_mixColumns_60 : decode c_Ci_mixColumns 60 = .ok (.iload_n 2, 1) := by decide +kernel
theorem d_Ci_mixColumns_61 : decode c_Ci_mixColumns 61 = .ok (.iload 6, 2) := by decide +kernel
theorem d_Ci_mixColumns_63 : decode c_Ci_mixColumns 63 = .ok (.ixor, 1) := by decide +kernel
theorem d_Ci_mixColumns_64 : decode c_Ci_mixColumns 64 = .ok (.iload_n 2, 1) := by decide +kernel
theorem d_Ci_mixColumns_65 : decode c_Ci_mixColumns 65 = .ok (.iload_n 3, 1) := by decide +kernel
theorem d_Ci_mixColumns_66 : decode c_Ci_mixColumns 66 = .ok (.ixor, 1) := by decide +kernel
theorem d_Ci_mixColumns_67 : decode c_Ci_mixColumns 67 = .ok (.invokestatic 29, 3) := by decide +kernel
theorem d_Ci_mixColumns_70 : decode c_Ci_mixColumns 70 = .ok (.ixor, 1) := by decide +kernel
theorem d_Ci_mixColumns_71 : decode c_Ci_mixColumns 71 = .ok (.iastore, 1) := by decide +kernel
theorem d_Ci_mixColumns_72 : decode c_Ci_mixColumns 72 = .ok (.aload_n 0, 1) := by decide +kernel
theorem d_Ci_mixColumns_73 : decode c_Ci_mixColumns 73 = .ok (.getfield 13, 3) := by decide +kernel
theorem d_Ci_mixColumns_76 : decode c_Ci_mixColumns 76 = .ok (.iload_n 1, 1) := by decide +kernel
theorem d_Ci_mixColumns_77 : decode c_Ci_mixColumns 77 = .ok (.iconst 1, 1) := by decide +kernel
theorem d_Ci_mixColumns_78 : decode c_Ci_mixColumns 78 = .ok (.iadd, 1) := by decide +kernel
theorem d_Ci_mixColumns_79 : decode c_Ci_mixColumns 79 = .ok (.iload_n 3, 1) := by decide +kernel
theorem d_Ci_mixColumns_80 : decode c_Ci_mixColumns 80 = .ok (.iload 6, 2) := by decide +kernel
theorem d_Ci_mixColumns_82 : decode c_Ci_mixColumns 82 = .ok (.ixor, 1) := by decide +kernel
theorem d_Ci_mixColumns_83 : decode c_Ci_mixColumns 83 = .ok (.iload_n 3, 1) := by decide +kernel
theorem d_Ci_mixColumns_84 : decode c_Ci_mixColumns 84 = .ok (.iload 4, 2) := by decide +kernel
theorem d_Ci_mixColumns_86 : decode c_Ci_mixColumns 86 = .ok (.ixor, 1) := by decide +kernel
theorem d_Ci_mixColumns_87 : decode c_Ci_mixColumns 87 = .ok (.invokestatic 29, 3) := by decide +kernel
theorem d_Ci_mixColumns_90 : decode c_Ci_mixColumns 90 = .ok (.ixor, 1) := by decide +kernel
theorem d_Ci_mixColumns_91 : decode c_Ci_mixColumns 91 = .ok (.iastore, 1) := by decide +kernel
theorem d_Ci_mixColumns_92 : decode c_Ci_mixColumns 92 = .ok (.aload_n 0, 1) := by decide +kernel
theorem d_Ci_mixColumns_93 : decode c_Ci_mixColumns 93 = .ok (.getfield 13, 3) := by decide +kernel
theorem d_Ci_mixColumns_96 : decode c_Ci_mixColumns 96 = .ok (.iload_n 1, 1) := by decide +kernel
theorem d_Ci_mixColumns_97 : decode c_Ci_mixColumns 97 = .ok (.iconst 2, 1) := by decide +kernel
theorem d_Ci_mixColumns_98 : decode c_Ci_mixColumns 98 = .ok (.iadd, 1) := by decide +kernel
theorem d_Ci_mixColumns_99 : decode c_Ci_mixColumns 99 = .ok (.iload 4, 2) := by decide +kernel
theorem d_Ci_mixColumns_101 : decode c_Ci_mixColumns 101 = .ok (.iload 6, 2) := by decide +kernel
theorem d_Ci_mixColumns_103 : decode c_Ci_mixColumns 103 = .ok (.ixor, 1) := by decide +kernel
theorem d_Ci_mixColumns_104 : decode c_Ci_mixColumns 104 = .ok (.iload 4, 2) := by decide +kernel
theorem d_Ci_mixColumns_106 : decode c_Ci_mixColumns 106 = .ok (.iload 5, 2) := by decide +kernel
theorem d_Ci_mixColumns_108 : decode c_Ci_mixColumns 108 = .ok (.ixor, 1) := by decide +kernel
theorem d_Ci_mixColumns_109 : decode c_Ci_mixColumns 109 = .ok (.invokestatic 29, 3) := by decide +kernel
theorem d_Ci_mixColumns_112 : decode c_Ci_mixColumns 112 = .ok (.ixor, 1) := by decide +kernel
theorem d_Ci_mixColumns_113 : decode c_Ci_mixColumns 113 = .ok (.iastore, 1) := by decide +kernel
theorem d_Ci_mixColumns_114 : decode c_Ci_mixColumns 114 = .ok (.aload_n 0, 1) := by decide +kernel
theorem d_Ci_mixColumns_115 : decode c_Ci_mixColumns 115 = .ok (.getfield 13, 3) := by decide +kernel
theorem d_Ci_mixColumns_118 : decode c_Ci_mixColumns 118 = .ok (.iload_n 1, 1) := by decide +kernel
theorem d_Ci_mixColumns_119 : decode c_Ci_mixColumns 119 = .ok (.iconst 3, 1) := by decide +kernel
theorem d_Ci_mixColumns_120 : decode c_Ci_mixColumns 120 = .ok (.iadd, 1) := by decide +kernel
theorem d_Ci_mixColumns_121 : decode c_Ci_mixColumns 121 = .ok (.iload 5, 2) := by decide +kernel
theorem d_Ci_mixColumns_123 : decode c_Ci_mixColumns 123 = .ok (.iload 6, 2) := by decide +kernel
theorem d_Ci_mixColumns_125 : decode c_Ci_mixColumns 125 = .ok (.ixor, 1) := by decide +kernel
theorem d_Ci_mixColumns_126 : decode c_Ci_mixColumns 126 = .ok (.iload 5, 2) := by decide +kernel
theorem d_Ci_mixColumns_128 : decode c_Ci_mixColumns 128 = .ok (.iload_n 2, 1) := by decide +kernel
theorem d_Ci_mixColumns_129 : decode c_Ci_mixColumns 129 = .ok (.ixor, 1) := by decide +kernel
theorem d_Ci_mixColumns_130 : decode c_Ci_mixColumns 130 = .ok (.invokestatic 29, 3) := by decide +kernel
theorem d_Ci_mixColumns_133 : decode c_Ci_mixColumns 133 = .ok (.ixor, 1) := by decide +kernel
theorem d_Ci_mixColumns_134 : decode c_Ci_mixColumns 134 = .ok (.iastore, 1) := by decide +kernel
theorem d_Ci_mixColumns_135 : decode c_Ci_mixColumns 135 = .ok (.iinc 1 4, 3) := by decide +kernel
theorem d_Ci_mixColumns_138 : decode c_Ci_mixColumns 138 = .ok (.goto (-136), 3) := by decide +kernel
theorem d_Ci_mixColumns_141 : decode c_Ci_mixColumns 141 = .ok (.return_, 1) := by decide +kernel
theorem d_Ci_timesX_0 : decode c_Ci_timesX 0 = .ok (.iload_n 0, 1) := by decide +kernel
theorem d_Ci_timesX_1 : decode c_Ci_timesX 1 = .ok (.sipush 128, 3) := by decide +kernel
theorem d_Ci_timesX_4 : decode c_Ci_timesX 4 = .ok (.if_icmp .ge 9, 3) := by decide +kernel
theorem d_Ci_timesX_7 : decode c_Ci_timesX 7 = .ok (.iload_n 0, 1) := by decide +kernel
theorem d_Ci_timesX_8 : decode c_Ci_timesX 8 = .ok (.iconst 1, 1) := by decide +kernel
theorem d_Ci_timesX_9 : decode c_Ci_timesX 9 = .ok (.ishl, 1) := by decide +kernel
theorem d_Ci_timesX_10 : decode c_Ci_timesX 10 = .ok (.goto 10, 3) := by decide +kernel
theorem d_Ci_timesX_13 : decode c_Ci_timesX 13 = .ok (.iload_n 0, 1) := by decide +kernel
theorem d_Ci_timesX_14 : decode c_Ci_timesX 14 = .ok (.iconst 1, 1) := by decide +kernel
theorem d_Ci_timesX_15 : decode c_Ci_timesX 15 = .ok (.ishl, 1) := by decide +kernel
theorem d_Ci_timesX_16 : decode c_Ci_timesX 16 = .ok (.sipush 283, 3) := by decide +kernel
theorem d_Ci_timesX_19 : decode c_Ci_timesX 19 = .ok (.ixor, 1) := by decide +kernel
theorem d_Ci_timesX_20 : decode c_Ci_timesX 20 = .ok (.ireturn, 1) := by decide +kernel
theorem d_Dg_new_0 : decode c_Dg_new 0 = .ok (.aload_n 0, 1) := by decide +kernel
theorem d_Dg_new_1 : decode c_Dg_new 1 = .ok (.invokespecial 1, 3) := by decide +kernel
theorem d_Dg_new_4 : decode c_Dg_new 4 = .ok (.aload_n 0, 1) := by decide +kernel
theorem d_Dg_new_5 : decode c_Dg_new 5 = .ok (.getstatic 7, 3) := by decide +kernel
theorem d_Dg_new_8 : decode c_Dg_new 8 = .ok (.arraylength, 1) := by decide +kernel
theorem d_Dg_new_9 : decode c_Dg_new 9 = .ok (.newarray .int, 2) := by decide +kernel
theorem d_Dg_new_11 : decode c_Dg_new 11 = .ok (.putfield 13, 3) := by decide +kernel
theorem d_Dg_new_14 : decode c_Dg_new 14 = .ok (.aload_n 0, 1) := by decide +kernel
theorem d_Dg_new_15 : decode c_Dg_new 15 = .ok (.bipush 64, 2) := by decide +kernel
theorem d_Dg_new_17 : decode c_Dg_new 17 = .ok (.newarray .int, 2) := by decide +kernel
theorem d_Dg_new_19 : decode c_Dg_new 19 = .ok (.putfield 16, 3) := by decide +kernel
theorem d_Dg_new_22 : decode c_Dg_new 22 = .ok (.aload_n 0, 1) := by decide +kernel
theorem d_Dg_new_23 : decode c_Dg_new 23 = .ok (.bipush 32, 2) := by decide +kernel
theorem d_Dg_new_25 : decode c_Dg_new 25 = .ok (.newarray .int, 2) := by decide +kernel
theorem d_Dg_new_27 : decode c_Dg_new 27 = .ok (.putfield 19, 3) := by decide +kernel
theorem d_Dg_new_30 : decode c_Dg_new 30 = .ok (.return_, 1) := by decide +kernel
theorem d_Dg_twice_0 : decode c_Dg_twice 0 = .ok (.aload_n 0, 1) := by decide +kernel
theorem d_Dg_twice_1 : decode c_Dg_twice 1 = .ok (.aload_n 1, 1) := by decide +kernel
theorem d_Dg_twice_2 : decode c_Dg_twice 2 = .ok (.iload_n 2, 1) := by decide +kernel
theorem d_Dg_twice_3 : decode c_Dg_twice 3 = .ok (.invokevirtual 22, 3) := by decide +kernel
theorem d_Dg_twice_6 : decode c_Dg_twice 6 = .ok (.aload_n 0, 1) := by decide +kernel
theorem d_Dg_twice_7 : decode c_Dg_twice 7 = .ok (.aload_n 0, 1) := by decide +kernel
theorem d_Dg_twice_8 : decode c_Dg_twice 8 = .ok (.getfield 19, 3) := by decide +kernel
theorem d_Dg_twice_11 : decode c_Dg_twice 11 = .ok (.iconst 0, 1) := by decide +kernel
theorem d_Dg_twice_12 : decode c_Dg_twice 12 = .ok (.invokevirtual 26, 3) := by decide +kernel
theorem d_Dg_twice_15 : decode c_Dg_twice 15 = .ok (.aload_n 0, 1) := by decide +kernel
theorem d_Dg_twice_16 : decode c_Dg_twice 16 = .ok (.aload_n 0, 1) := by decide +kernel
theorem d_Dg_twice_17 : decode c_Dg_twice 17 = .ok (.getfield 19, 3) := by decide +kernel
theorem d_Dg_twice_20 : decode c_Dg_twice 20 = .ok (.bipush 32, 2) := by decide +kernel
theorem d_Dg_twice_22 : decode c_Dg_twice 22 = .ok (.invokevirtual 22, 3) := by decide +kernel
theorem d_Dg_twice_25 : decode c_Dg_twice 25 = .ok (.aload_n 0, 1) := by decide +kernel
theorem d_Dg_twice_26 : decode c_Dg_twice 26 = .ok (.aload_n 3, 1) := by decide +kernel
theorem d_Dg_twice_27 : decode c_Dg_twice 27 = .ok (.iload 4, 2) := by decide +kernel
theorem d_Dg_twice_29 : decode c_Dg_twice 29 = .ok (.invokevirtual 26, 3) := by decide +kernel
theorem d_Dg_twice_32 : decode c_Dg_twice 32 = .ok (.return_, 1) := by decide +kernel
theorem d_Dg_digest_0 : decode c_Dg_digest 0 = .ok (.getstatic 7, 3) := by decide +kernel
theorem d_Dg_digest_3 : decode c_Dg_digest 3 = .ok (.iconst 0, 1) := by decide +kernel
theorem d_Dg_digest_4 : decode c_Dg_digest 4 = .ok (.aload_n 0, 1) := by decide +kernel
theorem d_Dg_digest_5 : decode c_Dg_digest 5 = .ok (.getfield 13, 3) := by decide +kernel
theorem d_Dg_digest_8 : decode c_Dg_digest 8 = .ok (.iconst 0, 1) := by decide +kernel
theorem d_Dg_digest_9 : decode c_Dg_digest 9 = .ok (.getstatic 7, 3) := by decide +kernel
theorem d_Dg_digest_12 : decode c_Dg_digest 12 = .ok (.arraylength, 1) := by decide +kernel
theorem d_Dg_digest_13 : decode c_Dg_digest 13 = .ok (.invokestatic 29, 3) := by decide +kernel
theorem d_Dg_digest_16 : decode c_Dg_digest 16 = .ok (.iload_n 2, 1) := by decide +kernel
theorem d_Dg_digest_17 : decode c_Dg_digest 17 = .ok (.bipush 8, 2) := by decide +kernel
theorem d_Dg_digest_19 : decode c_Dg_digest 19 = .ok (.iadd, 1) := by decide +kernel
theorem d_Dg_digest_20 : decode c_Dg_digest 20 = .ok (.bipush 64, 2) := by decide +kernel
theorem d_Dg_digest_22 : decode c_Dg_digest 22 = .ok (.idiv, 1) := by decide +kernel
theorem d_Dg_digest_23 : decode c_Dg_digest 23 = .ok (.iconst 1, 1) := by decide +kernel
theorem d_Dg_digest_24 : decode c_Dg_digest 24 = .ok (.iadd, 1) := by decide +kernel
theorem d_Dg_digest_25 : decode c_Dg_digest 25 = .ok (.bipush 64, 2) := by decide +kernel
theorem d_Dg_digest_27 : decode c_Dg_digest 27 = .ok (.imul, 1) := by decide +kernel
theorem d_Dg_digest_28 : decode c_Dg_digest 28 = .ok (.istore_n 3, 1) := by decide +kernel
theorem d_Dg_digest_29 : decode c_Dg_digest 29 = .ok (.iconst 0, 1) := by decide +kernel
theorem d_Dg_digest_30 : decode c_Dg_digest 30 = .ok (.istore 4, 2) := by decide +kernel
theorem d_Dg_digest_32 : decode c_Dg_digest 32 = .ok (.iload 4, 2) := by decide +kernel
theorem d_Dg_digest_34 : decode c_Dg_digest 34 = .ok (.iload_n 3, 1) := by decide +kernel
theorem d_Dg_digest_35 : decode c_Dg_digest 35 = .ok (.if_icmp .ge 26, 3) := by decide +kernel
theorem d_Dg_digest_38 : decode c_Dg_digest 38 = .ok (.aload_n 0, 1) := by decide +kernel
theorem d_Dg_digest_39 : decode c_Dg_digest 39 = .ok (.aload_n 1, 1) := by decide +kernel
theorem d_Dg_digest_40 : decode c_Dg_digest 40 = .ok (.iload_n 2, 1) := by decide +kernel
theorem d_Dg_digest_41 : decode c_Dg_digest 41 = .ok (.iload 4, 2) := by decide +kernel
theorem d_Dg_digest_43 : decode c_Dg_digest 43 = .ok (.iload_n 3, 1) := by decide +kernel
theorem d_Dg_digest_44 : decode c_Dg_digest 44 = .ok (.invokevirtual 35, 3) := by decide +kernel
theorem d_Dg_digest_47 : decode c_Dg_digest 47 = .ok (.aload_n 0, 1) := by decide +kernel
theorem d_Dg_digest_48 : decode c_Dg_digest 48 = .ok (.invokevirtual 39, 3) := by decide +kernel
theorem d_Dg_digest_51 : decode c_Dg_digest 51 = .ok (.aload_n 0, 1) := by decide +kernel
theorem d_Dg_digest_52 : decode c_Dg_digest 52 = .ok (.invokevirtual 42, 3) := by decide +kernel
theorem d_Dg_digest_55 : decode c_Dg_digest 55 = .ok (.iinc 4 64, 3) := by decide +kernel
theorem d_Dg_digest_58 : decode c_Dg_digest 58 = .ok (.goto (-26), 3) := by decide +kernel
theorem d_Dg_digest_61 : decode c_Dg_digest 61 = .ok (.return_, 1) := by decide +kernel
theorem d_Dg_takeWords_0 : decode c_Dg_takeWords 0 = .ok (.iconst 0, 1) := by decide +kernel
theorem d_Dg_takeWords_1 : decode c_Dg_takeWords 1 = .ok (.istore 5, 2) := by decide +kernel
theorem d_Dg_takeWords_3 : decode c_Dg_takeWords 3 = .ok (.iload 5, 2) := by decide +kernel
theorem d_Dg_takeWords_5 : decode c_Dg_takeWords 5 = .ok (.bipush 16, 2) := by decide +kernel
theorem d_Dg_takeWords_7 : decode c_Dg_takeWords 7 = .ok (.if_icmp .ge 60, 3) := by decide +kernel
theorem d_Dg_takeWords_10 : decode c_Dg_takeWords 10 = .ok (.iconst 0, 1) := by decide +kernel
theorem d_Dg_takeWords_11 : decode c_Dg_takeWords 11 = .ok (.istore 6, 2) := by decide +kernel
theorem d_Dg_takeWords_13 : decode c_Dg_takeWords 13 = .ok (.iconst 0, 1) := by decide +kernel
theorem d_Dg_takeWords_14 : decode c_Dg_takeWords 14 = .ok (.istore 7, 2) := by decide +kernel
theorem d_Dg_takeWords_16 : decode c_Dg_takeWords 16 = .ok (.iload 7, 2) := by decide +kernel
theorem d_Dg_takeWords_18 : decode c_Dg_takeWords 18 = .ok (.iconst 4, 1) := by decide +kernel
theorem d_Dg_takeWords_19 : decode c_Dg_takeWords 19 = .ok (.if_icmp .ge 33, 3) := by decide +kernel
theorem d_Dg_takeWords_22 : decode c_Dg_takeWords 22 = .ok (.iload 6, 2) := by decide +kernel
theorem d_Dg_takeWords_24 : decode c_Dg_takeWords 24 = .ok (.bipush 8, 2) := by decide +kernel
theorem d_Dg_takeWords_26 : decode c_Dg_takeWords 26 = .ok (.ishl, 1) := by decide +kernel
theorem d_Dg_takeWords_27 : decode c_Dg_takeWords 27 = .ok (.aload_n 1, 1) := by decide +kernel
theorem d_Dg_takeWords_28 : decode c_Dg_takeWords 28 = .ok (.iload_n 2, 1) := by decide +kernel
theorem d_Dg_takeWords_29 : decode c_Dg_takeWords 29 = .ok (.iload_n 3, 1) := by decide +kernel
theorem d_Dg_takeWords_30 : decode c_Dg_takeWords 30 = .ok (.iconst 4, 1) := by decide +kernel
theorem d_Dg_takeWords_31 : decode c_Dg_takeWords 31 = .ok (.iload 5, 2) := by decide +kernel
theorem d_Dg_takeWords_33 : decode c_Dg_takeWords 33 = .ok (.imul, 1) := by decide +kernel
theorem d_Dg_takeWords_34 : decode c_Dg_takeWords 34 = .ok (.iadd, 1) := by decide +kernel
theorem d_Dg_takeWords_35 : decode c_Dg_takeWords 35 = .ok (.iload 7, 2) := by decide +kernel
theorem d_Dg_takeWords_37 : decode c_Dg_takeWords 37 = .ok (.iadd, 1) := by decide +kernel
theorem d_Dg_takeWords_38 : decode c_Dg_takeWords 38 = .ok (.iload 4, 2) := by decide +kernel
theorem d_Dg_takeWords_40 : decode c_Dg_takeWords 40 = .ok (.invokestatic 45, 3) := by decide +kernel
theorem d_Dg_takeWords_43 : decode c_Dg_takeWords 43 = .ok (.ior, 1) := by decide +kernel
theorem d_Dg_takeWords_44 : decode c_Dg_takeWords 44 = .ok (.istore 6, 2) := by decide +kernel
theorem d_Dg_takeWords_46 : decode c_Dg_takeWords 46 = .ok (.iinc 7 1, 3) := by decide +kernel
theorem d_Dg_takeWords_49 : decode c_Dg_takeWords 49 = .ok (.goto (-33), 3) := by decide +kernel
theorem d_Dg_takeWords_52 : decode c_Dg_takeWords 52 = .ok (.aload_n 0, 1) := by decide +kernel
theorem d_Dg_takeWords_53 : decode c_Dg_takeWords 53 = .ok (.getfield 16, 3) := by decide +kernel
theorem d_Dg_takeWords_56 : decode c_Dg_takeWords 56 = .ok (.iload 5, 2) := by decide +kernel
theorem d_Dg_takeWords_58 : decode c_Dg_takeWords 58 = .ok (.iload 6, 2) := by decide +kernel
theorem d_Dg_takeWords_60 : decode c_Dg_takeWords 60 = .ok (.iastore, 1) := by decide +kernel
theorem d_Dg_takeWords_61 : decode c_Dg_takeWords 61 = .ok (.iinc 5 1, 3) := by decide +kernel
theorem d_Dg_takeWords_64 : decode c_Dg_takeWords 64 = .ok (.goto (-61), 3) := by decide +kernel
theorem d_Dg_takeWords_67 : decode c_Dg_takeWords 67 = .ok (.return_, 1) := by decide +kernel
theorem d_Dg_filledByte_0 : decode c_Dg_filledByte 0 = .ok (.iload_n 2, 1) := by decide +kernel
theorem d_Dg_filledByte_1 : decode c_Dg_filledByte 1 = .ok (.iload_n 1, 1) := by decide +kernel
theorem d_Dg_filledByte_2 : decode c_Dg_filledByte 2 = .ok (.if_icmp .ge 7, 3) := by decide +kernel
theorem d_Dg_filledByte_5 : decode c_Dg_filledByte 5 = .ok (.aload_n 0, 1) := by decide +kernel
theorem d_Dg_filledByte_6 : decode c_Dg_filledByte 6 = .ok (.iload_n 2, 1) := by decide +kernel
theorem d_Dg_filledByte_7 : decode c_Dg_filledByte 7 = .ok (.iaload, 1) := by decide +kernel
theorem d_Dg_filledByte_8 : decode c_Dg_filledByte 8 = .ok (.ireturn, 1) := by decide +kernel
theorem d_Dg_filledByte_9 : decode c_Dg_filledByte 9 = .ok (.iload_n 2, 1) := by decide +kernel
theorem d_Dg_filledByte_10 : decode c_Dg_filledByte 10 = .ok (.iload_n 1, 1) := by decide +kernel
theorem d_Dg_filledByte_11 : decode c_Dg_filledByte 11 = .ok (.if_icmp .ne 7, 3) := by decide +kernel
theorem d_Dg_filledByte_14 : decode c_Dg_filledByte 14 = .ok (.sipush 128, 3) := by decide +kernel
theorem d_Dg_filledByte_17 : decode c_Dg_filledByte 17 = .ok (.ireturn, 1) := by decide +kernel
theorem d_Dg_filledByte_18 : decode c_Dg_filledByte 18 = .ok (.iload_n 2, 1) := by decide +kernel
theorem d_Dg_filledByte_19 : decode c_Dg_filledByte 19 = .ok (.iload_n 3, 1) := by decide +kernel
theorem d_Dg_filledByte_20 : decode c_Dg_filledByte 20 = .ok (.bipush 8, 2) := by decide +kernel
theorem d_Dg_filledByte_22 : decode c_Dg_filledByte 22 = .ok (.isub, 1) := by decide +kernel
theorem d_Dg_filledByte_23 : decode c_Dg_filledByte 23 = .ok (.if_icmp .ge 5, 3) := by decide +kernel
theorem d_Dg_filledByte_26 : decode c_Dg_filledByte 26 = .ok (.iconst 0, 1) := by decide +kernel
theorem d_Dg_filledByte_27 : decode c_Dg_filledByte 27 = .ok (.ireturn, 1) := by decide +kernel
theorem d_Dg_filledByte_28 : decode c_Dg_filledByte 28 = .ok (.ldc2_w 49, 3) := by decide +kernel
theorem d_Dg_filledByte_31 : decode c_Dg_filledByte 31 = .ok (.iload_n 1, 1) := by decide +kernel
theorem d_Dg_filledByte_32 : decode c_Dg_filledByte 32 = .ok (.i2l, 1) := by decide +kernel
theorem d_Dg_filledByte_33 : decode c_Dg_filledByte 33 = .ok (.lmul, 1) := by decide +kernel
theorem d_Dg_filledByte_34 : decode c_Dg_filledByte 34 = .ok (.lstore 4, 2) := by decide +kernel
theorem d_Dg_filledByte_36 : decode c_Dg_filledByte 36 = .ok (.lload 4, 2) := by decide +kernel
theorem d_Dg_filledByte_38 : decode c_Dg_filledByte 38 = .ok (.bipush 8, 2) := by decide +kernel
theorem d_Dg_filledByte_40 : decode c_Dg_filledByte 40 = .ok (.iload_n 3, 1) := by decide +kernel
theorem d_Dg_filledByte_41 : decode c_Dg_filledByte 41 = .ok (.iconst 1, 1) := by decide +kernel
theorem d_Dg_filledByte_42 : decode c_Dg_filledByte 42 = .ok (.isub, 1) := by decide +kernel
theorem d_Dg_filledByte_43 : decode c_Dg_filledByte 43 = .ok (.iload_n 2, 1) := by decide +kernel
theorem d_Dg_filledByte_44 : decode c_Dg_filledByte 44 = .ok (.isub, 1) := by decide +kernel
theorem d_Dg_filledByte_45 : decode c_Dg_filledByte 45 = .ok (.imul, 1) := by decide +kernel
theorem d_Dg_filledByte_46 : decode c_Dg_filledByte 46 = .ok (.lushr, 1) := by decide +kernel
theorem d_Dg_filledByte_47 : decode c_Dg_filledByte 47 = .ok (.l2i, 1) := by decide +kernel
theorem d_Dg_filledByte_48 : decode c_Dg_filledByte 48 = .ok (.sipush 255, 3) := by decide +kernel
theorem d_Dg_filledByte_51 : decode c_Dg_filledByte 51 = .ok (.iand, 1) := by decide +kernel
theorem d_Dg_filledByte_52 : decode c_Dg_filledByte 52 = .ok (.ireturn, 1) := by decide +kernel
theorem d_Dg_spreadWords_0 : decode c_Dg_spreadWords 0 = .ok (.bipush 16, 2) := by decide +kernel
theorem d_Dg_spreadWords_2 : decode c_Dg_spreadWords 2 = .ok (.istore_n 1, 1) := by decide +kernel
theorem d_Dg_spreadWords_3 : decode c_Dg_spreadWords 3 = .ok (.iload_n 1, 1) := by decide +kernel
theorem d_Dg_spreadWords_4 : decode c_Dg_spreadWords 4 = .ok (.bipush 64, 2) := by decide +kernel
theorem d_Dg_spreadWords_6 : decode c_Dg_spreadWords 6 = .ok (.if_icmp .ge 98, 3) := by decide +kernel
theorem d_Dg_spreadWords_9 : decode c_Dg_spreadWords 9 = .ok (.aload_n 0, 1) := by decide +kernel
theorem d_Dg_spreadWords_10 : decode c_Dg_spreadWords 10 = .ok (.getfield 16, 3) := by decide +kernel
theorem d_Dg_spreadWords_13 : decode c_Dg_spreadWords 13 = .ok (.iload_n 1, 1) := by decide +kernel
theorem d_Dg_spreadWords_14 : decode c_Dg_spreadWords 14 = .ok (.bipush 15, 2) := by decide +kernel
theorem d_Dg_spreadWords_16 : decode c_Dg_spreadWords 16 = .ok (.isub, 1) := by decide +kernel
theorem d_Dg_spreadWords_17 : decode c_Dg_spreadWords 17 = .ok (.iaload, 1) := by decide +kernel
theorem d_Dg_spreadWords_18 : decode c_Dg_spreadWords 18 = .ok (.istore_n 2, 1) := by decide +kernel
theorem d_Dg_spreadWords_19 : decode c_Dg_spreadWords 19 = .ok (.aload_n 0, 1) := by decide +kernel
theorem d_Dg_spreadWords_20 : decode c_Dg_spreadWords 20 = .ok (.getfield 16, 3) := by decide +kernel
theorem d_Dg_spreadWords_23 : decode c_Dg_spreadWords 23 = .ok (.iload_n 1, 1) := by decide +kernel
theorem d_Dg_spreadWords_24 : decode c_Dg_spreadWords 24 = .ok (.iconst 2, 1) := by decide +kernel
theorem d_Dg_spreadWords_25 : decode c_Dg_spreadWords 25 = .ok (.isub, 1) := by decide +kernel
theorem d_Dg_spreadWords_26 : decode c_Dg_spreadWords 26 = .ok (.iaload, 1) := by decide +kernel
theorem d_Dg_spreadWords_27 : decode c_Dg_spreadWords 27 = .ok (.istore_n 3, 1) := by decide +kernel
theorem d_Dg_spreadWords_28 : decode c_Dg_spreadWords 28 = .ok (.iload_n 2, 1) := by decide +kernel
theorem d_Dg_spreadWords_29 : decode c_Dg_spreadWords 29 = .ok (.bipush 7, 2) := by decide +kernel
theorem d_Dg_spreadWords_31 : decode c_Dg_spreadWords 31 = .ok (.invokestatic 51, 3) := by decide +kernel
theorem d_Dg_spreadWords_34 : decode c_Dg_spreadWords 34 = .ok (.iload_n 2, 1) := by decide +kernel
theorem d_Dg_spreadWords_35 : decode c_Dg_spreadWords 35 = .ok (.bipush 18, 2) := by decide +kernel
theorem d_Dg_spreadWords_37 : decode c_Dg_spreadWords 37 = .ok (.invokestatic 51, 3) := by decide +kernel
theorem d_Dg_spreadWords_40 : decode c_Dg_spreadWords 40 = .ok (.ixor, 1) := by decide +kernel
theorem d_Dg_spreadWords_41 : decode c_Dg_spreadWords 41 = .ok (.iload_n 2, 1) := by decide +kernel
theorem d_Dg_spreadWords_42 : decode c_Dg_spreadWords 42 = .ok (.iconst 3, 1) := by decide +kernel
theorem d_Dg_spreadWords_43 : decode c_Dg_spreadWords 43 = .ok (.iushr, 1) := by decide +kernel
theorem d_Dg_spreadWords_44 : decode c_Dg_spreadWords 44 = .ok (.ixor, 1) := by decide +kernel
theorem d_Dg_spreadWords_45 : decode c_Dg_spreadWords 45 = .ok (.istore 4, 2) := by decide +kernel
theorem d_Dg_spreadWords_47 : decode c_Dg_spreadWords 47 = .ok (.iload_n 3, 1) := by decide +kernel
theorem d_Dg_spreadWords_48 : decode c_Dg_spreadWords 48 = .ok (.bipush 17, 2) := by decide +kernel
theorem d_Dg_spreadWords_50 : decode c_Dg_spreadWords 50 = .ok (.invokestatic 51, 3) := by decide +kernel
theorem d_Dg_spreadWords_53 : decode c_Dg_spreadWords 53 = .ok (.iload_n 3, 1) := by decide +kernel
theorem d_Dg_spreadWords_54 : decode c_Dg_spreadWords 54 = .ok (.bipush 19, 2) := by decide +kernel
theorem d_Dg_spreadWords_56 : decode c_Dg_spreadWords 56 = .ok (.invokestatic 51, 3) := by decide +kernel
theorem d_Dg_spreadWords_59 : decode c_Dg_spreadWords 59 = .ok (.ixor, 1) := by decide +kernel
theorem d_Dg_spreadWords_60 : decode c_Dg_spreadWords 60 = .ok (.iload_n 3, 1) := by decide +kernel
theorem d_Dg_spreadWords_61 : decode c_Dg_spreadWords 61 = .ok (.bipush 10, 2) := by decide +kernel
theorem d_Dg_spreadWords_63 : decode c_Dg_spreadWords 63 = .ok (.iushr, 1) := by decide +kernel
theorem d_Dg_spreadWords_64 : decode c_Dg_spreadWords 64 = .ok (.ixor, 1) := by decide +kernel
theorem d_Dg_spreadWords_65 : decode c_Dg_spreadWords 65 = .ok (.istore 5, 2) := by decide +kernel
theorem d_Dg_spreadWords_67 : decode c_Dg_spreadWords 67 = .ok (.aload_n 0, 1) := by decide +kernel
theorem d_Dg_spreadWords_68 : decode c_Dg_spreadWords 68 = .ok (.getfield 16, 3) := by decide +kernel
theorem d_Dg_spreadWords_71 : decode c_Dg_spreadWords 71 = .ok (.iload_n 1, 1) := by decide +kernel
theorem d_Dg_spreadWords_72 : decode c_Dg_spreadWords 72 = .ok (.aload_n 0, 1) := by decide +kernel
theorem d_Dg_spreadWords_73 : decode c_Dg_spreadWords 73 = .ok (.getfield 16, 3) := by decide +kernel
theorem d_Dg_spreadWords_76 : decode c_Dg_spreadWords 76 = .ok (.iload_n 1, 1) := by decide +kernel
theorem d_Dg_spreadWords_77 : decode c_Dg_spreadWords 77 = .ok (.bipush 16, 2) := by decide +kernel
theorem d_Dg_spreadWords_79 : decode c_Dg_spreadWords 79 = .ok (.isub, 1) := by decide +kernel
theorem d_Dg_spreadWords_80 : decode c_Dg_spreadWords 80 = .ok (.iaload, 1) := by decide +kernel
theorem d_Dg_spreadWords_81 : decode c_Dg_spreadWords 81 = .ok (.iload 4, 2) := by decide +kernel
theorem d_Dg_spreadWords_83 : decode c_Dg_spreadWords 83 = .ok (.iadd, 1) := by decide +kernel
theorem d_Dg_spreadWords_84 : decode c_Dg_spreadWords 84 = .ok (.aload_n 0, 1) := by decide +kernel
theorem d_Dg_spreadWords_85 : decode c_Dg_spreadWords 85 = .ok (.getfield 16, 3) := by decide +kernel
theorem d_Dg_spreadWords_88 : decode c_Dg_spreadWords 88 = .ok (.iload_n 1, 1) := by decide +kernel
theorem d_Dg_spreadWords_89 : decode c_Dg_spreadWords 89 = .ok (.bipush 7, 2) := by decide +kernel
theorem d_Dg_spreadWords_91 : decode c_Dg_spreadWords 91 = .ok (.isub, 1) := by decide +kernel
theorem d_Dg_spreadWords_92 : decode c_Dg_spreadWords 92 = .ok (.iaload, 1) := by decide +kernel
theorem d_Dg_spreadWords_93 : decode c_Dg_spreadWords 93 = .ok (.iadd, 1) := by decide +kernel
theorem d_Dg_spreadWords_94 : decode c_Dg_spreadWords 94 = .ok (.iload 5, 2) := by decide +kernel
theorem d_Dg_spreadWords_96 : decode c_Dg_spreadWords 96 = .ok (.iadd, 1) := by decide +kernel
theorem d_Dg_spreadWords_97 : decode c_Dg_spreadWords 97 = .ok (.iastore, 1) := by decide +kernel
theorem d_Dg_spreadWords_98 : decode c_Dg_spreadWords 98 = .ok (.iinc 1 1, 3) := by decide +kernel
theorem d_Dg_spreadWords_101 : decode c_Dg_spreadWords 101 = .ok (.goto (-98), 3) := by decide +kernel
theorem d_Dg_spreadWords_104 : decode c_Dg_spreadWords 104 = .ok (.return_, 1) := by decide +kernel
theorem d_Dg_mixWords_0 : decode c_Dg_mixWords 0 = .ok (.aload_n 0, 1) := by decide +kernel
theorem d_Dg_mixWords_1 : decode c_Dg_mixWords 1 = .ok (.getfield 13, 3) := by decide +kernel
theorem d_Dg_mixWords_4 : decode c_Dg_mixWords 4 = .ok (.iconst 0, 1) := by decide +kernel
theorem d_Dg_mixWords_5 : decode c_Dg_mixWords 5 = .ok (.iaload, 1) := by decide +kernel
theorem d_Dg_mixWords_6 : decode c_Dg_mixWords 6 = .ok (.istore_n 1, 1) := by decide +kernel
theorem d_Dg_mixWords_7 : decode c_Dg_mixWords 7 = .ok (.aload_n 0, 1) := by decide +kernel
theorem d_Dg_mixWords_8 : decode c_Dg_mixWords 8 = .ok (.getfield 13, 3) := by decide +kernel
theorem d_Dg_mixWords_11 : decode c_Dg_mixWords 11 = .ok (.iconst 1, 1) := by decide +kernel
theorem d_Dg_mixWords_12 : decode c_Dg_mixWords 12 = .ok (.iaload, 1) := by decide +kernel
theorem d_Dg_mixWords_13 : decode c_Dg_mixWords 13 = .ok (.istore_n 2, 1) := by decide +kernel
theorem d_Dg_mixWords_14 : decode c_Dg_mixWords 14 = .ok (.aload_n 0, 1) := by decide +kernel
theorem d_Dg_mixWords_15 : decode c_Dg_mixWords 15 = .ok (.getfield 13, 3) := by decide +kernel
theorem d_Dg_mixWords_18 : decode c_Dg_mixWords 18 = .ok (.iconst 2, 1) := by decide +kernel
theorem d_Dg_mixWords_19 : decode c_Dg_mixWords 19 = .ok (.iaload, 1) := by decide +kernel
theorem d_Dg_mixWords_20 : decode c_Dg_mixWords 20 = .ok (.istore_n 3, 1) := by decide +kernel
theorem d_Dg_mixWords_21 : decode c_Dg_mixWords 21 = .ok (.aload_n 0, 1) := by decide +kernel
theorem d_Dg_mixWords_22 : decode c_Dg_mixWords 22 = .ok (.getfield 13, 3) := by decide +kernel
theorem d_Dg_mixWords_25 : decode c_Dg_mixWords 25 = .ok (.iconst 3, 1) := by decide +kernel
theorem d_Dg_mixWords_26 : decode c_Dg_mixWords 26 = .ok (.iaload, 1) := by decide +kernel
theorem d_Dg_mixWords_27 : decode c_Dg_mixWords 27 = .ok (.istore 4, 2) := by decide +kernel
theorem d_Dg_mixWords_29 : decode c_Dg_mixWords 29 = .ok (.aload_n 0, 1) := by decide +kernel
theorem d_Dg_mixWords_30 : decode c_Dg_mixWords 30 = .ok (.getfield 13, 3) := by decide +kernel
theorem d_Dg_mixWords_33 : decode c_Dg_mixWords 33 = .ok (.iconst 4, 1) := by decide +kernel
theorem d_Dg_mixWords_34 : decode c_Dg_mixWords 34 = .ok (.iaload, 1) := by decide +kernel
theorem d_Dg_mixWords_35 : decode c_Dg_mixWords 35 = .ok (.istore 5, 2) := by decide +kernel
theorem d_Dg_mixWords_37 : decode c_Dg_mixWords 37 = .ok (.aload_n 0, 1) := by decide +kernel
theorem d_Dg_mixWords_38 : decode c_Dg_mixWords 38 = .ok (.getfield 13, 3) := by decide +kernel
theorem d_Dg_mixWords_41 : decode c_Dg_mixWords 41 = .ok (.iconst 5, 1) := by decide +kernel
theorem d_Dg_mixWords_42 : decode c_Dg_mixWords 42 = .ok (.iaload, 1) := by decide +kernel
theorem d_Dg_mixWords_43 : decode c_Dg_mixWords 43 = .ok (.istore 6, 2) := by decide +kernel
theorem d_Dg_mixWords_45 : decode c_Dg_mixWords 45 = .ok (.aload_n 0, 1) := by decide +kernel
theorem d_Dg_mixWords_46 : decode c_Dg_mixWords 46 = .ok (.getfield 13, 3) := by decide +kernel
theorem d_Dg_mixWords_49 : decode c_Dg_mixWords 49 = .ok (.bipush 6, 2) := by decide +kernel
theorem d_Dg_mixWords_51 : decode c_Dg_mixWords 51 = .ok (.iaload, 1) := by decide +kernel
theorem d_Dg_mixWords_52 : decode c_Dg_mixWords 52 = .ok (.istore 7, 2) := by decide +kernel
theorem d_Dg_mixWords_54 : decode c_Dg_mixWords 54 = .ok (.aload_n 0, 1) := by decide +kernel
theorem d_Dg_mixWords_55 : decode c_Dg_mixWords 55 = .ok (.getfield 13, 3) := by decide +kernel
theorem d_Dg_mixWords_58 : decode c_Dg_mixWords 58 = .ok (.bipush 7, 2) := by decide +kernel
theorem d_Dg_mixWords_60 : decode c_Dg_mixWords 60 = .ok (.iaload, 1) := by decide +kernel
theorem d_Dg_mixWords_61 : decode c_Dg_mixWords 61 = .ok (.istore 8, 2) := by decide +kernel
theorem d_Dg_mixWords_63 : decode c_Dg_mixWords 63 = .ok (.iconst 0, 1) := by decide +kernel
theorem d_Dg_mixWords_64 : decode c_Dg_mixWords 64 = .ok (.istore 9, 2) := by decide +kernel
theorem d_Dg_mixWords_66 : decode c_Dg_mixWords 66 = .ok (.iload 9, 2) := by decide +kernel
theorem d_Dg_mixWords_68 : decode c_Dg_mixWords 68 = .ok (.bipush 64, 2) := by decide +kernel
theorem d_Dg_mixWords_70 : decode c_Dg_mixWords 70 = .ok (.if_icmp .ge 139, 3) := by decide +kernel
theorem d_Dg_mixWords_73 : decode c_Dg_mixWords 73 = .ok (.iload 5, 2) := by decide +kernel
theorem d_Dg_mixWords_75 : decode c_Dg_mixWords 75 = .ok (.bipush 6, 2) := by decide +kernel
theorem d_Dg_mixWords_77 : decode c_Dg_mixWords 77 = .ok (.invokestatic 51, 3) := by decide +kernel
theorem d_Dg_mixWords_80 : decode c_Dg_mixWords 80 = .ok (.iload 5, 2) := by decide +kernel
theorem d_Dg_mixWords_82 : decode c_Dg_mixWords 82 = .ok (.bipush 11, 2) := by decide +kernel
theorem d_Dg_mixWords_84 : decode c_Dg_mixWords 84 = .ok (.invokestatic 51, 3) := by decide +kernel
theorem d_Dg_mixWords_87 : decode c_Dg_mixWords 87 = .ok (.ixor, 1) := by decide +kernel
theorem d_Dg_mixWords_88 : decode c_Dg_mixWords 88 = .ok (.iload 5, 2) := by decide +kernel
theorem d_Dg_mixWords_90 : decode c_Dg_mixWords 90 = .ok (.bipush 25, 2) := by decide +kernel
theorem d_Dg_mixWords_92 : decode c_Dg_mixWords 92 = .ok (.invokestatic 51, 3) := by decide +kernel
theorem d_Dg_mixWords_95 : decode c_Dg_mixWords 95 = .ok (.ixor, 1) := by decide +kernel
theorem d_Dg_mixWords_96 : decode c_Dg_mixWords 96 = .ok (.istore 10, 2) := by decide +kernel
theorem d_Dg_mixWords_98 : decode c_Dg_mixWords 98 = .ok (.iload_n 1, 1) := by decide +kernel
theorem d_Dg_mixWords_99 : decode c_Dg_mixWords 99 = .ok (.iconst 2, 1) := by decide +kernel
theorem d_Dg_mixWords_100 : decode c_Dg_mixWords 100 = .ok (.invokestatic 51, 3) := by decide +kernel
theorem d_Dg_mixWords_103 : decode c_Dg_mixWords 103 = .ok (.iload_n 1, 1) := by decide +kernel
theorem d_Dg_mixWords_104 : decode c_Dg_mixWords 104 = .ok (.bipush 13, 2) := by decide +kernel
theorem d_Dg_mixWords_106 : decode c_Dg_mixWords 106 = .ok (.invokestatic 51, 3) := by decide +kernel
theorem d_Dg_mixWords_109 : decode c_Dg_mixWords 109 = .ok (.ixor, 1) := by decide +kernel
theorem d_Dg_mixWords_110 : decode c_Dg_mixWords 110 = .ok (.iload_n 1, 1) := by decide +kernel
theorem d_Dg_mixWords_111 : decode c_Dg_mixWords 111 = .ok (.bipush 22, 2) := by decide +kernel
theorem d_Dg_mixWords_113 : decode c_Dg_mixWords 113 = .ok (.invokestatic 51, 3) := by decide +kernel
theorem d_Dg_mixWords_116 : decode c_Dg_mixWords 116 = .ok (.ixor, 1) := by decide +kernel
theorem d_Dg_mixWords_117 : decode c_Dg_mixWords 117 = .ok (.istore 11, 2) := by decide +kernel
theorem d_Dg_mixWords_119 : decode c_Dg_mixWords 119 = .ok (.iload 8, 2) := by decide +kernel
theorem d_Dg_mixWords_121 : decode c_Dg_mixWords 121 = .ok (.iload 10, 2) := by decide +kernel
theorem d_Dg_mixWords_123 : decode c_Dg_mixWords 123 = .ok (.iadd, 1) := by decide +kernel
theorem d_Dg_mixWords_124 : decode c_Dg_mixWords 124 = .ok (.iload 5, 2) := by decide +kernel
theorem d_Dg_mixWords_126 : decode c_Dg_mixWords 126 = .ok (.iload 6, 2) := by decide +kernel
theorem d_Dg_mixWords_128 : decode c_Dg_mixWords 128 = .ok (.iand, 1) := by decide +kernel
theorem d_Dg_mixWords_129 : decode c_Dg_mixWords 129 = .ok (.iload 5, 2) := by decide +kernel
theorem d_Dg_mixWords_131 : decode c_Dg_mixWords 131 = .ok (.iconst (-1), 1) := by decide +kernel
theorem d_Dg_mixWords_132 : decode c_Dg_mixWords 132 = .ok (.ixor, 1) := by decide +kernel
theorem d_Dg_mixWords_133 : decode c_Dg_mixWords 133 = .ok (.iload 7, 2) := by decide +kernel
theorem d_Dg_mixWords_135 : decode c_Dg_mixWords 135 = .ok (.iand, 1) := by decide +kernel
theorem d_Dg_mixWords_136 : decode c_Dg_mixWords 136 = .ok (.ixor, 1) := by decide +kernel
theorem d_Dg_mixWords_137 : decode c_Dg_mixWords 137 = .ok (.iadd, 1) := by decide +kernel
theorem d_Dg_mixWords_138 : decode c_Dg_mixWords 138 = .ok (.getstatic 57, 3) := by decide +kernel
theorem d_Dg_mixWords_141 : decode c_Dg_mixWords 141 = .ok (.iload 9, 2) := by decide +kernel
theorem d_Dg_mixWords_143 : decode c_Dg_mixWords 143 = .ok (.iaload, 1) := by decide +kernel
theorem d_Dg_mixWords_144 : decode c_Dg_mixWords 144 = .ok (.iadd, 1) := by decide +kernel
theorem d_Dg_mixWords_145 : decode c_Dg_mixWords 145 = .ok (.aload_n 0, 1) := by decide +kernel
theorem d_Dg_mixWords_146 : decode c_Dg_mixWords 146 = .ok (.getfield 16, 3) := by decide +kernel
theorem d_Dg_mixWords_149 : decode c_Dg_mixWords 149 = .ok (.iload 9, 2) := by decide +kernel
theorem d_Dg_mixWords_151 : decode c_Dg_mixWords 151 = .ok (.iaload, 1) := by decide +kernel
theorem d_Dg_mixWords_152 : decode c_Dg_mixWords 152 = .ok (.iadd, 1) := by decide +kernel
theorem d_Dg_mixWords_153 : decode c_Dg_mixWords 153 = .ok (.istore 12, 2) := by decide +kernel
theorem d_Dg_mixWords_155 : decode c_Dg_mixWords 155 = .ok (.iload 11, 2) := by decide +kernel
theorem d_Dg_mixWords_157 : decode c_Dg_mixWords 157 = .ok (.iload_n 1, 1) := by decide +kernel
theorem d_Dg_mixWords_158 : decode c_Dg_mixWords 158 = .ok (.iload_n 2, 1) := by decide +kernel
theorem d_Dg_mixWords_159 : decode c_Dg_mixWords 159 = .ok (.iand, 1) := by decide +kernel
theorem d_Dg_mixWords_160 : decode c_Dg_mixWords 160 = .ok (.iload_n 1, 1) := by decide +kernel
theorem d_Dg_mixWords_161 : decode c_Dg_mixWords 161 = .ok (.iload_n 3, 1) := by decide +kernel
theorem d_Dg_mixWords_162 : decode c_Dg_mixWords 162 = .ok (.iand, 1) := by decide +kernel
theorem d_Dg_mixWords_163 : decode c_Dg_mixWords 163 = .ok (.ixor, 1) := by decide +kernel
theorem d_Dg_mixWords_164 : decode c_Dg_mixWords 164 = .ok (.iload_n 2, 1) := by decide +kernel
theorem d_Dg_mixWords_165 : decode c_Dg_mixWords 165 = .ok (.iload_n 3, 1) := by decide +kernel
theorem d_Dg_mixWords_166 : decode c_Dg_mixWords 166 = .ok (.iand, 1) := by decide +kernel
theorem d_Dg_mixWords_167 : decode c_Dg_mixWords 167 = .ok (.ixor, 1) := by decide +kernel
theorem d_Dg_mixWords_168 : decode c_Dg_mixWords 168 = .ok (.iadd, 1) := by decide +kernel
theorem d_Dg_mixWords_169 : decode c_Dg_mixWords 169 = .ok (.istore 13, 2) := by decide +kernel
theorem d_Dg_mixWords_171 : decode c_Dg_mixWords 171 = .ok (.iload 7, 2) := by decide +kernel
theorem d_Dg_mixWords_173 : decode c_Dg_mixWords 173 = .ok (.istore 8, 2) := by decide +kernel
theorem d_Dg_mixWords_175 : decode c_Dg_mixWords 175 = .ok (.iload 6, 2) := by decide +kernel
theorem d_Dg_mixWords_177 : decode c_Dg_mixWords 177 = .ok (.istore 7, 2) := by decide +kernel
theorem d_Dg_mixWords_179 : decode c_Dg_mixWords 179 = .ok (.iload 5, 2) := by decide +kernel
theorem d_Dg_mixWords_181 : decode c_Dg_mixWords 181 = .ok (.istore 6, 2) := by decide +kernel
theorem d_Dg_mixWords_183 : decode c_Dg_mixWords 183 = .ok (.iload 4, 2) := by decide +kernel
theorem d_Dg_mixWords_185 : decode c_Dg_mixWords 185 = .ok (.iload 12, 2) := by decide +kernel
theorem d_Dg_mixWords_187 : decode c_Dg_mixWords 187 = .ok (.iadd, 1) := by decide +kernel
theorem d_Dg_mixWords_188 : decode c_Dg_mixWords 188 = .ok (.istore 5, 2) := by decide +kernel
theorem d_Dg_mixWords_190 : decode c_Dg_mixWords 190 = .ok (.iload_n 3, 1) := by decide +kernel
theorem d_Dg_mixWords_191 : decode c_Dg_mixWords 191 = .ok (.istore 4, 2) := by decide +kernel
theorem d_Dg_mixWords_193 : decode c_Dg_mixWords 193 = .ok (.iload_n 2, 1) := by decide +kernel
theorem d_Dg_mixWords_194 : decode c_Dg_mixWords 194 = .ok (.istore_n 3, 1) := by decide +kernel
theorem d_Dg_mixWords_195 : decode c_Dg_mixWords 195 = .ok (.iload_n 1, 1) := by decide +kernel
theorem d_Dg_mixWords_196 : decode c_Dg_mixWords 196 = .ok (.istore_n 2, 1) := by decide +kernel
theorem d_Dg_mixWords_197 : decode c_Dg_mixWords 197 = .ok (.iload 12, 2) := by decide +kernel
theorem d_Dg_mixWords_199 : decode c_Dg_mixWords 199 = .ok (.iload 13, 2) := by decide +kernel
theorem d_Dg_mixWords_201 : decode c_Dg_mixWords 201 = .ok (.iadd, 1) := by decide +kernel
theorem d_Dg_mixWords_202 : decode c_Dg_mixWords 202 = .ok (.istore_n 1, 1) := by decide +kernel
theorem d_Dg_mixWords_203 : decode c_Dg_mixWords 203 = .ok (.iinc 9 1, 3) := by decide +kernel
theorem d_Dg_mixWords_206 : decode c_Dg_mixWords 206 = .ok (.goto (-140), 3) := by decide +kernel
theorem d_Dg_mixWords_209 : decode c_Dg_mixWords 209 = .ok (.aload_n 0, 1) := by decide +kernel
theorem d_Dg_mixWords_210 : decode c_Dg_mixWords 210 = .ok (.getfield 13, 3) := by decide +kernel
theorem d_Dg_mixWords_213 : decode c_Dg_mixWords 213 = .ok (.iconst 0, 1) := by decide +kernel
theorem d_Dg_mixWords_214 : decode c_Dg_mixWords 214 = .ok (.dup2, 1) := by decide +kernel
theorem d_Dg_mixWords_215 : decode c_Dg_mixWords 215 = .ok (.iaload, 1) := by decide +kernel
theorem d_Dg_mixWords_216 : decode c_Dg_mixWords 216 = .ok (.iload_n 1, 1) := by decide +kernel
theorem d_Dg_mixWords_217 : decode c_Dg_mixWords 217 = .ok (.iadd, 1) := by decide +kernel
theorem d_Dg_mixWords_218 : decode c_Dg_mixWords 218 = .ok (.iastore, 1) := by decide +kernel
theorem d_Dg_mixWords_219 : decode c_Dg_mixWords 219 = .ok (.aload_n 0, 1) := by decide +kernel
theorem d_Dg_mixWords_220 : decode c_Dg_mixWords 220 = .ok (.getfield 13, 3) := by decide +kernel
theorem d_Dg_mixWords_223 : decode c_Dg_mixWords 223 = .ok (.iconst 1, 1) := by decide +kernel
theorem d_Dg_mixWords_224 : decode c_Dg_mixWords 224 = .ok (.dup2, 1) := by decide +kernel
theorem d_Dg_mixWords_225 : decode c_Dg_mixWords 225 = .ok (.iaload, 1) := by decide +kernel
theorem d_Dg_mixWords_226 : decode c_Dg_mixWords 226 = .ok (.iload_n 2, 1) := by decide +kernel
theorem d_Dg_mixWords_227 : decode c_Dg_mixWords 227 = .ok (.iadd, 1) := by decide +kernel
theorem d_Dg_mixWords_228 : decode c_Dg_mixWords 228 = .ok (.iastore, 1) := by decide +kernel
theorem d_Dg_mixWords_229 : decode c_Dg_mixWords 229 = .ok (.aload_n 0, 1) := by decide +kernel
theorem d_Dg_mixWords_230 : decode c_Dg_mixWords 230 = .ok (.getfield 13, 3) := by decide +kernel
theorem d_Dg_mixWords_233 : decode c_Dg_mixWords 233 = .ok (.iconst 2, 1) := by decide +kernel
theorem d_Dg_mixWords_234 : decode c_Dg_mixWords 234 = .ok (.dup2, 1) := by decide +kernel
theorem d_Dg_mixWords_235 : decode c_Dg_mixWords 235 = .ok (.iaload, 1) := by decide +kernel
theorem d_Dg_mixWords_236 : decode c_Dg_mixWords 236 = .ok (.iload_n 3, 1) := by decide +kernel
theorem d_Dg_mixWords_237 : decode c_Dg_mixWords 237 = .ok (.iadd, 1) := by decide +kernel
theorem d_Dg_mixWords_238 : decode c_Dg_mixWords 238 = .ok (.iastore, 1) := by decide +kernel
theorem d_Dg_mixWords_239 : decode c_Dg_mixWords 239 = .ok (.aload_n 0, 1) := by decide +kernel
theorem d_Dg_mixWords_240 : decode c_Dg_mixWords 240 = .ok (.getfield 13, 3) := by decide +kernel
theorem d_Dg_mixWords_243 : decode c_Dg_mixWords 243 = .ok (.iconst 3, 1) := by decide +kernel
theorem d_Dg_mixWords_244 : decode c_Dg_mixWords 244 = .ok (.dup2, 1) := by decide +kernel
theorem d_Dg_mixWords_245 : decode c_Dg_mixWords 245 = .ok (.iaload, 1) := by decide +kernel
theorem d_Dg_mixWords_246 : decode c_Dg_mixWords 246 = .ok (.iload 4, 2) := by decide +kernel
theorem d_Dg_mixWords_248 : decode c_Dg_mixWords 248 = .ok (.iadd, 1) := by decide +kernel
theorem d_Dg_mixWords_249 : decode c_Dg_mixWords 249 = .ok (.iastore, 1) := by decide +kernel
theorem d_Dg_mixWords_250 : decode c_Dg_mixWords 250 = .ok (.aload_n 0, 1) := by decide +kernel
theorem d_Dg_mixWords_251 : decode c_Dg_mixWords 251 = .ok (.getfield 13, 3) := by decide +kernel
theorem d_Dg_mixWords_254 : decode c_Dg_mixWords 254 = .ok (.iconst 4, 1) := by decide +kernel
theorem d_Dg_mixWords_255 : decode c_Dg_mixWords 255 = .ok (.dup2, 1) := by decide +kernel
theorem d_Dg_mixWords_256 : decode c_Dg_mixWords 256 = .ok (.iaload, 1) := by decide +kernel
theorem d_Dg_mixWords_257 : decode c_Dg_mixWords 257 = .ok (.iload 5, 2) := by decide +kernel
theorem d_Dg_mixWords_259 : decode c_Dg_mixWords 259 = .ok (.iadd, 1) := by decide +kernel
theorem d_Dg_mixWords_260 : decode c_Dg_mixWords 260 = .ok (.iastore, 1) := by decide +kernel
theorem d_Dg_mixWords_261 : decode c_Dg_mixWords 261 = .ok (.aload_n 0, 1) := by decide +kernel
theorem d_Dg_mixWords_262 : decode c_Dg_mixWords 262 = .ok (.getfield 13, 3) := by decide +kernel
theorem d_Dg_mixWords_265 : decode c_Dg_mixWords 265 = .ok (.iconst 5, 1) := by decide +kernel
theorem d_Dg_mixWords_266 : decode c_Dg_mixWords 266 = .ok (.dup2, 1) := by decide +kernel
theorem d_Dg_mixWords_267 : decode c_Dg_mixWords 267 = .ok (.iaload, 1) := by decide +kernel
theorem d_Dg_mixWords_268 : decode c_Dg_mixWords 268 = .ok (.iload 6, 2) := by decide +kernel
theorem d_Dg_mixWords_270 : decode c_Dg_mixWords 270 = .ok (.iadd, 1) := by decide +kernel
theorem d_Dg_mixWords_271 : decode c_Dg_mixWords 271 = .ok (.iastore, 1) := by decide +kernel
theorem d_Dg_mixWords_272 : decode c_Dg_mixWords 272 = .ok (.aload_n 0, 1) := by decide +kernel
theorem d_Dg_mixWords_273 : decode c_Dg_mixWords 273 = .ok (.getfield 13, 3) := by decide +kernel
theorem d_Dg_mixWords_276 : decode c_Dg_mixWords 276 = .ok (.bipush 6, 2) := by decide +kernel
theorem d_Dg_mixWords_278 : decode c_Dg_mixWords 278 = .ok (.dup2, 1) := by decide +kernel
theorem d_Dg_mixWords_279 : decode c_Dg_mixWords 279 = .ok (.iaload, 1) := by decide +kernel
theorem d_Dg_mixWords_280 : decode c_Dg_mixWords 280 = .ok (.iload 7, 2) := by decide +kernel
theorem d_Dg_mixWords_282 : decode c_Dg_mixWords 282 = .ok (.iadd, 1) := by decide +kernel
theorem d_Dg_mixWords_283 : decode c_Dg_mixWords 283 = .ok (.iastore, 1) := by decide +kernel
theorem d_Dg_mixWords_284 : decode c_Dg_mixWords 284 = .ok (.aload_n 0, 1) := by decide +kernel
theorem d_Dg_mixWords_285 : decode c_Dg_mixWords 285 = .ok (.getfield 13, 3) := by decide +kernel
theorem d_Dg_mixWords_288 : decode c_Dg_mixWords 288 = .ok (.bipush 7, 2) := by decide +kernel
theorem d_Dg_mixWords_290 : decode c_Dg_mixWords 290 = .ok (.dup2, 1) := by decide +kernel
theorem d_Dg_mixWords_291 : decode c_Dg_mixWords 291 = .ok (.iaload, 1) := by decide +kernel
theorem d_Dg_mixWords_292 : decode c_Dg_mixWords 292 = .ok (.iload 8, 2) := by decide +kernel
theorem d_Dg_mixWords_294 : decode c_Dg_mixWords 294 = .ok (.iadd, 1) := by decide +kernel
theorem d_Dg_mixWords_295 : decode c_Dg_mixWords 295 = .ok (.iastore, 1) := by decide +kernel
theorem d_Dg_mixWords_296 : decode c_Dg_mixWords 296 = .ok (.return_, 1) := by decide +kernel
theorem d_Dg_handOut_0 : decode c_Dg_handOut 0 = .ok (.iconst 0, 1) := by decide +kernel
theorem d_Dg_handOut_1 : decode c_Dg_handOut 1 = .ok (.istore_n 3, 1) := by decide +kernel
theorem d_Dg_handOut_2 : decode c_Dg_handOut 2 = .ok (.iload_n 3, 1) := by decide +kernel
theorem d_Dg_handOut_3 : decode c_Dg_handOut 3 = .ok (.bipush 32, 2) := by decide +kernel
theorem d_Dg_handOut_5 : decode c_Dg_handOut 5 = .ok (.if_icmp .ge 36, 3) := by decide +kernel
theorem d_Dg_handOut_8 : decode c_Dg_handOut 8 = .ok (.aload_n 1, 1) := by decide +kernel
theorem d_Dg_handOut_9 : decode c_Dg_handOut 9 = .ok (.iload_n 2, 1) := by decide +kernel
theorem d_Dg_handOut_10 : decode c_Dg_handOut 10 = .ok (.iload_n 3, 1) := by decide +kernel
theorem d_Dg_handOut_11 : decode c_Dg_handOut 11 = .ok (.iadd, 1) := by decide +kernel
theorem d_Dg_handOut_12 : decode c_Dg_handOut 12 = .ok (.aload_n 0, 1) := by decide +kernel
theorem d_Dg_handOut_13 : decode c_Dg_handOut 13 = .ok (.getfield 13, 3) := by decide +kernel
theorem d_Dg_handOut_16 : decode c_Dg_handOut 16 = .ok (.iload_n 3, 1) := by decide +kernel
theorem d_Dg_handOut_17 : decode c_Dg_handOut 17 = .ok (.iconst 4, 1) := by decide +kernel
theorem d_Dg_handOut_18 : decode c_Dg_handOut 18 = .ok (.idiv, 1) := by decide +kernel
theorem d_Dg_handOut_19 : decode c_Dg_handOut 19 = .ok (.iaload, 1) := by decide +kernel
theorem d_Dg_handOut_20 : decode c_Dg_handOut 20 = .ok (.bipush 24, 2) := by decide +kernel
theorem d_Dg_handOut_22 : decode c_Dg_handOut 22 = .ok (.bipush 8, 2) := by decide +kernel
theorem d_Dg_handOut_24 : decode c_Dg_handOut 24 = .ok (.iload_n 3, 1) := by decide +kernel
theorem d_Dg_handOut_25 : decode c_Dg_handOut 25 = .ok (.iconst 4, 1) := by decide +kernel
theorem d_Dg_handOut_26 : decode c_Dg_handOut 26 = .ok (.irem, 1) := by decide +kernel
theorem d_Dg_handOut_27 : decode c_Dg_handOut 27 = .ok (.imul, 1) := by decide +kernel
theorem d_Dg_handOut_28 : decode c_Dg_handOut 28 = .ok (.isub, 1) := by decide +kernel
theorem d_Dg_handOut_29 : decode c_Dg_handOut 29 = .ok (.iushr, 1) := by decide +kernel
theorem d_Dg_handOut_30 : decode c_Dg_handOut 30 = .ok (.sipush 255, 3) := by decide +kernel
theorem d_Dg_handOut_33 : decode c_Dg_handOut 33 = .ok (.iand, 1) := by decide +kernel
theorem d_Dg_handOut_34 : decode c_Dg_handOut 34 = .ok (.iastore, 1) := by decide +kernel
theorem d_Dg_handOut_35 : decode c_Dg_handOut 35 = .ok (.iinc 3 1, 3) := by decide +kernel
theorem d_Dg_handOut_38 : decode c_Dg_handOut 38 = .ok (.goto (-36), 3) := by decide +kernel
theorem d_Dg_handOut_41 : decode c_Dg_handOut 41 = .ok (.return_, 1) := by decide +kernel
theorem d_Dk_new_0 : decode c_Dk_new 0 = .ok (.aload_n 0, 1) := by decide +kernel
theorem d_Dk_new_1 : decode c_Dk_new 1 = .ok (.invokespecial 3, 3) := by decide +kernel
theorem d_Dk_new_4 : decode c_Dk_new 4 = .ok (.aload_n 0, 1) := by decide +kernel
theorem d_Dk_new_5 : decode c_Dk_new 5 = .ok (.sipush 129, 3) := by decide +kernel
theorem d_Dk_new_8 : decode c_Dk_new 8 = .ok (.newarray .int, 2) := by decide +kernel
theorem d_Dk_new_10 : decode c_Dk_new 10 = .ok (.putfield 9, 3) := by decide +kernel
theorem d_Dk_new_13 : decode c_Dk_new 13 = .ok (.aload_n 0, 1) := by decide +kernel
theorem d_Dk_new_14 : decode c_Dk_new 14 = .ok (.iconst 0, 1) := by decide +kernel
theorem d_Dk_new_15 : decode c_Dk_new 15 = .ok (.putfield 15, 3) := by decide +kernel
theorem d_Dk_new_18 : decode c_Dk_new 18 = .ok (.aload_n 0, 1) := by decide +kernel
theorem d_Dk_new_19 : decode c_Dk_new 19 = .ok (.iconst 0, 1) := by decide +kernel
theorem d_Dk_new_20 : decode c_Dk_new 20 = .ok (.putfield 19, 3) := by decide +kernel
theorem d_Dk_new_23 : decode c_Dk_new 23 = .ok (.return_, 1) := by decide +kernel
theorem d_Dk_tellCrash_0 : decode c_Dk_tellCrash 0 = .ok (.aload_n 0, 1) := by decide +kernel
theorem d_Dk_tellCrash_1 : decode c_Dk_tellCrash 1 = .ok (.iload_n 1, 1) := by decide +kernel
theorem d_Dk_tellCrash_2 : decode c_Dk_tellCrash 2 = .ok (.iconst 1, 1) := by decide +kernel
theorem d_Dk_tellCrash_3 : decode c_Dk_tellCrash 3 = .ok (.if_icmp .ge 7, 3) := by decide +kernel
theorem d_Dk_tellCrash_6 : decode c_Dk_tellCrash 6 = .ok (.iconst 0, 1) := by decide +kernel
theorem d_Dk_tellCrash_7 : decode c_Dk_tellCrash 7 = .ok (.goto 4, 3) := by decide +kernel
theorem d_Dk_tellCrash_10 : decode c_Dk_tellCrash 10 = .ok (.iload_n 1, 1) := by decide +kernel
theorem d_Dk_tellCrash_11 : decode c_Dk_tellCrash 11 = .ok (.putfield 19, 3) := by decide +kernel
theorem d_Dk_tellCrash_14 : decode c_Dk_tellCrash 14 = .ok (.return_, 1) := by decide +kernel
theorem d_Dk_seedPlace_0 : decode c_Dk_seedPlace 0 = .ok (.aload_n 0, 1) := by decide +kernel
theorem d_Dk_seedPlace_1 : decode c_Dk_seedPlace 1 = .ok (.getfield 9, 3) := by decide +kernel
theorem d_Dk_seedPlace_4 : decode c_Dk_seedPlace 4 = .ok (.iconst 0, 1) := by decide +kernel
theorem d_Dk_seedPlace_5 : decode c_Dk_seedPlace 5 = .ok (.iaload, 1) := by decide +kernel
theorem d_Dk_seedPlace_6 : decode c_Dk_seedPlace 6 = .ok (.lookupswitch 31 #[(1, 26), (2, 28)], 26) := by decide +kernel
theorem d_Dk_seedPlace_32 : decode c_Dk_seedPlace 32 = .ok (.iconst 1, 1) := by decide +kernel
theorem d_Dk_seedPlace_33 : decode c_Dk_seedPlace 33 = .ok (.ireturn, 1) := by decide +kernel
theorem d_Dk_seedPlace_34 : decode c_Dk_seedPlace 34 = .ok (.bipush 65, 2) := by decide +kernel
theorem d_Dk_seedPlace_36 : decode c_Dk_seedPlace 36 = .ok (.ireturn, 1) := by decide +kernel
theorem d_Dk_seedPlace_37 : decode c_Dk_seedPlace 37 = .ok (.iconst 0, 1) := by decide +kernel
theorem d_Dk_seedPlace_38 : decode c_Dk_seedPlace 38 = .ok (.ireturn, 1) := by decide +kernel
theorem d_Dk_store_0 : decode c_Dk_store 0 = .ok (.aload_n 0, 1) := by decide +kernel
theorem d_Dk_store_1 : decode c_Dk_store 1 = .ok (.getfield 9, 3) := by decide +kernel
theorem d_Dk_store_4 : decode c_Dk_store 4 = .ok (.iconst 0, 1) := by decide +kernel
theorem d_Dk_store_5 : decode c_Dk_store 5 = .ok (.iaload, 1) := by decide +kernel
theorem d_Dk_store_6 : decode c_Dk_store 6 = .ok (.iconst 1, 1) := by decide +kernel
theorem d_Dk_store_7 : decode c_Dk_store 7 = .ok (.if_icmp .ne 7, 3) := by decide +kernel
theorem d_Dk_store_10 : decode c_Dk_store 10 = .ok (.iconst 1, 1) := by decide +kernel
theorem d_Dk_store_11 : decode c_Dk_store 11 = .ok (.goto 4, 3) := by decide +kernel
theorem d_Dk_store_14 : decode c_Dk_store 14 = .ok (.iconst 0, 1) := by decide +kernel
theorem d_Dk_store_15 : decode c_Dk_store 15 = .ok (.istore_n 2, 1) := by decide +kernel
theorem d_Dk_store_16 : decode c_Dk_store 16 = .ok (.iload_n 2, 1) := by decide +kernel
theorem d_Dk_store_17 : decode c_Dk_store 17 = .ok (.ifCond .eq 8, 3) := by decide +kernel
theorem d_Dk_store_20 : decode c_Dk_store 20 = .ok (.bipush 65, 2) := by decide +kernel
theorem d_Dk_store_22 : decode c_Dk_store 22 = .ok (.goto 4, 3) := by decide +kernel
theorem d_Dk_store_25 : decode c_Dk_store 25 = .ok (.iconst 1, 1) := by decide +kernel
theorem d_Dk_store_26 : decode c_Dk_store 26 = .ok (.istore_n 3, 1) := by decide +kernel
theorem d_Dk_store_27 : decode c_Dk_store 27 = .ok (.iconst 0, 1) := by decide +kernel
theorem d_Dk_store_28 : decode c_Dk_store 28 = .ok (.istore 4, 2) := by decide +kernel
theorem d_Dk_store_30 : decode c_Dk_store 30 = .ok (.iload 4, 2) := by decide +kernel
theorem d_Dk_store_32 : decode c_Dk_store 32 = .ok (.bipush 64, 2) := by decide +kernel
theorem d_Dk_store_34 : decode c_Dk_store 34 = .ok (.if_icmp .ge 26, 3) := by decide +kernel
theorem d_Dk_store_37 : decode c_Dk_store 37 = .ok (.aload_n 0, 1) := by decide +kernel
theorem d_Dk_store_38 : decode c_Dk_store 38 = .ok (.iload_n 3, 1) := by decide +kernel
theorem d_Dk_store_39 : decode c_Dk_store 39 = .ok (.iload 4, 2) := by decide +kernel
theorem d_Dk_store_41 : decode c_Dk_store 41 = .ok (.iadd, 1) := by decide +kernel
theorem d_Dk_store_42 : decode c_Dk_store 42 = .ok (.aload_n 1, 1) := by decide +kernel
theorem d_Dk_store_43 : decode c_Dk_store 43 = .ok (.iload 4, 2) := by decide +kernel
theorem d_Dk_store_45 : decode c_Dk_store 45 = .ok (.iaload, 1) := by decide +kernel
theorem d_Dk_store_46 : decode c_Dk_store 46 = .ok (.invokevirtual 22, 3) := by decide +kernel
theorem d_Dk_store_49 : decode c_Dk_store 49 = .ok (.ifCond .ne 5, 3) := by decide +kernel
theorem d_Dk_store_52 : decode c_Dk_store 52 = .ok (.iconst 0, 1) := by decide +kernel
theorem d_Dk_store_53 : decode c_Dk_store 53 = .ok (.ireturn, 1) := by decide +kernel
theorem d_Dk_store_54 : decode c_Dk_store 54 = .ok (.iinc 4 1, 3) := by decide +kernel
theorem d_Dk_store_57 : decode c_Dk_store 57 = .ok (.goto (-27), 3) := by decide +kernel
theorem d_Dk_store_60 : decode c_Dk_store 60 = .ok (.aload_n 0, 1) := by decide +kernel
theorem d_Dk_store_61 : decode c_Dk_store 61 = .ok (.iconst 0, 1) := by decide +kernel
theorem d_Dk_store_62 : decode c_Dk_store 62 = .ok (.iload_n 2, 1) := by decide +kernel
theorem d_Dk_store_63 : decode c_Dk_store 63 = .ok (.ifCond .eq 7, 3) := by decide +kernel
theorem d_Dk_store_66 : decode c_Dk_store 66 = .ok (.iconst 2, 1) := by decide +kernel
theorem d_Dk_store_67 : decode c_Dk_store 67 = .ok (.goto 4, 3) := by decide +kernel
theorem d_Dk_store_70 : decode c_Dk_store 70 = .ok (.iconst 1, 1) := by decide +kernel
theorem d_Dk_store_71 : decode c_Dk_store 71 = .ok (.invokevirtual 22, 3) := by decide +kernel
theorem d_Dk_store_74 : decode c_Dk_store 74 = .ok (.ireturn, 1) := by decide +kernel
theorem d_Dk_write_0 : decode c_Dk_write 0 = .ok (.aload_n 0, 1) := by decide +kernel
theorem d_Dk_write_1 : decode c_Dk_write 1 = .ok (.getfield 19, 3) := by decide +kernel
theorem d_Dk_write_4 : decode c_Dk_write 4 = .ok (.iconst 1, 1) := by decide +kernel
theorem d_Dk_write_5 : decode c_Dk_write 5 = .ok (.if_icmp .ne 10, 3) := by decide +kernel
theorem d_Dk_write_8 : decode c_Dk_write 8 = .ok (.aload_n 0, 1) := by decide +kernel
theorem d_Dk_write_9 : decode c_Dk_write 9 = .ok (.iconst 0, 1) := by decide +kernel
theorem d_Dk_write_10 : decode c_Dk_write 10 = .ok (.putfield 19, 3) := by decide +kernel
theorem d_Dk_write_13 : decode c_Dk_write 13 = .ok (.iconst 0, 1) := by decide +kernel
theorem d_Dk_write_14 : decode c_Dk_write 14 = .ok (.ireturn, 1) := by decide +kernel
theorem d_Dk_write_15 : decode c_Dk_write 15 = .ok (.aload_n 0, 1) := by decide +kernel
theorem d_Dk_write_16 : decode c_Dk_write 16 = .ok (.getfield 19, 3) := by decide +kernel
theorem d_Dk_write_19 : decode c_Dk_write 19 = .ok (.iconst 1, 1) := by decide +kernel
theorem d_Dk_write_20 : decode c_Dk_write 20 = .ok (.if_icmp .le 13, 3) := by decide +kernel
theorem d_Dk_write_23 : decode c_Dk_write 23 = .ok (.aload_n 0, 1) := by decide +kernel
theorem d_Dk_write_24 : decode c_Dk_write 24 = .ok (.dup, 1) := by decide +kernel
theorem d_Dk_write_25 : decode c_Dk_write 25 = .ok (.getfield 19, 3) := by decide +kernel
theorem d_Dk_write_28 : decode c_Dk_write 28 = .ok (.iconst 1, 1) := by decide +kernel
theorem d_Dk_write_29 : decode c_Dk_write 29 = .ok (.isub, 1) := by decide +kernel
theorem d_Dk_write_30 : decode c_Dk_write 30 = .ok (.putfield 19, 3) := by decide +kernel
theorem d_Dk_write_33 : decode c_Dk_write 33 = .ok (.aload_n 0, 1) := by decide +kernel
theorem d_Dk_write_34 : decode c_Dk_write 34 = .ok (.getfield 9, 3) := by decide +kernel
theorem d_Dk_write_37 : decode c_Dk_write 37 = .ok (.iload_n 1, 1) := by decide +kernel
theorem d_Dk_write_38 : decode c_Dk_write 38 = .ok (.iload_n 2, 1) := by decide +kernel
theorem d_Dk_write_39 : decode c_Dk_write 39 = .ok (.iastore, 1) := by decide +kernel
theorem d_Dk_write_40 : decode c_Dk_write 40 = .ok (.aload_n 0, 1) := by decide +kernel
theorem d_Dk_write_41 : decode c_Dk_write 41 = .ok (.dup, 1) := by decide +kernel
theorem d_Dk_write_42 : decode c_Dk_write 42 = .ok (.getfield 15, 3) := by decide +kernel
theorem d_Dk_write_45 : decode c_Dk_write 45 = .ok (.iconst 1, 1) := by decide +kernel
theorem d_Dk_write_46 : decode c_Dk_write 46 = .ok (.iadd, 1) := by decide +kernel
theorem d_Dk_write_47 : decode c_Dk_write 47 = .ok (.putfield 15, 3) := by decide +kernel
theorem d_Dk_write_50 : decode c_Dk_write 50 = .ok (.iconst 1, 1) := by decide +kernel
theorem d_Dk_write_51 : decode c_Dk_write 51 = .ok (.ireturn, 1) := by decide +kernel
theorem d_Ge_new_0 : decode c_Ge_new 0 = .ok (.aload_n 0, 1) := by decide +kernel
theorem d_Ge_new_1 : decode c_Ge_new 1 = .ok (.invokespecial 3, 3) := by decide +kernel
theorem d_Ge_new_4 : decode c_Ge_new 4 = .ok (.aload_n 0, 1) := by decide +kernel
theorem d_Ge_new_5 : decode c_Ge_new 5 = .ok (.bipush 16, 2) := by decide +kernel
theorem d_Ge_new_7 : decode c_Ge_new 7 = .ok (.newarray .int, 2) := by decide +kernel
theorem d_Ge_new_9 : decode c_Ge_new 9 = .ok (.putfield 11, 3) := by decide +kernel
theorem d_Ge_new_12 : decode c_Ge_new 12 = .ok (.aload_n 0, 1) := by decide +kernel
theorem d_Ge_new_13 : decode c_Ge_new 13 = .ok (.bipush 16, 2) := by decide +kernel
theorem d_Ge_new_15 : decode c_Ge_new 15 = .ok (.newarray .int, 2) := by decide +kernel
theorem d_Ge_new_17 : decode c_Ge_new 17 = .ok (.putfield 17, 3) := by decide +kernel
theorem d_Ge_new_20 : decode c_Ge_new 20 = .ok (.aload_n 0, 1) := by decide +kernel
theorem d_Ge_new_21 : decode c_Ge_new 21 = .ok (.bipush 32, 2) := by decide +kernel
theorem d_Ge_new_23 : decode c_Ge_new 23 = .ok (.anewarray 20, 3) := by decide +kernel
theorem d_Ge_new_26 : decode c_Ge_new 26 = .ok (.putfield 22, 3) := by decide +kernel
theorem d_Ge_new_29 : decode c_Ge_new 29 = .ok (.iconst 0, 1) := by decide +kernel
theorem d_Ge_new_30 : decode c_Ge_new 30 = .ok (.istore_n 1, 1) := by decide +kernel
theorem d_Ge_new_31 : decode c_Ge_new 31 = .ok (.iload_n 1, 1) := by decide +kernel
theorem d_Ge_new_32 : decode c_Ge_new 32 = .ok (.bipush 32, 2) := by decide +kernel
theorem d_Ge_new_34 : decode c_Ge_new 34 = .ok (.if_icmp .ge 22, 3) := by decide +kernel
theorem d_Ge_new_37 : decode c_Ge_new 37 = .ok (.aload_n 0, 1) := by decide +kernel
theorem d_Ge_new_38 : decode c_Ge_new 38 = .ok (.getfield 22, 3) := by decide +kernel
theorem d_Ge_new_41 : decode c_Ge_new 41 = .ok (.iload_n 1, 1) := by decide +kernel
theorem d_Ge_new_42 : decode c_Ge_new 42 = .ok (.new 20, 3) := by decide +kernel
theorem d_Ge_new_45 : decode c_Ge_new 45 = .ok (.dup, 1) := by decide +kernel
theorem d_Ge_new_46 : decode c_Ge_new 46 = .ok (.invokespecial 26, 3) := by decide +kernel
theorem d_Ge_new_49 : decode c_Ge_new 49 = .ok (.aastore, 1) := by decide +kernel
theorem d_Ge_new_50 : decode c_Ge_new 50 = .ok (.iinc 1 1, 3) := by decide +kernel
theorem d_Ge_new_53 : decode c_Ge_new 53 = .ok (.goto (-22), 3) := by decide +kernel
theorem d_Ge_new_56 : decode c_Ge_new 56 = .ok (.aload_n 0, 1) := by decide +kernel
theorem d_Ge_new_57 : decode c_Ge_new 57 = .ok (.iconst 0, 1) := by decide +kernel
theorem d_Ge_new_58 : decode c_Ge_new 58 = .ok (.putfield 27, 3) := by decide +kernel
theorem d_Ge_new_61 : decode c_Ge_new 61 = .ok (.aload_n 0, 1) := by decide +kernel
theorem d_Ge_new_62 : decode c_Ge_new 62 = .ok (.iconst 0, 1) := by decide +kernel
theorem d_Ge_new_63 : decode c_Ge_new 63 = .ok (.putfield 31, 3) := by decide +kernel
theorem d_Ge_new_66 : decode c_Ge_new 66 = .ok (.aload_n 0, 1) := by decide +kernel
theorem d_Ge_new_67 : decode c_Ge_new 67 = .ok (.iconst (-1), 1) := by decide +kernel
theorem d_Ge_new_68 : decode c_Ge_new 68 = .ok (.putfield 34, 3) := by decide +kernel
theorem d_Ge_new_71 : decode c_Ge_new 71 = .ok (.aload_n 0, 1) := by decide +kernel
theorem d_Ge_new_72 : decode c_Ge_new 72 = .ok (.new 37, 3) := by decide +kernel
theorem d_Ge_new_75 : decode c_Ge_new 75 = .ok (.dup, 1) := by decide +kernel
theorem d_Ge_new_76 : decode c_Ge_new 76 = .ok (.invokespecial 39, 3) := by decide +kernel
theorem d_Ge_new_79 : decode c_Ge_new 79 = .ok (.putfield 40, 3) := by decide +kernel
theorem d_Ge_new_82 : decode c_Ge_new 82 = .ok (.aload_n 0, 1) := by decide +kernel
theorem d_Ge_new_83 : decode c_Ge_new 83 = .ok (.new 9, 3) := by decide +kernel
theorem d_Ge_new_86 : decode c_Ge_new 86 = .ok (.dup, 1) := by decide +kernel
theorem d_Ge_new_87 : decode c_Ge_new 87 = .ok (.invokespecial 44, 3) := by decide +kernel
theorem d_Ge_new_90 : decode c_Ge_new 90 = .ok (.putfield 45, 3) := by decide +kernel
theorem d_Ge_new_93 : decode c_Ge_new 93 = .ok (.aload_n 0, 1) := by decide +kernel
theorem d_Ge_new_94 : decode c_Ge_new 94 = .ok (.sipush 1040, 3) := by decide +kernel
theorem d_Ge_new_97 : decode c_Ge_new 97 = .ok (.newarray .int, 2) := by decide +kernel
theorem d_Ge_new_99 : decode c_Ge_new 99 = .ok (.putfield 49, 3) := by decide +kernel
theorem d_Ge_new_102 : decode c_Ge_new 102 = .ok (.aload_n 0, 1) := by decide +kernel
theorem d_Ge_new_103 : decode c_Ge_new 103 = .ok (.bipush 32, 2) := by decide +kernel
theorem d_Ge_new_105 : decode c_Ge_new 105 = .ok (.newarray .int, 2) := by decide +kernel
theorem d_Ge_new_107 : decode c_Ge_new 107 = .ok (.putfield 52, 3) := by decide +kernel
theorem d_Ge_new_110 : decode c_Ge_new 110 = .ok (.return_, 1) := by decide +kernel
theorem d_Ge_reset_0 : decode c_Ge_reset 0 = .ok (.iconst 0, 1) := by decide +kernel
theorem d_Ge_reset_1 : decode c_Ge_reset 1 = .ok (.istore_n 1, 1) := by decide +kernel
theorem d_Ge_reset_2 : decode c_Ge_reset 2 = .ok (.iload_n 1, 1) := by decide +kernel
theorem d_Ge_reset_3 : decode c_Ge_reset 3 = .ok (.bipush 16, 2) := by decide +kernel
theorem d_Ge_reset_5 : decode c_Ge_reset 5 = .ok (.if_icmp .ge 23, 3) := by decide +kernel
theorem d_Ge_reset_8 : decode c_Ge_reset 8 = .ok (.aload_n 0, 1) := by decide +kernel
theorem d_Ge_reset_9 : decode c_Ge_reset 9 = .ok (.getfield 11, 3) := by decide +kernel
theorem d_Ge_reset_12 : decode c_Ge_reset 12 = .ok (.iload_n 1, 1) := by decide +kernel
theorem d_Ge_reset_13 : decode c_Ge_reset 13 = .ok (.iconst 0, 1) := by decide +kernel
theorem d_Ge_reset_14 : decode c_Ge_reset 14 = .ok (.iastore, 1) := by decide +kernel
theorem d_Ge_reset_15 : decode c_Ge_reset 15 = .ok (.aload_n 0, 1) := by decide +kernel
theorem d_Ge_reset_16 : decode c_Ge_reset 16 = .ok (.getfield 17, 3) := by decide +kernel
theorem d_Ge_reset_19 : decode c_Ge_reset 19 = .ok (.iload_n 1, 1) := by decide +kernel
theorem d_Ge_reset_20 : decode c_Ge_reset 20 = .ok (.iconst 0, 1) := by decide +kernel
theorem d_Ge_reset_21 : decode c_Ge_reset 21 = .ok (.iastore, 1) := by decide +kernel
theorem d_Ge_reset_22 : decode c_Ge_reset 22 = .ok (.iinc 1 1, 3) := by decide +kernel
theorem d_Ge_reset_25 : decode c_Ge_reset 25 = .ok (.goto (-23), 3) := by decide +kernel
theorem d_Ge_reset_28 : decode c_Ge_reset 28 = .ok (.iconst 0, 1) := by decide +kernel
theorem d_Ge_reset_29 : decode c_Ge_reset 29 = .ok (.istore_n 1, 1) := by decide +kernel
theorem d_Ge_reset_30 : decode c_Ge_reset 30 = .ok (.iload_n 1, 1) := by decide +kernel
theorem d_Ge_reset_31 : decode c_Ge_reset 31 = .ok (.bipush 32, 2) := by decide +kernel
theorem d_Ge_reset_33 : decode c_Ge_reset 33 = .ok (.if_icmp .ge 19, 3) := by decide +kernel
theorem d_Ge_reset_36 : decode c_Ge_reset 36 = .ok (.aload_n 0, 1) := by decide +kernel
theorem d_Ge_reset_37 : decode c_Ge_reset 37 = .ok (.getfield 22, 3) := by decide +kernel
theorem d_Ge_reset_40 : decode c_Ge_reset 40 = .ok (.iload_n 1, 1) := by decide +kernel
theorem d_Ge_reset_41 : decode c_Ge_reset 41 = .ok (.aaload, 1) := by decide +kernel
theorem d_Ge_reset_42 : decode c_Ge_reset 42 = .ok (.iconst 0, 1) := by decide +kernel
theorem d_Ge_reset_43 : decode c_Ge_reset 43 = .ok (.putfield 55, 3) := by decide +kernel
theorem d_Ge_reset_46 : decode c_Ge_reset 46 = .ok (.iinc 1 1, 3) := by decide +kernel
theorem d_Ge_reset_49 : decode c_Ge_reset 49 = .ok (.goto (-19), 3) := by decide +kernel
theorem d_Ge_reset_52 : decode c_Ge_reset 52 = .ok (.aload_n 0, 1) := by decide +kernel
theorem d_Ge_reset_53 : decode c_Ge_reset 53 = .ok (.iconst 0, 1) := by decide +kernel
theorem d_Ge_reset_54 : decode c_Ge_reset 54 = .ok (.putfield 27, 3) := by decide +kernel
theorem d_Ge_reset_57 : decode c_Ge_reset 57 = .ok (.aload_n 0, 1) := by decide +kernel
theorem d_Ge_reset_58 : decode c_Ge_reset 58 = .ok (.iconst 0, 1) := by decide +kernel
theorem d_Ge_reset_59 : decode c_Ge_reset 59 = .ok (.putfield 31, 3) := by decide +kernel
theorem d_Ge_reset_62 : decode c_Ge_reset 62 = .ok (.aload_n 0, 1) := by decide +kernel
theorem d_Ge_reset_63 : decode c_Ge_reset 63 = .ok (.iconst (-1), 1) := by decide +kernel
theorem d_Ge_reset_64 : decode c_Ge_reset 64 = .ok (.putfield 34, 3) := by decide +kernel
theorem d_Ge_reset_67 : decode c_Ge_reset 67 = .ok (.return_, 1) := by decide +kernel
theorem d_Ge_isSeeded_0 : decode c_Ge_isSeeded 0 = .ok (.iconst 0, 1) := by decide +kernel
theorem d_Ge_isSeeded_1 : decode c_Ge_isSeeded 1 = .ok (.istore_n 1, 1) := by decide +kernel
theorem d_Ge_isSeeded_2 : decode c_Ge_isSeeded 2 = .ok (.iload_n 1, 1) := by decide +kernel
theorem d_Ge_isSeeded_3 : decode c_Ge_isSeeded 3 = .ok (.bipush 16, 2) := by decide +kernel
theorem d_Ge_isSeeded_5 : decode c_Ge_isSeeded 5 = .ok (.if_icmp .ge 20, 3) := by decide +kernel
theorem d_Ge_isSeeded_8 : decode c_Ge_isSeeded 8 = .ok (.aload_n 0, 1) := by decide +kernel
theorem d_Ge_isSeeded_9 : decode c_Ge_isSeeded 9 = .ok (.getfield 17, 3) := by decide +kernel
theorem d_Ge_isSeeded_12 : decode c_Ge_isSeeded 12 = .ok (.iload_n 1, 1) := by decide +kernel
theorem d_Ge_isSeeded_13 : decode c_Ge_isSeeded 13 = .ok (.iaload, 1) := by decide +kernel
theorem d_Ge_isSeeded_14 : decode c_Ge_isSeeded 14 = .ok (.ifCond .eq 5, 3) := by decide +kernel
theorem d_Ge_isSeeded_17 : decode c_Ge_isSeeded 17 = .ok (.iconst 1, 1) := by decide +kernel
theorem d_Ge_isSeeded_18 : decode c_Ge_isSeeded 18 = .ok (.ireturn, 1) := by decide +kernel
theorem d_Ge_isSeeded_19 : decode c_Ge_isSeeded 19 = .ok (.iinc 1 1, 3) := by decide +kernel
theorem d_Ge_isSeeded_22 : decode c_Ge_isSeeded 22 = .ok (.goto (-20), 3) := by decide +kernel
theorem d_Ge_isSeeded_25 : decode c_Ge_isSeeded 25 = .ok (.iconst 0, 1) := by decide +kernel
theorem d_Ge_isSeeded_26 : decode c_Ge_isSeeded 26 = .ok (.ireturn, 1) := by decide +kernel
theorem d_Ge_passTime_0 : decode c_Ge_passTime 0 = .ok (.iload_n 1, 1) := by decide +kernel
theorem d_Ge_passTime_1 : decode c_Ge_passTime 1 = .ok (.ifCond .le 24, 3) := by decide +kernel
theorem d_Ge_passTime_4 : decode c_Ge_passTime 4 = .ok (.iload_n 1, 1) := by decide +kernel
theorem d_Ge_passTime_5 : decode c_Ge_passTime 5 = .ok (.ldc 60, 2) := by decide +kernel
theorem d_Ge_passTime_7 : decode c_Ge_passTime 7 = .ok (.aload_n 0, 1) := by decide +kernel
theorem d_Ge_passTime_8 : decode c_Ge_passTime 8 = .ok (.getfield 31, 3) := by decide +kernel
theorem d_Ge_passTime_11 : decode c_Ge_passTime 11 = .ok (.isub, 1) := by decide +kernel
theorem d_Ge_passTime_12 : decode c_Ge_passTime 12 = .ok (.if_icmp .gt 13, 3) := by decide +kernel
theorem d_Ge_passTime_15 : decode c_Ge_passTime 15 = .ok (.aload_n 0, 1) := by decide +kernel
theorem d_Ge_passTime_16 : decode c_Ge_passTime 16 = .ok (.dup, 1) := by decide +kernel
theorem d_Ge_passTime_17 : decode c_Ge_passTime 17 = .ok (.getfield 31, 3) := by decide +kernel
theorem d_Ge_passTime_20 : decode c_Ge_passTime 20 = .ok (.iload_n 1, 1) := by decide +kernel
theorem d_Ge_passTime_21 : decode c_Ge_passTime 21 = .ok (.iadd, 1) := by decide +kernel
theorem d_Ge_passTime_22 : decode c_Ge_passTime 22 = .ok (.putfield 31, 3) := by decide +kernel
theorem d_Ge_passTime_25 : decode c_Ge_passTime 25 = .ok (.aload_n 0, 1) := by decide +kernel
theorem d_Ge_passTime_26 : decode c_Ge_passTime 26 = .ok (.getfield 31, 3) := by decide +kernel
theorem d_Ge_passTime_29 : decode c_Ge_passTime 29 = .ok (.ireturn, 1) := by decide +kernel
theorem d_Ge_isDrawingDue_0 : decode c_Ge_isDrawingDue 0 = .ok (.aload_n 0, 1) := by decide +kernel
theorem d_Ge_isDrawingDue_1 : decode c_Ge_isDrawingDue 1 = .ok (.getfield 22, 3) := by decide +kernel
theorem d_Ge_isDrawingDue_4 : decode c_Ge_isDrawingDue 4 = .ok (.iconst 0, 1) := by decide +kernel
theorem d_Ge_isDrawingDue_5 : decode c_Ge_isDrawingDue 5 = .ok (.aaload, 1) := by decide +kernel
theorem d_Ge_isDrawingDue_6 : decode c_Ge_isDrawingDue 6 = .ok (.getfield 55, 3) := by decide +kernel
theorem d_Ge_isDrawingDue_9 : decode c_Ge_isDrawingDue 9 = .ok (.bipush 32, 2) := by decide +kernel
theorem d_Ge_isDrawingDue_11 : decode c_Ge_isDrawingDue 11 = .ok (.if_icmp .lt 29, 3) := by decide +kernel
theorem d_Ge_isDrawingDue_14 : decode c_Ge_isDrawingDue 14 = .ok (.aload_n 0, 1) := by decide +kernel
theorem d_Ge_isDrawingDue_15 : decode c_Ge_isDrawingDue 15 = .ok (.getfield 34, 3) := by decide +kernel
theorem d_Ge_isDrawingDue_18 : decode c_Ge_isDrawingDue 18 = .ok (.iconst (-1), 1) := by decide +kernel
theorem d_Ge_isDrawingDue_19 : decode c_Ge_isDrawingDue 19 = .ok (.if_icmp .eq 17, 3) := by decide +kernel
theorem d_Ge_isDrawingDue_22 : decode c_Ge_isDrawingDue 22 = .ok (.aload_n 0, 1) := by decide +kernel
theorem d_Ge_isDrawingDue_23 : decode c_Ge_isDrawingDue 23 = .ok (.getfield 31, 3) := by decide +kernel
theorem d_Ge_isDrawingDue_26 : decode c_Ge_isDrawingDue 26 = .ok (.aload_n 0, 1) := by decide +kernel
theorem d_Ge_isDrawingDue_27 : decode c_Ge_isDrawingDue 27 = .ok (.getfield 34, 3) := by decide +kernel
theorem d_Ge_isDrawingDue_30 : decode c_Ge_isDrawingDue 30 = .ok (.isub, 1) := by decide +kernel
theorem d_Ge_isDrawingDue_31 : decode c_Ge_isDrawingDue 31 = .ok (.bipush 100, 2) := by decide +kernel
theorem d_Ge_isDrawingDue_33 : decode c_Ge_isDrawingDue 33 = .ok (.if_icmp .lt 7, 3) := by decide +kernel
theorem d_Ge_isDrawingDue_36 : decode c_Ge_isDrawingDue 36 = .ok (.iconst 1, 1) := by decide +kernel
theorem d_Ge_isDrawingDue_37 : decode c_Ge_isDrawingDue 37 = .ok (.goto 4, 3) := by decide +kernel
theorem d_Ge_isDrawingDue_40 : decode c_Ge_isDrawingDue 40 = .ok (.iconst 0, 1) := by decide +kernel
theorem d_Ge_isDrawingDue_41 : decode c_Ge_isDrawingDue 41 = .ok (.ireturn, 1) := by decide +kernel
theorem d_Ge_draw_0 : decode c_Ge_draw 0 = .ok (.aload_n 0, 1) := by decide +kernel
theorem d_Ge_draw_1 : decode c_Ge_draw 1 = .ok (.dup, 1) := by decide +kernel
theorem d_Ge_draw_2 : decode c_Ge_draw 2 = .ok (.getfield 27, 3) := by decide +kernel
theorem d_Ge_draw_5 : decode c_Ge_draw 5 = .ok (.iconst 1, 1) := by decide +kernel
theorem d_Ge_draw_6 : decode c_Ge_draw 6 = .ok (.iadd, 1) := by decide +kernel
theorem d_Ge_draw_7 : decode c_Ge_draw 7 = .ok (.putfield 27, 3) := by decide +kernel
theorem d_Ge_draw_10 : decode c_Ge_draw 10 = .ok (.bipush 16, 2) := by decide +kernel
theorem d_Ge_draw_12 : decode c_Ge_draw 12 = .ok (.istore_n 1, 1) := by decide +kernel
theorem d_Ge_draw_13 : decode c_Ge_draw 13 = .ok (.iconst 0, 1) := by decide +kernel
theorem d_Ge_draw_14 : decode c_Ge_draw 14 = .ok (.istore_n 2, 1) := by decide +kernel
theorem d_Ge_draw_15 : decode c_Ge_draw 15 = .ok (.iload_n 2, 1) := by decide +kernel
theorem d_Ge_draw_16 : decode c_Ge_draw 16 = .ok (.bipush 32, 2) := by decide +kernel
theorem d_Ge_draw_18 : decode c_Ge_draw 18 = .ok (.if_icmp .ge 63, 3) := by decide +kernel
theorem d_Ge_draw_21 : decode c_Ge_draw 21 = .ok (.aload_n 0, 1) := by decide +kernel
theorem d_Ge_draw_22 : decode c_Ge_draw 22 = .ok (.getfield 27, 3) := by decide +kernel
theorem d_Ge_draw_25 : decode c_Ge_draw 25 = .ok (.iload_n 2, 1) := by decide +kernel
theorem d_Ge_draw_26 : decode c_Ge_draw 26 = .ok (.invokestatic 61, 3) := by decide +kernel
theorem d_Ge_draw_29 : decode c_Ge_draw 29 = .ok (.ifCond .eq 52, 3) := by decide +kernel
theorem d_Ge_draw_32 : decode c_Ge_draw 32 = .ok (.aload_n 0, 1) := by decide +kernel
theorem d_Ge_draw_33 : decode c_Ge_draw 33 = .ok (.getfield 40, 3) := by decide +kernel
theorem d_Ge_draw_36 : decode c_Ge_draw 36 = .ok (.aload_n 0, 1) := by decide +kernel
theorem d_Ge_draw_37 : decode c_Ge_draw 37 = .ok (.getfield 22, 3) := by decide +kernel
theorem d_Ge_draw_40 : decode c_Ge_draw 40 = .ok (.iload_n 2, 1) := by decide +kernel
theorem d_Ge_draw_41 : decode c_Ge_draw 41 = .ok (.aaload, 1) := by decide +kernel
theorem d_Ge_draw_42 : decode c_Ge_draw 42 = .ok (.getfield 65, 3) := by decide +kernel
theorem d_Ge_draw_45 : decode c_Ge_draw 45 = .ok (.aload_n 0, 1) := by decide +kernel
theorem d_Ge_draw_46 : decode c_Ge_draw 46 = .ok (.getfield 22, 3) := by decide +kernel
theorem d_Ge_draw_49 : decode c_Ge_draw 49 = .ok (.iload_n 2, 1) := by decide +kernel
theorem d_Ge_draw_50 : decode c_Ge_draw 50 = .ok (.aaload, 1) := by decide +kernel
theorem d_Ge_draw_51 : decode c_Ge_draw 51 = .ok (.getfield 55, 3) := by decide +kernel
theorem d_Ge_draw_54 : decode c_Ge_draw 54 = .ok (.aload_n 0, 1) := by decide +kernel
theorem d_Ge_draw_55 : decode c_Ge_draw 55 = .ok (.getfield 49, 3) := by decide +kernel
theorem d_Ge_draw_58 : decode c_Ge_draw 58 = .ok (.iload_n 1, 1) := by decide +kernel
theorem d_Ge_draw_59 : decode c_Ge_draw 59 = .ok (.invokevirtual 68, 3) := by decide +kernel
theorem d_Ge_draw_62 : decode c_Ge_draw 62 = .ok (.aload_n 0, 1) := by decide +kernel
theorem d_Ge_draw_63 : decode c_Ge_draw 63 = .ok (.getfield 22, 3) := by decide +kernel
theorem d_Ge_draw_66 : decode c_Ge_draw 66 = .ok (.iload_n 2, 1) := by decide +kernel
theorem d_Ge_draw_67 : decode c_Ge_draw 67 = .ok (.aaload, 1) := by decide +kernel
theorem d_Ge_draw_68 : decode c_Ge_draw 68 = .ok (.iconst 0, 1) := by decide +kernel
theorem d_Ge_draw_69 : decode c_Ge_draw 69 = .ok (.putfield 55, 3) := by decide +kernel
theorem d_Ge_draw_72 : decode c_Ge_draw 72 = .ok (.iinc 1 32, 3) := by decide +kernel
theorem d_Ge_draw_75 : decode c_Ge_draw 75 = .ok (.iinc 2 1, 3) := by decide +kernel
theorem d_Ge_draw_78 : decode c_Ge_draw 78 = .ok (.goto (-63), 3) := by decide +kernel
theorem d_Ge_draw_81 : decode c_Ge_draw 81 = .ok (.aload_n 0, 1) := by decide +kernel
theorem d_Ge_draw_82 : decode c_Ge_draw 82 = .ok (.iload_n 1, 1) := by decide +kernel
theorem d_Ge_draw_83 : decode c_Ge_draw 83 = .ok (.invokevirtual 71, 3) := by decide +kernel
theorem d_Ge_draw_86 : decode c_Ge_draw 86 = .ok (.aload_n 0, 1) := by decide +kernel
theorem d_Ge_draw_87 : decode c_Ge_draw 87 = .ok (.aload_n 0, 1) := by decide +kernel
theorem d_Ge_draw_88 : decode c_Ge_draw 88 = .ok (.getfield 31, 3) := by decide +kernel
theorem d_Ge_draw_91 : decode c_Ge_draw 91 = .ok (.putfield 34, 3) := by decide +kernel
theorem d_Ge_draw_94 : decode c_Ge_draw 94 = .ok (.return_, 1) := by decide +kernel
theorem d_Ge_isMultiple_0 : decode c_Ge_isMultiple 0 = .ok (.iload_n 0, 1) := by decide +kernel
theorem d_Ge_isMultiple_1 : decode c_Ge_isMultiple 1 = .ok (.iconst 1, 1) := by decide +kernel
theorem d_Ge_isMultiple_2 : decode c_Ge_isMultiple 2 = .ok (.iload_n 1, 1) := by decide +kernel
theorem d_Ge_isMultiple_3 : decode c_Ge_isMultiple 3 = .ok (.ishl, 1) := by decide +kernel
theorem d_Ge_isMultiple_4 : decode c_Ge_isMultiple 4 = .ok (.iconst 1, 1) := by decide +kernel
theorem d_Ge_isMultiple_5 : decode c_Ge_isMultiple 5 = .ok (.isub, 1) := by decide +kernel
theorem d_Ge_isMultiple_6 : decode c_Ge_isMultiple 6 = .ok (.iand, 1) := by decide +kernel
theorem d_Ge_isMultiple_7 : decode c_Ge_isMultiple 7 = .ok (.ifCond .ne 7, 3) := by decide +kernel
theorem d_Ge_isMultiple_10 : decode c_Ge_isMultiple 10 = .ok (.iconst 1, 1) := by decide +kernel
theorem d_Ge_isMultiple_11 : decode c_Ge_isMultiple 11 = .ok (.goto 4, 3) := by decide +kernel
theorem d_Ge_isMultiple_14 : decode c_Ge_isMultiple 14 = .ok (.iconst 0, 1) := by decide +kernel
theorem d_Ge_isMultiple_15 : decode c_Ge_isMultiple 15 = .ok (.ireturn, 1) := by decide +kernel
theorem d_Ge_reseedWith_0 : decode c_Ge_reseedWith 0 = .ok (.aload_n 1, 1) := by decide +kernel
theorem d_Ge_reseedWith_1 : decode c_Ge_reseedWith 1 = .ok (.iload_n 2, 1) := by decide +kernel
theorem d_Ge_reseedWith_2 : decode c_Ge_reseedWith 2 = .ok (.aload_n 0, 1) := by decide +kernel
theorem d_Ge_reseedWith_3 : decode c_Ge_reseedWith 3 = .ok (.getfield 49, 3) := by decide +kernel
theorem d_Ge_reseedWith_6 : decode c_Ge_reseedWith 6 = .ok (.bipush 16, 2) := by decide +kernel
theorem d_Ge_reseedWith_8 : decode c_Ge_reseedWith 8 = .ok (.iload_n 3, 1) := by decide +kernel
theorem d_Ge_reseedWith_9 : decode c_Ge_reseedWith 9 = .ok (.invokestatic 75, 3) := by decide +kernel
theorem d_Ge_reseedWith_12 : decode c_Ge_reseedWith 12 = .ok (.aload_n 0, 1) := by decide +kernel
theorem d_Ge_reseedWith_13 : decode c_Ge_reseedWith 13 = .ok (.bipush 16, 2) := by decide +kernel
theorem d_Ge_reseedWith_15 : decode c_Ge_reseedWith 15 = .ok (.iload_n 3, 1) := by decide +kernel
theorem d_Ge_reseedWith_16 : decode c_Ge_reseedWith 16 = .ok (.iadd, 1) := by decide +kernel
theorem d_Ge_reseedWith_17 : decode c_Ge_reseedWith 17 = .ok (.invokevirtual 71, 3) := by decide +kernel
theorem d_Ge_reseedWith_20 : decode c_Ge_reseedWith 20 = .ok (.return_, 1) := by decide +kernel
theorem d_Ge_reseed_0 : decode c_Ge_reseed 0 = .ok (.aload_n 0, 1) := by decide +kernel
theorem d_Ge_reseed_1 : decode c_Ge_reseed 1 = .ok (.getfield 11, 3) := by decide +kernel
theorem d_Ge_reseed_4 : decode c_Ge_reseed 4 = .ok (.iconst 0, 1) := by decide +kernel
theorem d_Ge_reseed_5 : decode c_Ge_reseed 5 = .ok (.aload_n 0, 1) := by decide +kernel
theorem d_Ge_reseed_6 : decode c_Ge_reseed 6 = .ok (.getfield 49, 3) := by decide +kernel
theorem d_Ge_reseed_9 : decode c_Ge_reseed 9 = .ok (.iconst 0, 1) := by decide +kernel
theorem d_Ge_reseed_10 : decode c_Ge_reseed 10 = .ok (.bipush 16, 2) := by decide +kernel
theorem d_Ge_reseed_12 : decode c_Ge_reseed 12 = .ok (.invokestatic 75, 3) := by decide +kernel
theorem d_Ge_reseed_15 : decode c_Ge_reseed 15 = .ok (.aload_n 0, 1) := by decide +kernel
theorem d_Ge_reseed_16 : decode c_Ge_reseed 16 = .ok (.getfield 40, 3) := by decide +kernel
theorem d_Ge_reseed_19 : decode c_Ge_reseed 19 = .ok (.aload_n 0, 1) := by decide +kernel
theorem d_Ge_reseed_20 : decode c_Ge_reseed 20 = .ok (.getfield 49, 3) := by decide +kernel
theorem d_Ge_reseed_23 : decode c_Ge_reseed 23 = .ok (.iload_n 1, 1) := by decide +kernel
theorem d_Ge_reseed_24 : decode c_Ge_reseed 24 = .ok (.aload_n 0, 1) := by decide +kernel
theorem d_Ge_reseed_25 : decode c_Ge_reseed 25 = .ok (.getfield 52, 3) := by decide +kernel
theorem d_Ge_reseed_28 : decode c_Ge_reseed 28 = .ok (.iconst 0, 1) := by decide +kernel
theorem d_Ge_reseed_29 : decode c_Ge_reseed 29 = .ok (.invokevirtual 68, 3) := by decide +kernel
theorem d_Ge_reseed_32 : decode c_Ge_reseed 32 = .ok (.aload_n 0, 1) := by decide +kernel
theorem d_Ge_reseed_33 : decode c_Ge_reseed 33 = .ok (.getfield 52, 3) := by decide +kernel
theorem d_Ge_reseed_36 : decode c_Ge_reseed 36 = .ok (.iconst 0, 1) := by decide +kernel
theorem d_Ge_reseed_37 : decode c_Ge_reseed 37 = .ok (.aload_n 0, 1) := by decide +kernel
theorem d_Ge_reseed_38 : decode c_Ge_reseed 38 = .ok (.getfield 11, 3) := by decide +kernel
theorem d_Ge_reseed_41 : decode c_Ge_reseed 41 = .ok (.iconst 0, 1) := by decide +kernel
theorem d_Ge_reseed_42 : decode c_Ge_reseed 42 = .ok (.bipush 16, 2) := by decide +kernel
theorem d_Ge_reseed_44 : decode c_Ge_reseed 44 = .ok (.invokestatic 75, 3) := by decide +kernel
theorem d_Ge_reseed_47 : decode c_Ge_reseed 47 = .ok (.aload_n 0, 1) := by decide +kernel
theorem d_Ge_reseed_48 : decode c_Ge_reseed 48 = .ok (.invokevirtual 81, 3) := by decide +kernel
theorem d_Ge_reseed_51 : decode c_Ge_reseed 51 = .ok (.return_, 1) := by decide +kernel
theorem d_Ge_generate_0 : decode c_Ge_generate 0 = .ok (.aload_n 0, 1) := by decide +kernel
theorem d_Ge_generate_1 : decode c_Ge_generate 1 = .ok (.getfield 45, 3) := by decide +kernel
theorem d_Ge_generate_4 : decode c_Ge_generate 4 = .ok (.aload_n 0, 1) := by decide +kernel
theorem d_Ge_generate_5 : decode c_Ge_generate 5 = .ok (.getfield 11, 3) := by decide +kernel
theorem d_Ge_generate_8 : decode c_Ge_generate 8 = .ok (.invokevirtual 84, 3) := by decide +kernel
theorem d_Ge_generate_11 : decode c_Ge_generate 11 = .ok (.iconst 0, 1) := by decide +kernel
theorem d_Ge_generate_12 : decode c_Ge_generate 12 = .ok (.istore_n 3, 1) := by decide +kernel
theorem d_Ge_generate_13 : decode c_Ge_generate 13 = .ok (.iload_n 3, 1) := by decide +kernel
theorem d_Ge_generate_14 : decode c_Ge_generate 14 = .ok (.iload_n 1, 1) := by decide +kernel
theorem d_Ge_generate_15 : decode c_Ge_generate 15 = .ok (.if_icmp .ge 26, 3) := by decide +kernel
theorem d_Ge_generate_18 : decode c_Ge_generate 18 = .ok (.aload_n 0, 1) := by decide +kernel
theorem d_Ge_generate_19 : decode c_Ge_generate 19 = .ok (.getfield 45, 3) := by decide +kernel
theorem d_Ge_generate_22 : decode c_Ge_generate 22 = .ok (.aload_n 0, 1) := by decide +kernel
theorem d_Ge_generate_23 : decode c_Ge_generate 23 = .ok (.getfield 17, 3) := by decide +kernel
theorem d_Ge_generate_26 : decode c_Ge_generate 26 = .ok (.aload_n 2, 1) := by decide +kernel
theorem d_Ge_generate_27 : decode c_Ge_generate 27 = .ok (.iload_n 3, 1) := by decide +kernel
theorem d_Ge_generate_28 : decode c_Ge_generate 28 = .ok (.invokevirtual 88, 3) := by decide +kernel
theorem d_Ge_generate_31 : decode c_Ge_generate 31 = .ok (.aload_n 0, 1) := by decide +kernel
theorem d_Ge_generate_32 : decode c_Ge_generate 32 = .ok (.invokevirtual 81, 3) := by decide +kernel
theorem d_Ge_generate_35 : decode c_Ge_generate 35 = .ok (.iinc 3 16, 3) := by decide +kernel
theorem d_Ge_generate_38 : decode c_Ge_generate 38 = .ok (.goto (-25), 3) := by decide +kernel
theorem d_Ge_generate_41 : decode c_Ge_generate 41 = .ok (.aload_n 0, 1) := by decide +kernel
theorem d_Ge_generate_42 : decode c_Ge_generate 42 = .ok (.getfield 45, 3) := by decide +kernel
theorem d_Ge_generate_45 : decode c_Ge_generate 45 = .ok (.aload_n 0, 1) := by decide +kernel
theorem d_Ge_generate_46 : decode c_Ge_generate 46 = .ok (.getfield 17, 3) := by decide +kernel
theorem d_Ge_generate_49 : decode c_Ge_generate 49 = .ok (.aload_n 0, 1) := by decide +kernel
theorem d_Ge_generate_50 : decode c_Ge_generate 50 = .ok (.getfield 11, 3) := by decide +kernel
theorem d_Ge_generate_53 : decode c_Ge_generate 53 = .ok (.iconst 0, 1) := by decide +kernel
theorem d_Ge_generate_54 : decode c_Ge_generate 54 = .ok (.invokevirtual 88, 3) := by decide +kernel
theorem d_Ge_generate_57 : decode c_Ge_generate 57 = .ok (.aload_n 0, 1) := by decide +kernel
theorem d_Ge_generate_58 : decode c_Ge_generate 58 = .ok (.invokevirtual 81, 3) := by decide +kernel
theorem d_Ge_generate_61 : decode c_Ge_generate 61 = .ok (.return_, 1) := by decide +kernel
theorem d_Ge_byteOfTwice_0 : decode c_Ge_byteOfTwice 0 = .ok (.aload_n 0, 1) := by decide +kernel
theorem d_Ge_byteOfTwice_1 : decode c_Ge_byteOfTwice 1 = .ok (.getfield 40, 3) := by decide +kernel
theorem d_Ge_byteOfTwice_4 : decode c_Ge_byteOfTwice 4 = .ok (.aload_n 0, 1) := by decide +kernel
theorem d_Ge_byteOfTwice_5 : decode c_Ge_byteOfTwice 5 = .ok (.getfield 22, 3) := by decide +kernel
theorem d_Ge_byteOfTwice_8 : decode c_Ge_byteOfTwice 8 = .ok (.iload_n 1, 1) := by decide +kernel
theorem d_Ge_byteOfTwice_9 : decode c_Ge_byteOfTwice 9 = .ok (.aaload, 1) := by decide +kernel
theorem d_Ge_byteOfTwice_10 : decode c_Ge_byteOfTwice 10 = .ok (.getfield 65, 3) := by decide +kernel
theorem d_Ge_byteOfTwice_13 : decode c_Ge_byteOfTwice 13 = .ok (.aload_n 0, 1) := by decide +kernel
theorem d_Ge_byteOfTwice_14 : decode c_Ge_byteOfTwice 14 = .ok (.getfield 22, 3) := by decide +kernel
theorem d_Ge_byteOfTwice_17 : decode c_Ge_byteOfTwice 17 = .ok (.iload_n 1, 1) := by decide +kernel
theorem d_Ge_byteOfTwice_18 : decode c_Ge_byteOfTwice 18 = .ok (.aaload, 1) := by decide +kernel
theorem d_Ge_byteOfTwice_19 : decode c_Ge_byteOfTwice 19 = .ok (.getfield 55, 3) := by decide +kernel
theorem d_Ge_byteOfTwice_22 : decode c_Ge_byteOfTwice 22 = .ok (.aload_n 0, 1) := by decide +kernel
theorem d_Ge_byteOfTwice_23 : decode c_Ge_byteOfTwice 23 = .ok (.getfield 52, 3) := by decide +kernel
theorem d_Ge_byteOfTwice_26 : decode c_Ge_byteOfTwice 26 = .ok (.iconst 0, 1) := by decide +kernel
theorem d_Ge_byteOfTwice_27 : decode c_Ge_byteOfTwice 27 = .ok (.invokevirtual 68, 3) := by decide +kernel
theorem d_Ge_byteOfTwice_30 : decode c_Ge_byteOfTwice 30 = .ok (.aload_n 0, 1) := by decide +kernel
theorem d_Ge_byteOfTwice_31 : decode c_Ge_byteOfTwice 31 = .ok (.getfield 52, 3) := by decide +kernel
theorem d_Ge_byteOfTwice_34 : decode c_Ge_byteOfTwice 34 = .ok (.iload_n 2, 1) := by decide +kernel
theorem d_Ge_byteOfTwice_35 : decode c_Ge_byteOfTwice 35 = .ok (.iaload, 1) := by decide +kernel
theorem d_Ge_byteOfTwice_36 : decode c_Ge_byteOfTwice 36 = .ok (.ireturn, 1) := by decide +kernel
theorem d_Ge_countOn_0 : decode c_Ge_countOn 0 = .ok (.iconst 0, 1) := by decide +kernel
theorem d_Ge_countOn_1 : decode c_Ge_countOn 1 = .ok (.istore_n 1, 1) := by decide +kernel
theorem d_Ge_countOn_2 : decode c_Ge_countOn 2 = .ok (.iload_n 1, 1) := by decide +kernel
theorem d_Ge_countOn_3 : decode c_Ge_countOn 3 = .ok (.bipush 16, 2) := by decide +kernel
theorem d_Ge_countOn_5 : decode c_Ge_countOn 5 = .ok (.if_icmp .ge 37, 3) := by decide +kernel
theorem d_Ge_countOn_8 : decode c_Ge_countOn 8 = .ok (.aload_n 0, 1) := by decide +kernel
theorem d_Ge_countOn_9 : decode c_Ge_countOn 9 = .ok (.getfield 17, 3) := by decide +kernel
theorem d_Ge_countOn_12 : decode c_Ge_countOn 12 = .ok (.iload_n 1, 1) := by decide +kernel
theorem d_Ge_countOn_13 : decode c_Ge_countOn 13 = .ok (.aload_n 0, 1) := by decide +kernel
theorem d_Ge_countOn_14 : decode c_Ge_countOn 14 = .ok (.getfield 17, 3) := by decide +kernel
theorem d_Ge_countOn_17 : decode c_Ge_countOn 17 = .ok (.iload_n 1, 1) := by decide +kernel
theorem d_Ge_countOn_18 : decode c_Ge_countOn 18 = .ok (.iaload, 1) := by decide +kernel
theorem d_Ge_countOn_19 : decode c_Ge_countOn 19 = .ok (.iconst 1, 1) := by decide +kernel
theorem d_Ge_countOn_20 : decode c_Ge_countOn 20 = .ok (.iadd, 1) := by decide +kernel
theorem d_Ge_countOn_21 : decode c_Ge_countOn 21 = .ok (.sipush 255, 3) := by decide +kernel
theorem d_Ge_countOn_24 : decode c_Ge_countOn 24 = .ok (.iand, 1) := by decide +kernel
theorem d_Ge_countOn_25 : decode c_Ge_countOn 25 = .ok (.iastore, 1) := by decide +kernel
theorem d_Ge_countOn_26 : decode c_Ge_countOn 26 = .ok (.aload_n 0, 1) := by decide +kernel
theorem d_Ge_countOn_27 : decode c_Ge_countOn 27 = .ok (.getfield 17, 3) := by decide +kernel
theorem d_Ge_countOn_30 : decode c_Ge_countOn 30 = .ok (.iload_n 1, 1) := by decide +kernel
theorem d_Ge_countOn_31 : decode c_Ge_countOn 31 = .ok (.iaload, 1) := by decide +kernel
theorem d_Ge_countOn_32 : decode c_Ge_countOn 32 = .ok (.ifCond .eq 4, 3) := by decide +kernel
theorem d_Ge_countOn_35 : decode c_Ge_countOn 35 = .ok (.return_, 1) := by decide +kernel
theorem d_Ge_countOn_36 : decode c_Ge_countOn 36 = .ok (.iinc 1 1, 3) := by decide +kernel
theorem d_Ge_countOn_39 : decode c_Ge_countOn 39 = .ok (.goto (-37), 3) := by decide +kernel
theorem d_Ge_countOn_42 : decode c_Ge_countOn 42 = .ok (.return_, 1) := by decide +kernel
theorem d_Po_new_0 : decode c_Po_new 0 = .ok (.aload_n 0, 1) := by decide +kernel
theorem d_Po_new_1 : decode c_Po_new 1 = .ok (.invokespecial 3, 3) := by decide +kernel
theorem d_Po_new_4 : decode c_Po_new 4 = .ok (.aload_n 0, 1) := by decide +kernel
theorem d_Po_new_5 : decode c_Po_new 5 = .ok (.bipush 12, 2) := by decide +kernel
theorem d_Po_new_7 : decode c_Po_new 7 = .ok (.newarray .int, 2) := by decide +kernel
theorem d_Po_new_9 : decode c_Po_new 9 = .ok (.putfield 9, 3) := by decide +kernel
theorem d_Po_new_12 : decode c_Po_new 12 = .ok (.aload_n 0, 1) := by decide +kernel
theorem d_Po_new_13 : decode c_Po_new 13 = .ok (.iconst 0, 1) := by decide +kernel
theorem d_Po_new_14 : decode c_Po_new 14 = .ok (.putfield 13, 3) := by decide +kernel
theorem d_Po_new_17 : decode c_Po_new 17 = .ok (.return_, 1) := by decide +kernel
theorem d_Po_add_0 : decode c_Po_add 0 = .ok (.aload_n 0, 1) := by decide +kernel
theorem d_Po_add_1 : decode c_Po_add 1 = .ok (.getfield 13, 3) := by decide +kernel
theorem d_Po_add_4 : decode c_Po_add 4 = .ok (.iconst 3, 1) := by decide +kernel
theorem d_Po_add_5 : decode c_Po_add 5 = .ok (.iadd, 1) := by decide +kernel
theorem d_Po_add_6 : decode c_Po_add 6 = .ok (.sipush 1536, 3) := by decide +kernel
theorem d_Po_add_9 : decode c_Po_add 9 = .ok (.if_icmp .le 5, 3) := by decide +kernel
theorem d_Po_add_12 : decode c_Po_add 12 = .ok (.iconst 0, 1) := by decide +kernel
theorem d_Po_add_13 : decode c_Po_add 13 = .ok (.ireturn, 1) := by decide +kernel
theorem d_Po_add_14 : decode c_Po_add 14 = .ok (.aload_n 0, 1) := by decide +kernel
theorem d_Po_add_15 : decode c_Po_add 15 = .ok (.getfield 13, 3) := by decide +kernel
theorem d_Po_add_18 : decode c_Po_add 18 = .ok (.iconst 3, 1) := by decide +kernel
theorem d_Po_add_19 : decode c_Po_add 19 = .ok (.iadd, 1) := by decide +kernel
theorem d_Po_add_20 : decode c_Po_add 20 = .ok (.aload_n 0, 1) := by decide +kernel
theorem d_Po_add_21 : decode c_Po_add 21 = .ok (.getfield 9, 3) := by decide +kernel
theorem d_Po_add_24 : decode c_Po_add 24 = .ok (.arraylength, 1) := by decide +kernel
theorem d_Po_add_25 : decode c_Po_add 25 = .ok (.if_icmp .le 7, 3) := by decide +kernel
theorem d_Po_add_28 : decode c_Po_add 28 = .ok (.aload_n 0, 1) := by decide +kernel
theorem d_Po_add_29 : decode c_Po_add 29 = .ok (.invokevirtual 17, 3) := by decide +kernel
theorem d_Po_add_32 : decode c_Po_add 32 = .ok (.aload_n 0, 1) := by decide +kernel
theorem d_Po_add_33 : decode c_Po_add 33 = .ok (.getfield 9, 3) := by decide +kernel
theorem d_Po_add_36 : decode c_Po_add 36 = .ok (.aload_n 0, 1) := by decide +kernel
theorem d_Po_add_37 : decode c_Po_add 37 = .ok (.getfield 13, 3) := by decide +kernel
theorem d_Po_add_40 : decode c_Po_add 40 = .ok (.iload_n 1, 1) := by decide +kernel
theorem d_Po_add_41 : decode c_Po_add 41 = .ok (.iastore, 1) := by decide +kernel
theorem d_Po_add_42 : decode c_Po_add 42 = .ok (.aload_n 0, 1) := by decide +kernel
theorem d_Po_add_43 : decode c_Po_add 43 = .ok (.getfield 9, 3) := by decide +kernel
theorem d_Po_add_46 : decode c_Po_add 46 = .ok (.aload_n 0, 1) := by decide +kernel
theorem d_Po_add_47 : decode c_Po_add 47 = .ok (.getfield 13, 3) := by decide +kernel
theorem d_Po_add_50 : decode c_Po_add 50 = .ok (.iconst 1, 1) := by decide +kernel
theorem d_Po_add_51 : decode c_Po_add 51 = .ok (.iadd, 1) := by decide +kernel
theorem d_Po_add_52 : decode c_Po_add 52 = .ok (.iconst 1, 1) := by decide +kernel
theorem d_Po_add_53 : decode c_Po_add 53 = .ok (.iastore, 1) := by decide +kernel
theorem d_Po_add_54 : decode c_Po_add 54 = .ok (.aload_n 0, 1) := by decide +kernel
theorem d_Po_add_55 : decode c_Po_add 55 = .ok (.getfield 9, 3) := by decide +kernel
theorem d_Po_add_58 : decode c_Po_add 58 = .ok (.aload_n 0, 1) := by decide +kernel
theorem d_Po_add_59 : decode c_Po_add 59 = .ok (.getfield 13, 3) := by decide +kernel
theorem d_Po_add_62 : decode c_Po_add 62 = .ok (.iconst 2, 1) := by decide +kernel
theorem d_Po_add_63 : decode c_Po_add 63 = .ok (.iadd, 1) := by decide +kernel
theorem d_Po_add_64 : decode c_Po_add 64 = .ok (.iload_n 2, 1) := by decide +kernel
theorem d_Po_add_65 : decode c_Po_add 65 = .ok (.iastore, 1) := by decide +kernel
theorem d_Po_add_66 : decode c_Po_add 66 = .ok (.aload_n 0, 1) := by decide +kernel
theorem d_Po_add_67 : decode c_Po_add 67 = .ok (.dup, 1) := by decide +kernel
theorem d_Po_add_68 : decode c_Po_add 68 = .ok (.getfield 13, 3) := by decide +kernel
theorem d_Po_add_71 : decode c_Po_add 71 = .ok (.iconst 3, 1) := by decide +kernel
theorem d_Po_add_72 : decode c_Po_add 72 = .ok (.iadd, 1) := by decide +kernel
theorem d_Po_add_73 : decode c_Po_add 73 = .ok (.putfield 13, 3) := by decide +kernel
theorem d_Po_add_76 : decode c_Po_add 76 = .ok (.iconst 1, 1) := by decide +kernel
theorem d_Po_add_77 : decode c_Po_add 77 = .ok (.ireturn, 1) := by decide +kernel
theorem d_Po_grow_0 : decode c_Po_grow 0 = .ok (.iconst 2, 1) := by decide +kernel
theorem d_Po_grow_1 : decode c_Po_grow 1 = .ok (.aload_n 0, 1) := by decide +kernel
theorem d_Po_grow_2 : decode c_Po_grow 2 = .ok (.getfield 9, 3) := by decide +kernel
theorem d_Po_grow_5 : decode c_Po_grow 5 = .ok (.arraylength, 1) := by decide +kernel
theorem d_Po_grow_6 : decode c_Po_grow 6 = .ok (.imul, 1) := by decide +kernel
theorem d_Po_grow_7 : decode c_Po_grow 7 = .ok (.newarray .int, 2) := by decide +kernel
theorem d_Po_grow_9 : decode c_Po_grow 9 = .ok (.astore_n 1, 1) := by decide +kernel
theorem d_Po_grow_10 : decode c_Po_grow 10 = .ok (.aload_n 0, 1) := by decide +kernel
theorem d_Po_grow_11 : decode c_Po_grow 11 = .ok (.getfield 9, 3) := by decide +kernel
theorem d_Po_grow_14 : decode c_Po_grow 14 = .ok (.iconst 0, 1) := by decide +kernel
theorem d_Po_grow_15 : decode c_Po_grow 15 = .ok (.aload_n 1, 1) := by decide +kernel
theorem d_Po_grow_16 : decode c_Po_grow 16 = .ok (.iconst 0, 1) := by decide +kernel
theorem d_Po_grow_17 : decode c_Po_grow 17 = .ok (.aload_n 0, 1) := by decide +kernel
theorem d_Po_grow_18 : decode c_Po_grow 18 = .ok (.getfield 13, 3) := by decide +kernel
theorem d_Po_grow_21 : decode c_Po_grow 21 = .ok (.invokestatic 20, 3) := by decide +kernel
theorem d_Po_grow_24 : decode c_Po_grow 24 = .ok (.aload_n 0, 1) := by decide +kernel
theorem d_Po_grow_25 : decode c_Po_grow 25 = .ok (.aload_n 1, 1) := by decide +kernel
theorem d_Po_grow_26 : decode c_Po_grow 26 = .ok (.putfield 9, 3) := by decide +kernel
theorem d_Po_grow_29 : decode c_Po_grow 29 = .ok (.return_, 1) := by decide +kernel
theorem d_Pd_new_0 : decode c_Pd_new 0 = .ok (.aload_n 0, 1) := by decide +kernel
theorem d_Pd_new_1 : decode c_Pd_new 1 = .ok (.invokespecial 1, 3) := by decide +kernel
theorem d_Pd_new_4 : decode c_Pd_new 4 = .ok (.aload_n 0, 1) := by decide +kernel
theorem d_Pd_new_5 : decode c_Pd_new 5 = .ok (.new 7, 3) := by decide +kernel
theorem d_Pd_new_8 : decode c_Pd_new 8 = .ok (.dup, 1) := by decide +kernel
theorem d_Pd_new_9 : decode c_Pd_new 9 = .ok (.invokespecial 9, 3) := by decide +kernel
theorem d_Pd_new_12 : decode c_Pd_new 12 = .ok (.putfield 10, 3) := by decide +kernel
theorem d_Pd_new_15 : decode c_Pd_new 15 = .ok (.aload_n 0, 1) := by decide +kernel
theorem d_Pd_new_16 : decode c_Pd_new 16 = .ok (.new 16, 3) := by decide +kernel
theorem d_Pd_new_19 : decode c_Pd_new 19 = .ok (.dup, 1) := by decide +kernel
theorem d_Pd_new_20 : decode c_Pd_new 20 = .ok (.invokespecial 18, 3) := by decide +kernel
theorem d_Pd_new_23 : decode c_Pd_new 23 = .ok (.putfield 19, 3) := by decide +kernel
theorem d_Pd_new_26 : decode c_Pd_new 26 = .ok (.aload_n 0, 1) := by decide +kernel
theorem d_Pd_new_27 : decode c_Pd_new 27 = .ok (.sipush 256, 3) := by decide +kernel
theorem d_Pd_new_30 : decode c_Pd_new 30 = .ok (.newarray .int, 2) := by decide +kernel
theorem d_Pd_new_32 : decode c_Pd_new 32 = .ok (.putfield 23, 3) := by decide +kernel
theorem d_Pd_new_35 : decode c_Pd_new 35 = .ok (.aload_n 0, 1) := by decide +kernel
theorem d_Pd_new_36 : decode c_Pd_new 36 = .ok (.iconst 0, 1) := by decide +kernel
theorem d_Pd_new_37 : decode c_Pd_new 37 = .ok (.putfield 27, 3) := by decide +kernel
theorem d_Pd_new_40 : decode c_Pd_new 40 = .ok (.aload_n 0, 1) := by decide +kernel
theorem d_Pd_new_41 : decode c_Pd_new 41 = .ok (.bipush 64, 2) := by decide +kernel
theorem d_Pd_new_43 : decode c_Pd_new 43 = .ok (.newarray .int, 2) := by decide +kernel
theorem d_Pd_new_45 : decode c_Pd_new 45 = .ok (.putfield 31, 3) := by decide +kernel
theorem d_Pd_new_48 : decode c_Pd_new 48 = .ok (.return_, 1) := by decide +kernel
theorem d_Pd_init_0 : decode c_Pd_init 0 = .ok (.aload_n 0, 1) := by decide +kernel
theorem d_Pd_init_1 : decode c_Pd_init 1 = .ok (.invokevirtual 34, 3) := by decide +kernel
theorem d_Pd_init_4 : decode c_Pd_init 4 = .ok (.aload_n 0, 1) := by decide +kernel
theorem d_Pd_init_5 : decode c_Pd_init 5 = .ok (.getfield 19, 3) := by decide +kernel
theorem d_Pd_init_8 : decode c_Pd_init 8 = .ok (.iconst 0, 1) := by decide +kernel
theorem d_Pd_init_9 : decode c_Pd_init 9 = .ok (.invokevirtual 37, 3) := by decide +kernel
theorem d_Pd_init_12 : decode c_Pd_init 12 = .ok (.return_, 1) := by decide +kernel
theorem d_Pd_event_0 : decode c_Pd_event 0 = .ok (.iload_n 1, 1) := by decide +kernel
theorem d_Pd_event_1 : decode c_Pd_event 1 = .ok (.invokestatic 41, 3) := by decide +kernel
theorem d_Pd_event_4 : decode c_Pd_event 4 = .ok (.ifCond .eq 17, 3) := by decide +kernel
theorem d_Pd_event_7 : decode c_Pd_event 7 = .ok (.iload_n 2, 1) := by decide +kernel
theorem d_Pd_event_8 : decode c_Pd_event 8 = .ok (.invokestatic 45, 3) := by decide +kernel
theorem d_Pd_event_11 : decode c_Pd_event 11 = .ok (.ifCond .eq 10, 3) := by decide +kernel
theorem d_Pd_event_14 : decode c_Pd_event 14 = .ok (.iload_n 3, 1) := by decide +kernel
theorem d_Pd_event_15 : decode c_Pd_event 15 = .ok (.invokestatic 41, 3) := by decide +kernel
theorem d_Pd_event_18 : decode c_Pd_event 18 = .ok (.ifCond .ne 5, 3) := by decide +kernel
theorem d_Pd_event_21 : decode c_Pd_event 21 = .ok (.iconst 0, 1) := by decide +kernel
theorem d_Pd_event_22 : decode c_Pd_event 22 = .ok (.ireturn, 1) := by decide +kernel
theorem d_Pd_event_23 : decode c_Pd_event 23 = .ok (.aload_n 0, 1) := by decide +kernel
theorem d_Pd_event_24 : decode c_Pd_event 24 = .ok (.getfield 10, 3) := by decide +kernel
theorem d_Pd_event_27 : decode c_Pd_event 27 = .ok (.getfield 48, 3) := by decide +kernel
theorem d_Pd_event_30 : decode c_Pd_event 30 = .ok (.iload_n 2, 1) := by decide +kernel
theorem d_Pd_event_31 : decode c_Pd_event 31 = .ok (.aaload, 1) := by decide +kernel
theorem d_Pd_event_32 : decode c_Pd_event 32 = .ok (.iload_n 1, 1) := by decide +kernel
theorem d_Pd_event_33 : decode c_Pd_event 33 = .ok (.iload_n 3, 1) := by decide +kernel
theorem d_Pd_event_34 : decode c_Pd_event 34 = .ok (.invokevirtual 52, 3) := by decide +kernel
theorem d_Pd_event_37 : decode c_Pd_event 37 = .ok (.ireturn, 1) := by decide +kernel
theorem d_Pd_tick_0 : decode c_Pd_tick 0 = .ok (.aload_n 0, 1) := by decide +kernel
theorem d_Pd_tick_1 : decode c_Pd_tick 1 = .ok (.getfield 10, 3) := by decide +kernel
theorem d_Pd_tick_4 : decode c_Pd_tick 4 = .ok (.iload_n 1, 1) := by decide +kernel
theorem d_Pd_tick_5 : decode c_Pd_tick 5 = .ok (.invokevirtual 58, 3) := by decide +kernel
theorem d_Pd_tick_8 : decode c_Pd_tick 8 = .ok (.ireturn, 1) := by decide +kernel
theorem d_Pd_request_0 : decode c_Pd_request 0 = .ok (.iload_n 1, 1) := by decide +kernel
theorem d_Pd_request_1 : decode c_Pd_request 1 = .ok (.iconst 1, 1) := by decide +kernel
theorem d_Pd_request_2 : decode c_Pd_request 2 = .ok (.if_icmp .lt 10, 3) := by decide +kernel
theorem d_Pd_request_5 : decode c_Pd_request 5 = .ok (.iload_n 1, 1) := by decide +kernel
theorem d_Pd_request_6 : decode c_Pd_request 6 = .ok (.sipush 256, 3) := by decide +kernel
theorem d_Pd_request_9 : decode c_Pd_request 9 = .ok (.if_icmp .le 5, 3) := by decide +kernel
theorem d_Pd_request_12 : decode c_Pd_request 12 = .ok (.iconst (-1), 1) := by decide +kernel
theorem d_Pd_request_13 : decode c_Pd_request 13 = .ok (.ireturn, 1) := by decide +kernel
theorem d_Pd_request_14 : decode c_Pd_request 14 = .ok (.aload_n 0, 1) := by decide +kernel
theorem d_Pd_request_15 : decode c_Pd_request 15 = .ok (.getfield 10, 3) := by decide +kernel
theorem d_Pd_request_18 : decode c_Pd_request 18 = .ok (.invokevirtual 62, 3) := by decide +kernel
theorem d_Pd_request_21 : decode c_Pd_request 21 = .ok (.ifCond .eq 10, 3) := by decide +kernel
theorem d_Pd_request_24 : decode c_Pd_request 24 = .ok (.aload_n 0, 1) := by decide +kernel
theorem d_Pd_request_25 : decode c_Pd_request 25 = .ok (.getfield 10, 3) := by decide +kernel
theorem d_Pd_request_28 : decode c_Pd_request 28 = .ok (.invokevirtual 66, 3) := by decide +kernel
theorem d_Pd_request_31 : decode c_Pd_request 31 = .ok (.aload_n 0, 1) := by decide +kernel
theorem d_Pd_request_32 : decode c_Pd_request 32 = .ok (.getfield 10, 3) := by decide +kernel
theorem d_Pd_request_35 : decode c_Pd_request 35 = .ok (.invokevirtual 69, 3) := by decide +kernel
theorem d_Pd_request_38 : decode c_Pd_request 38 = .ok (.ifCond .ne 6, 3) := by decide +kernel
theorem d_Pd_request_41 : decode c_Pd_request 41 = .ok (.bipush (-2), 2) := by decide +kernel
theorem d_Pd_request_43 : decode c_Pd_request 43 = .ok (.ireturn, 1) := by decide +kernel
theorem d_Pd_request_44 : decode c_Pd_request 44 = .ok (.aload_n 0, 1) := by decide +kernel
theorem d_Pd_request_45 : decode c_Pd_request 45 = .ok (.getfield 10, 3) := by decide +kernel
theorem d_Pd_request_48 : decode c_Pd_request 48 = .ok (.iload_n 1, 1) := by decide +kernel
theorem d_Pd_request_49 : decode c_Pd_request 49 = .ok (.aload_n 0, 1) := by decide +kernel
theorem d_Pd_request_50 : decode c_Pd_request 50 = .ok (.getfield 23, 3) := by decide +kernel
theorem d_Pd_request_53 : decode c_Pd_request 53 = .ok (.invokevirtual 72, 3) := by decide +kernel
theorem d_Pd_request_56 : decode c_Pd_request 56 = .ok (.aload_n 0, 1) := by decide +kernel
theorem d_Pd_request_57 : decode c_Pd_request 57 = .ok (.iload_n 1, 1) := by decide +kernel
theorem d_Pd_request_58 : decode c_Pd_request 58 = .ok (.putfield 27, 3) := by decide +kernel
theorem d_Pd_request_61 : decode c_Pd_request 61 = .ok (.iload_n 1, 1) := by decide +kernel
theorem d_Pd_request_62 : decode c_Pd_request 62 = .ok (.ireturn, 1) := by decide +kernel
theorem d_Pd_out_0 : decode c_Pd_out 0 = .ok (.aload_n 0, 1) := by decide +kernel
theorem d_Pd_out_1 : decode c_Pd_out 1 = .ok (.getfield 23, 3) := by decide +kernel
theorem d_Pd_out_4 : decode c_Pd_out 4 = .ok (.iload_n 1, 1) := by decide +kernel
theorem d_Pd_out_5 : decode c_Pd_out 5 = .ok (.aload_n 0, 1) := by decide +kernel
theorem d_Pd_out_6 : decode c_Pd_out 6 = .ok (.getfield 27, 3) := by decide +kernel
theorem d_Pd_out_9 : decode c_Pd_out 9 = .ok (.invokestatic 76, 3) := by decide +kernel
theorem d_Pd_out_12 : decode c_Pd_out 12 = .ok (.ireturn, 1) := by decide +kernel
theorem d_Pd_save_0 : decode c_Pd_save 0 = .ok (.aload_n 0, 1) := by decide +kernel
theorem d_Pd_save_1 : decode c_Pd_save 1 = .ok (.getfield 10, 3) := by decide +kernel
theorem d_Pd_save_4 : decode c_Pd_save 4 = .ok (.invokevirtual 69, 3) := by decide +kernel
theorem d_Pd_save_7 : decode c_Pd_save 7 = .ok (.ifCond .ne 6, 3) := by decide +kernel
theorem d_Pd_save_10 : decode c_Pd_save 10 = .ok (.bipush (-2), 2) := by decide +kernel
theorem d_Pd_save_12 : decode c_Pd_save 12 = .ok (.ireturn, 1) := by decide +kernel
theorem d_Pd_save_13 : decode c_Pd_save 13 = .ok (.aload_n 0, 1) := by decide +kernel
theorem d_Pd_save_14 : decode c_Pd_save 14 = .ok (.invokevirtual 80, 3) := by decide +kernel
theorem d_Pd_save_17 : decode c_Pd_save 17 = .ok (.ireturn, 1) := by decide +kernel
theorem d_Pd_load_0 : decode c_Pd_load 0 = .ok (.aload_n 0, 1) := by decide +kernel
theorem d_Pd_load_1 : decode c_Pd_load 1 = .ok (.getfield 19, 3) := by decide +kernel
theorem d_Pd_load_4 : decode c_Pd_load 4 = .ok (.invokevirtual 84, 3) := by decide +kernel
theorem d_Pd_load_7 : decode c_Pd_load 7 = .ok (.istore_n 1, 1) := by decide +kernel
theorem d_Pd_load_8 : decode c_Pd_load 8 = .ok (.iload_n 1, 1) := by decide +kernel
theorem d_Pd_load_9 : decode c_Pd_load 9 = .ok (.ifCond .ne 5, 3) := by decide +kernel
theorem d_Pd_load_12 : decode c_Pd_load 12 = .ok (.iconst 1, 1) := by decide +kernel
theorem d_Pd_load_13 : decode c_Pd_load 13 = .ok (.ireturn, 1) := by decide +kernel
theorem d_Pd_load_14 : decode c_Pd_load 14 = .ok (.aload_n 0, 1) := by decide +kernel
theorem d_Pd_load_15 : decode c_Pd_load 15 = .ok (.getfield 10, 3) := by decide +kernel
theorem d_Pd_load_18 : decode c_Pd_load 18 = .ok (.aload_n 0, 1) := by decide +kernel
theorem d_Pd_load_19 : decode c_Pd_load 19 = .ok (.getfield 19, 3) := by decide +kernel
theorem d_Pd_load_22 : decode c_Pd_load 22 = .ok (.getfield 87, 3) := by decide +kernel
theorem d_Pd_load_25 : decode c_Pd_load 25 = .ok (.iload_n 1, 1) := by decide +kernel
theorem d_Pd_load_26 : decode c_Pd_load 26 = .ok (.bipush 64, 2) := by decide +kernel
theorem d_Pd_load_28 : decode c_Pd_load 28 = .ok (.invokevirtual 90, 3) := by decide +kernel
theorem d_Pd_load_31 : decode c_Pd_load 31 = .ok (.aload_n 0, 1) := by decide +kernel
theorem d_Pd_load_32 : decode c_Pd_load 32 = .ok (.invokevirtual 80, 3) := by decide +kernel
theorem d_Pd_load_35 : decode c_Pd_load 35 = .ok (.ireturn, 1) := by decide +kernel
theorem d_Pd_crash_0 : decode c_Pd_crash 0 = .ok (.aload_n 0, 1) := by decide +kernel
theorem d_Pd_crash_1 : decode c_Pd_crash 1 = .ok (.getfield 19, 3) := by decide +kernel
theorem d_Pd_crash_4 : decode c_Pd_crash 4 = .ok (.iload_n 1, 1) := by decide +kernel
theorem d_Pd_crash_5 : decode c_Pd_crash 5 = .ok (.invokevirtual 37, 3) := by decide +kernel
theorem d_Pd_crash_8 : decode c_Pd_crash 8 = .ok (.return_, 1) := by decide +kernel
theorem d_Pd_byteOf_0 : decode c_Pd_byteOf 0 = .ok (.iload_n 1, 1) := by decide +kernel
theorem d_Pd_byteOf_1 : decode c_Pd_byteOf 1 = .ok (.tableswitch 87 0 2 #[27, 47, 67], 27) := by decide +kernel
theorem d_Pd_byteOf_28 : decode c_Pd_byteOf 28 = .ok (.aload_n 0, 1) := by decide +kernel
theorem d_Pd_byteOf_29 : decode c_Pd_byteOf 29 = .ok (.getfield 10, 3) := by decide +kernel
theorem d_Pd_byteOf_32 : decode c_Pd_byteOf 32 = .ok (.getfield 94, 3) := by decide +kernel
theorem d_Pd_byteOf_35 : decode c_Pd_byteOf 35 = .ok (.iload_n 2, 1) := by decide +kernel
theorem d_Pd_byteOf_36 : decode c_Pd_byteOf 36 = .ok (.aload_n 0, 1) := by decide +kernel
theorem d_Pd_byteOf_37 : decode c_Pd_byteOf 37 = .ok (.getfield 10, 3) := by decide +kernel
theorem d_Pd_byteOf_40 : decode c_Pd_byteOf 40 = .ok (.getfield 94, 3) := by decide +kernel
theorem d_Pd_byteOf_43 : decode c_Pd_byteOf 43 = .ok (.arraylength, 1) := by decide +kernel
theorem d_Pd_byteOf_44 : decode c_Pd_byteOf 44 = .ok (.invokestatic 76, 3) := by decide +kernel
theorem d_Pd_byteOf_47 : decode c_Pd_byteOf 47 = .ok (.ireturn, 1) := by decide +kernel
theorem d_Pd_byteOf_48 : decode c_Pd_byteOf 48 = .ok (.aload_n 0, 1) := by decide +kernel
theorem d_Pd_byteOf_49 : decode c_Pd_byteOf 49 = .ok (.getfield 10, 3) := by decide +kernel
theorem d_Pd_byteOf_52 : decode c_Pd_byteOf 52 = .ok (.getfield 97, 3) := by decide +kernel
theorem d_Pd_byteOf_55 : decode c_Pd_byteOf 55 = .ok (.iload_n 2, 1) := by decide +kernel
theorem d_Pd_byteOf_56 : decode c_Pd_byteOf 56 = .ok (.aload_n 0, 1) := by decide +kernel
theorem d_Pd_byteOf_57 : decode c_Pd_byteOf 57 = .ok (.getfield 10, 3) := by decide +kernel
theorem d_Pd_byteOf_60 : decode c_Pd_byteOf 60 = .ok (.getfield 97, 3) := by decide +kernel
theorem d_Pd_byteOf_63 : decode c_Pd_byteOf 63 = .ok (.arraylength, 1) := by decide +kernel
theorem d_Pd_byteOf_64 : decode c_Pd_byteOf 64 = .ok (.invokestatic 76, 3) := by decide +kernel
theorem d_Pd_byteOf_67 : decode c_Pd_byteOf 67 = .ok (.ireturn, 1) := by decide +kernel
theorem d_Pd_byteOf_68 : decode c_Pd_byteOf 68 = .ok (.aload_n 0, 1) := by decide +kernel
theorem d_Pd_byteOf_69 : decode c_Pd_byteOf 69 = .ok (.getfield 19, 3) := by decide +kernel
theorem d_Pd_byteOf_72 : decode c_Pd_byteOf 72 = .ok (.getfield 87, 3) := by decide +kernel
theorem d_Pd_byteOf_75 : decode c_Pd_byteOf 75 = .ok (.iload_n 2, 1) := by decide +kernel
theorem d_Pd_byteOf_76 : decode c_Pd_byteOf 76 = .ok (.aload_n 0, 1) := by decide +kernel
theorem d_Pd_byteOf_77 : decode c_Pd_byteOf 77 = .ok (.getfield 19, 3) := by decide +kernel
theorem d_Pd_byteOf_80 : decode c_Pd_byteOf 80 = .ok (.getfield 87, 3) := by decide +kernel
theorem d_Pd_byteOf_83 : decode c_Pd_byteOf 83 = .ok (.arraylength, 1) := by decide +kernel
theorem d_Pd_byteOf_84 : decode c_Pd_byteOf 84 = .ok (.invokestatic 76, 3) := by decide +kernel
theorem d_Pd_byteOf_87 : decode c_Pd_byteOf 87 = .ok (.ireturn, 1) := by decide +kernel
theorem d_Pd_byteOf_88 : decode c_Pd_byteOf 88 = .ok (.aload_n 0, 1) := by decide +kernel
theorem d_Pd_byteOf_89 : decode c_Pd_byteOf 89 = .ok (.iload_n 1, 1) := by decide +kernel
theorem d_Pd_byteOf_90 : decode c_Pd_byteOf 90 = .ok (.iload_n 2, 1) := by decide +kernel
theorem d_Pd_byteOf_91 : decode c_Pd_byteOf 91 = .ok (.invokevirtual 100, 3) := by decide +kernel
theorem d_Pd_byteOf_94 : decode c_Pd_byteOf 94 = .ok (.ireturn, 1) := by decide +kernel
theorem d_Pd_spoil_0 : decode c_Pd_spoil 0 = .ok (.iload_n 1, 1) := by decide +kernel
theorem d_Pd_spoil_1 : decode c_Pd_spoil 1 = .ok (.ifCond .lt 22, 3) := by decide +kernel
theorem d_Pd_spoil_4 : decode c_Pd_spoil 4 = .ok (.iload_n 1, 1) := by decide +kernel
theorem d_Pd_spoil_5 : decode c_Pd_spoil 5 = .ok (.aload_n 0, 1) := by decide +kernel
theorem d_Pd_spoil_6 : decode c_Pd_spoil 6 = .ok (.getfield 19, 3) := by decide +kernel
theorem d_Pd_spoil_9 : decode c_Pd_spoil 9 = .ok (.getfield 87, 3) := by decide +kernel
theorem d_Pd_spoil_12 : decode c_Pd_spoil 12 = .ok (.arraylength, 1) := by decide +kernel
theorem d_Pd_spoil_13 : decode c_Pd_spoil 13 = .ok (.if_icmp .ge 10, 3) := by decide +kernel
theorem d_Pd_spoil_16 : decode c_Pd_spoil 16 = .ok (.iload_n 2, 1) := by decide +kernel
theorem d_Pd_spoil_17 : decode c_Pd_spoil 17 = .ok (.invokestatic 41, 3) := by decide +kernel
theorem d_Pd_spoil_20 : decode c_Pd_spoil 20 = .ok (.ifCond .ne 5, 3) := by decide +kernel
theorem d_Pd_spoil_23 : decode c_Pd_spoil 23 = .ok (.iconst 0, 1) := by decide +kernel
theorem d_Pd_spoil_24 : decode c_Pd_spoil 24 = .ok (.ireturn, 1) := by decide +kernel
theorem d_Pd_spoil_25 : decode c_Pd_spoil 25 = .ok (.aload_n 0, 1) := by decide +kernel
theorem d_Pd_spoil_26 : decode c_Pd_spoil 26 = .ok (.getfield 19, 3) := by decide +kernel
theorem d_Pd_spoil_29 : decode c_Pd_spoil 29 = .ok (.getfield 87, 3) := by decide +kernel
theorem d_Pd_spoil_32 : decode c_Pd_spoil 32 = .ok (.iload_n 1, 1) := by decide +kernel
theorem d_Pd_spoil_33 : decode c_Pd_spoil 33 = .ok (.iload_n 2, 1) := by decide +kernel
theorem d_Pd_spoil_34 : decode c_Pd_spoil 34 = .ok (.iastore, 1) := by decide +kernel
theorem d_Pd_spoil_35 : decode c_Pd_spoil 35 = .ok (.iconst 1, 1) := by decide +kernel
theorem d_Pd_spoil_36 : decode c_Pd_spoil 36 = .ok (.ireturn, 1) := by decide +kernel
theorem d_Pd_about_0 : decode c_Pd_about 0 = .ok (.iload_n 1, 1) := by decide +kernel
theorem d_Pd_about_1 : decode c_Pd_about 1 = .ok (.tableswitch 95 0 5 #[39, 47, 55, 63, 71, 79], 39) := by decide +kernel
theorem d_Pd_about_40 : decode c_Pd_about 40 = .ok (.aload_n 0, 1) := by decide +kernel
theorem d_Pd_about_41 : decode c_Pd_about 41 = .ok (.getfield 10, 3) := by decide +kernel
theorem d_Pd_about_44 : decode c_Pd_about 44 = .ok (.getfield 104, 3) := by decide +kernel
theorem d_Pd_about_47 : decode c_Pd_about 47 = .ok (.ireturn, 1) := by decide +kernel
theorem d_Pd_about_48 : decode c_Pd_about 48 = .ok (.aload_n 0, 1) := by decide +kernel
theorem d_Pd_about_49 : decode c_Pd_about 49 = .ok (.getfield 10, 3) := by decide +kernel
theorem d_Pd_about_52 : decode c_Pd_about 52 = .ok (.getfield 107, 3) := by decide +kernel
theorem d_Pd_about_55 : decode c_Pd_about 55 = .ok (.ireturn, 1) := by decide +kernel
theorem d_Pd_about_56 : decode c_Pd_about 56 = .ok (.aload_n 0, 1) := by decide +kernel
theorem d_Pd_about_57 : decode c_Pd_about 57 = .ok (.getfield 10, 3) := by decide +kernel
theorem d_Pd_about_60 : decode c_Pd_about 60 = .ok (.getfield 110, 3) := by decide +kernel
theorem d_Pd_about_63 : decode c_Pd_about 63 = .ok (.ireturn, 1) := by decide +kernel
theorem d_Pd_about_64 : decode c_Pd_about 64 = .ok (.aload_n 0, 1) := by decide +kernel
theorem d_Pd_about_65 : decode c_Pd_about 65 = .ok (.getfield 19, 3) := by decide +kernel
theorem d_Pd_about_68 : decode c_Pd_about 68 = .ok (.getfield 113, 3) := by decide +kernel
theorem d_Pd_about_71 : decode c_Pd_about 71 = .ok (.ireturn, 1) := by decide +kernel
theorem d_Pd_about_72 : decode c_Pd_about 72 = .ok (.aload_n 0, 1) := by decide +kernel
theorem d_Pd_about_73 : decode c_Pd_about 73 = .ok (.getfield 19, 3) := by decide +kernel
theorem d_Pd_about_76 : decode c_Pd_about 76 = .ok (.getfield 116, 3) := by decide +kernel
theorem d_Pd_about_79 : decode c_Pd_about 79 = .ok (.ireturn, 1) := by decide +kernel
theorem d_Pd_about_80 : decode c_Pd_about 80 = .ok (.aload_n 0, 1) := by decide +kernel
theorem d_Pd_about_81 : decode c_Pd_about 81 = .ok (.getfield 10, 3) := by decide +kernel
theorem d_Pd_about_84 : decode c_Pd_about 84 = .ok (.invokevirtual 69, 3) := by decide +kernel
theorem d_Pd_about_87 : decode c_Pd_about 87 = .ok (.ifCond .eq 7, 3) := by decide +kernel
theorem d_Pd_about_90 : decode c_Pd_about 90 = .ok (.iconst 1, 1) := by decide +kernel
theorem d_Pd_about_91 : decode c_Pd_about 91 = .ok (.goto 4, 3) := by decide +kernel
theorem d_Pd_about_94 : decode c_Pd_about 94 = .ok (.iconst 0, 1) := by decide +kernel
theorem d_Pd_about_95 : decode c_Pd_about 95 = .ok (.ireturn, 1) := by decide +kernel
theorem d_Pd_about_96 : decode c_Pd_about 96 = .ok (.aload_n 0, 1) := by decide +kernel
theorem d_Pd_about_97 : decode c_Pd_about 97 = .ok (.iload_n 1, 1) := by decide +kernel
theorem d_Pd_about_98 : decode c_Pd_about 98 = .ok (.invokevirtual 119, 3) := by decide +kernel
theorem d_Pd_about_101 : decode c_Pd_about 101 = .ok (.ireturn, 1) := by decide +kernel
theorem d_Pd_startAgain_0 : decode c_Pd_startAgain 0 = .ok (.aload_n 0, 1) := by decide +kernel
theorem d_Pd_startAgain_1 : decode c_Pd_startAgain 1 = .ok (.getfield 10, 3) := by decide +kernel
theorem d_Pd_startAgain_4 : decode c_Pd_startAgain 4 = .ok (.invokevirtual 122, 3) := by decide +kernel
theorem d_Pd_startAgain_7 : decode c_Pd_startAgain 7 = .ok (.aload_n 0, 1) := by decide +kernel
theorem d_Pd_startAgain_8 : decode c_Pd_startAgain 8 = .ok (.iconst 0, 1) := by decide +kernel
theorem d_Pd_startAgain_9 : decode c_Pd_startAgain 9 = .ok (.putfield 27, 3) := by decide +kernel
theorem d_Pd_startAgain_12 : decode c_Pd_startAgain 12 = .ok (.return_, 1) := by decide +kernel
theorem d_Pd_saveNewSeed_0 : decode c_Pd_saveNewSeed 0 = .ok (.aload_n 0, 1) := by decide +kernel
theorem d_Pd_saveNewSeed_1 : decode c_Pd_saveNewSeed 1 = .ok (.getfield 10, 3) := by decide +kernel
theorem d_Pd_saveNewSeed_4 : decode c_Pd_saveNewSeed 4 = .ok (.bipush 64, 2) := by decide +kernel
theorem d_Pd_saveNewSeed_6 : decode c_Pd_saveNewSeed 6 = .ok (.aload_n 0, 1) := by decide +kernel
theorem d_Pd_saveNewSeed_7 : decode c_Pd_saveNewSeed 7 = .ok (.getfield 31, 3) := by decide +kernel
theorem d_Pd_saveNewSeed_10 : decode c_Pd_saveNewSeed 10 = .ok (.invokevirtual 72, 3) := by decide +kernel
theorem d_Pd_saveNewSeed_13 : decode c_Pd_saveNewSeed 13 = .ok (.aload_n 0, 1) := by decide +kernel
theorem d_Pd_saveNewSeed_14 : decode c_Pd_saveNewSeed 14 = .ok (.getfield 19, 3) := by decide +kernel
theorem d_Pd_saveNewSeed_17 : decode c_Pd_saveNewSeed 17 = .ok (.aload_n 0, 1) := by decide +kernel
theorem d_Pd_saveNewSeed_18 : decode c_Pd_saveNewSeed 18 = .ok (.getfield 31, 3) := by decide +kernel
theorem d_Pd_saveNewSeed_21 : decode c_Pd_saveNewSeed 21 = .ok (.invokevirtual 125, 3) := by decide +kernel
theorem d_Pd_saveNewSeed_24 : decode c_Pd_saveNewSeed 24 = .ok (.ifCond .eq 5, 3) := by decide +kernel
theorem d_Pd_saveNewSeed_27 : decode c_Pd_saveNewSeed 27 = .ok (.iconst 0, 1) := by decide +kernel
theorem d_Pd_saveNewSeed_28 : decode c_Pd_saveNewSeed 28 = .ok (.ireturn, 1) := by decide +kernel
theorem d_Pd_saveNewSeed_29 : decode c_Pd_saveNewSeed 29 = .ok (.aload_n 0, 1) := by decide +kernel
theorem d_Pd_saveNewSeed_30 : decode c_Pd_saveNewSeed 30 = .ok (.invokevirtual 34, 3) := by decide +kernel
theorem d_Pd_saveNewSeed_33 : decode c_Pd_saveNewSeed 33 = .ok (.iconst 5, 1) := by decide +kernel
theorem d_Pd_saveNewSeed_34 : decode c_Pd_saveNewSeed 34 = .ok (.ireturn, 1) := by decide +kernel
theorem d_Pd_byteOfPool_0 : decode c_Pd_byteOfPool 0 = .ok (.iload_n 1, 1) := by decide +kernel
theorem d_Pd_byteOfPool_1 : decode c_Pd_byteOfPool 1 = .ok (.iconst 3, 1) := by decide +kernel
theorem d_Pd_byteOfPool_2 : decode c_Pd_byteOfPool 2 = .ok (.isub, 1) := by decide +kernel
theorem d_Pd_byteOfPool_3 : decode c_Pd_byteOfPool 3 = .ok (.istore_n 3, 1) := by decide +kernel
theorem d_Pd_byteOfPool_4 : decode c_Pd_byteOfPool 4 = .ok (.iload_n 3, 1) := by decide +kernel
theorem d_Pd_byteOfPool_5 : decode c_Pd_byteOfPool 5 = .ok (.invokestatic 45, 3) := by decide +kernel
theorem d_Pd_byteOfPool_8 : decode c_Pd_byteOfPool 8 = .ok (.ifCond .eq 13, 3) := by decide +kernel
theorem d_Pd_byteOfPool_11 : decode c_Pd_byteOfPool 11 = .ok (.iload_n 2, 1) := by decide +kernel
theorem d_Pd_byteOfPool_12 : decode c_Pd_byteOfPool 12 = .ok (.ifCond .lt 9, 3) := by decide +kernel
theorem d_Pd_byteOfPool_15 : decode c_Pd_byteOfPool 15 = .ok (.iload_n 2, 1) := by decide +kernel
theorem d_Pd_byteOfPool_16 : decode c_Pd_byteOfPool 16 = .ok (.bipush 32, 2) := by decide +kernel
theorem d_Pd_byteOfPool_18 : decode c_Pd_byteOfPool 18 = .ok (.if_icmp .lt 5, 3) := by decide +kernel
theorem d_Pd_byteOfPool_21 : decode c_Pd_byteOfPool 21 = .ok (.iconst (-1), 1) := by decide +kernel
theorem d_Pd_byteOfPool_22 : decode c_Pd_byteOfPool 22 = .ok (.ireturn, 1) := by decide +kernel
theorem d_Pd_byteOfPool_23 : decode c_Pd_byteOfPool 23 = .ok (.aload_n 0, 1) := by decide +kernel
theorem d_Pd_byteOfPool_24 : decode c_Pd_byteOfPool 24 = .ok (.getfield 10, 3) := by decide +kernel
theorem d_Pd_byteOfPool_27 : decode c_Pd_byteOfPool 27 = .ok (.iload_n 3, 1) := by decide +kernel
theorem d_Pd_byteOfPool_28 : decode c_Pd_byteOfPool 28 = .ok (.iload_n 2, 1) := by decide +kernel
theorem d_Pd_byteOfPool_29 : decode c_Pd_byteOfPool 29 = .ok (.invokevirtual 131, 3) := by decide +kernel
theorem d_Pd_byteOfPool_32 : decode c_Pd_byteOfPool 32 = .ok (.ireturn, 1) := by decide +kernel
theorem d_Pd_sizeOfPool_0 : decode c_Pd_sizeOfPool 0 = .ok (.iload_n 1, 1) := by decide +kernel
theorem d_Pd_sizeOfPool_1 : decode c_Pd_sizeOfPool 1 = .ok (.bipush 6, 2) := by decide +kernel
theorem d_Pd_sizeOfPool_3 : decode c_Pd_sizeOfPool 3 = .ok (.isub, 1) := by decide +kernel
theorem d_Pd_sizeOfPool_4 : decode c_Pd_sizeOfPool 4 = .ok (.istore_n 2, 1) := by decide +kernel
theorem d_Pd_sizeOfPool_5 : decode c_Pd_sizeOfPool 5 = .ok (.iload_n 2, 1) := by decide +kernel
theorem d_Pd_sizeOfPool_6 : decode c_Pd_sizeOfPool 6 = .ok (.invokestatic 45, 3) := by decide +kernel
theorem d_Pd_sizeOfPool_9 : decode c_Pd_sizeOfPool 9 = .ok (.ifCond .eq 18, 3) := by decide +kernel
theorem d_Pd_sizeOfPool_12 : decode c_Pd_sizeOfPool 12 = .ok (.aload_n 0, 1) := by decide +kernel
theorem d_Pd_sizeOfPool_13 : decode c_Pd_sizeOfPool 13 = .ok (.getfield 10, 3) := by decide +kernel
theorem d_Pd_sizeOfPool_16 : decode c_Pd_sizeOfPool 16 = .ok (.getfield 48, 3) := by decide +kernel
theorem d_Pd_sizeOfPool_19 : decode c_Pd_sizeOfPool 19 = .ok (.iload_n 2, 1) := by decide +kernel
theorem d_Pd_sizeOfPool_20 : decode c_Pd_sizeOfPool 20 = .ok (.aaload, 1) := by decide +kernel
theorem d_Pd_sizeOfPool_21 : decode c_Pd_sizeOfPool 21 = .ok (.getfield 134, 3) := by decide +kernel
theorem d_Pd_sizeOfPool_24 : decode c_Pd_sizeOfPool 24 = .ok (.goto 4, 3) := by decide +kernel
theorem d_Pd_sizeOfPool_27 : decode c_Pd_sizeOfPool 27 = .ok (.iconst (-1), 1) := by decide +kernel
theorem d_Pd_sizeOfPool_28 : decode c_Pd_sizeOfPool 28 = .ok (.ireturn, 1) := by decide +kernel
theorem d_Pd_byteAt_0 : decode c_Pd_byteAt 0 = .ok (.iload_n 1, 1) := by decide +kernel
theorem d_Pd_byteAt_1 : decode c_Pd_byteAt 1 = .ok (.ifCond .lt 14, 3) := by decide +kernel
theorem d_Pd_byteAt_4 : decode c_Pd_byteAt 4 = .ok (.iload_n 1, 1) := by decide +kernel
theorem d_Pd_byteAt_5 : decode c_Pd_byteAt 5 = .ok (.iload_n 2, 1) := by decide +kernel
theorem d_Pd_byteAt_6 : decode c_Pd_byteAt 6 = .ok (.if_icmp .ge 9, 3) := by decide +kernel
theorem d_Pd_byteAt_9 : decode c_Pd_byteAt 9 = .ok (.aload_n 0, 1) := by decide +kernel
theorem d_Pd_byteAt_10 : decode c_Pd_byteAt 10 = .ok (.iload_n 1, 1) := by decide +kernel
theorem d_Pd_byteAt_11 : decode c_Pd_byteAt 11 = .ok (.iaload, 1) := by decide +kernel
theorem d_Pd_byteAt_12 : decode c_Pd_byteAt 12 = .ok (.goto 4, 3) := by decide +kernel
theorem d_Pd_byteAt_15 : decode c_Pd_byteAt 15 = .ok (.iconst (-1), 1) := by decide +kernel
theorem d_Pd_byteAt_16 : decode c_Pd_byteAt 16 = .ok (.ireturn, 1) := by decide +kernel
theorem d_Pd_isByte_0 : decode c_Pd_isByte 0 = .ok (.iload_n 0, 1) := by decide +kernel
theorem d_Pd_isByte_1 : decode c_Pd_isByte 1 = .ok (.ifCond .lt 14, 3) := by decide +kernel
theorem d_Pd_isByte_4 : decode c_Pd_isByte 4 = .ok (.iload_n 0, 1) := by decide +kernel
theorem d_Pd_isByte_5 : decode c_Pd_isByte 5 = .ok (.sipush 255, 3) := by decide +kernel
theorem d_Pd_isByte_8 : decode c_Pd_isByte 8 = .ok (.if_icmp .gt 7, 3) := by decide +kernel
theorem d_Pd_isByte_11 : decode c_Pd_isByte 11 = .ok (.iconst 1, 1) := by decide +kernel
theorem d_Pd_isByte_12 : decode c_Pd_isByte 12 = .ok (.goto 4, 3) := by decide +kernel
theorem d_Pd_isByte_15 : decode c_Pd_isByte 15 = .ok (.iconst 0, 1) := by decide +kernel
theorem d_Pd_isByte_16 : decode c_Pd_isByte 16 = .ok (.ireturn, 1) := by decide +kernel
theorem d_Pd_isPool_0 : decode c_Pd_isPool 0 = .ok (.iload_n 0, 1) := by decide +kernel
theorem d_Pd_isPool_1 : decode c_Pd_isPool 1 = .ok (.ifCond .lt 13, 3) := by decide +kernel
theorem d_Pd_isPool_4 : decode c_Pd_isPool 4 = .ok (.iload_n 0, 1) := by decide +kernel
theorem d_Pd_isPool_5 : decode c_Pd_isPool 5 = .ok (.bipush 32, 2) := by decide +kernel
theorem d_Pd_isPool_7 : decode c_Pd_isPool 7 = .ok (.if_icmp .ge 7, 3) := by decide +kernel
theorem d_Pd_isPool_10 : decode c_Pd_isPool 10 = .ok (.iconst 1, 1) := by decide +kernel
theorem d_Pd_isPool_11 : decode c_Pd_isPool 11 = .ok (.goto 4, 3) := by decide +kernel
theorem d_Pd_isPool_14 : decode c_Pd_isPool 14 = .ok (.iconst 0, 1) := by decide +kernel
theorem d_Pd_isPool_15 : decode c_Pd_isPool 15 = .ok (.ireturn, 1) := by decide +kernel
theorem d_Mo_new_0 : decode c_Mo_new 0 = .ok (.aload_n 0, 1) := by decide +kernel
theorem d_Mo_new_1 : decode c_Mo_new 1 = .ok (.invokespecial 1, 3) := by decide +kernel
theorem d_Mo_new_4 : decode c_Mo_new 4 = .ok (.aload_n 0, 1) := by decide +kernel
theorem d_Mo_new_5 : decode c_Mo_new 5 = .ok (.bipush 16, 2) := by decide +kernel
theorem d_Mo_new_7 : decode c_Mo_new 7 = .ok (.newarray .int, 2) := by decide +kernel
theorem d_Mo_new_9 : decode c_Mo_new 9 = .ok (.putfield 7, 3) := by decide +kernel
theorem d_Mo_new_12 : decode c_Mo_new 12 = .ok (.aload_n 0, 1) := by decide +kernel
theorem d_Mo_new_13 : decode c_Mo_new 13 = .ok (.bipush 16, 2) := by decide +kernel
theorem d_Mo_new_15 : decode c_Mo_new 15 = .ok (.newarray .int, 2) := by decide +kernel
theorem d_Mo_new_17 : decode c_Mo_new 17 = .ok (.putfield 13, 3) := by decide +kernel
theorem d_Mo_new_20 : decode c_Mo_new 20 = .ok (.aload_n 0, 1) := by decide +kernel
theorem d_Mo_new_21 : decode c_Mo_new 21 = .ok (.iconst (-1), 1) := by decide +kernel
theorem d_Mo_new_22 : decode c_Mo_new 22 = .ok (.putfield 16, 3) := by decide +kernel
theorem d_Mo_new_25 : decode c_Mo_new 25 = .ok (.aload_n 0, 1) := by decide +kernel
theorem d_Mo_new_26 : decode c_Mo_new 26 = .ok (.bipush 32, 2) := by decide +kernel
theorem d_Mo_new_28 : decode c_Mo_new 28 = .ok (.newarray .int, 2) := by decide +kernel
theorem d_Mo_new_30 : decode c_Mo_new 30 = .ok (.putfield 20, 3) := by decide +kernel
theorem d_Mo_new_33 : decode c_Mo_new 33 = .ok (.aload_n 0, 1) := by decide +kernel
theorem d_Mo_new_34 : decode c_Mo_new 34 = .ok (.ldc 23, 2) := by decide +kernel
theorem d_Mo_new_36 : decode c_Mo_new 36 = .ok (.newarray .int, 2) := by decide +kernel
theorem d_Mo_new_38 : decode c_Mo_new 38 = .ok (.putfield 24, 3) := by decide +kernel
theorem d_Mo_new_41 : decode c_Mo_new 41 = .ok (.aload_n 0, 1) := by decide +kernel
theorem d_Mo_new_42 : decode c_Mo_new 42 = .ok (.sipush 256, 3) := by decide +kernel
theorem d_Mo_new_45 : decode c_Mo_new 45 = .ok (.newarray .int, 2) := by decide +kernel
theorem d_Mo_new_47 : decode c_Mo_new 47 = .ok (.putfield 27, 3) := by decide +kernel
theorem d_Mo_new_50 : decode c_Mo_new 50 = .ok (.aload_n 0, 1) := by decide +kernel
theorem d_Mo_new_51 : decode c_Mo_new 51 = .ok (.sipush 129, 3) := by decide +kernel
theorem d_Mo_new_54 : decode c_Mo_new 54 = .ok (.newarray .int, 2) := by decide +kernel
theorem d_Mo_new_56 : decode c_Mo_new 56 = .ok (.putfield 30, 3) := by decide +kernel
theorem d_Mo_new_59 : decode c_Mo_new 59 = .ok (.aload_n 0, 1) := by decide +kernel
theorem d_Mo_new_60 : decode c_Mo_new 60 = .ok (.sipush 2000, 3) := by decide +kernel
theorem d_Mo_new_63 : decode c_Mo_new 63 = .ok (.newarray .int, 2) := by decide +kernel
theorem d_Mo_new_65 : decode c_Mo_new 65 = .ok (.putfield 33, 3) := by decide +kernel
theorem d_Mo_new_68 : decode c_Mo_new 68 = .ok (.aload_n 0, 1) := by decide +kernel
theorem d_Mo_new_69 : decode c_Mo_new 69 = .ok (.bipush 64, 2) := by decide +kernel
theorem d_Mo_new_71 : decode c_Mo_new 71 = .ok (.newarray .int, 2) := by decide +kernel
theorem d_Mo_new_73 : decode c_Mo_new 73 = .ok (.putfield 36, 3) := by decide +kernel
theorem d_Mo_new_76 : decode c_Mo_new 76 = .ok (.aload_n 0, 1) := by decide +kernel
theorem d_Mo_new_77 : decode c_Mo_new 77 = .ok (.bipush 8, 2) := by decide +kernel
theorem d_Mo_new_79 : decode c_Mo_new 79 = .ok (.newarray .int, 2) := by decide +kernel
theorem d_Mo_new_81 : decode c_Mo_new 81 = .ok (.putfield 39, 3) := by decide +kernel
theorem d_Mo_new_84 : decode c_Mo_new 84 = .ok (.aload_n 0, 1) := by decide +kernel
theorem d_Mo_new_85 : decode c_Mo_new 85 = .ok (.bipush 32, 2) := by decide +kernel
theorem d_Mo_new_87 : decode c_Mo_new 87 = .ok (.newarray .int, 2) := by decide +kernel
theorem d_Mo_new_89 : decode c_Mo_new 89 = .ok (.putfield 42, 3) := by decide +kernel
theorem d_Mo_new_92 : decode c_Mo_new 92 = .ok (.aload_n 0, 1) := by decide +kernel
theorem d_Mo_new_93 : decode c_Mo_new 93 = .ok (.sipush 1024, 3) := by decide +kernel
theorem d_Mo_new_96 : decode c_Mo_new 96 = .ok (.newarray .int, 2) := by decide +kernel
theorem d_Mo_new_98 : decode c_Mo_new 98 = .ok (.putfield 45, 3) := by decide +kernel
theorem d_Mo_new_101 : decode c_Mo_new 101 = .ok (.aload_n 0, 1) := by decide +kernel
theorem d_Mo_new_102 : decode c_Mo_new 102 = .ok (.sipush 272, 3) := by decide +kernel
theorem d_Mo_new_105 : decode c_Mo_new 105 = .ok (.newarray .int, 2) := by decide +kernel
theorem d_Mo_new_107 : decode c_Mo_new 107 = .ok (.putfield 48, 3) := by decide +kernel
theorem d_Mo_new_110 : decode c_Mo_new 110 = .ok (.aload_n 0, 1) := by decide +kernel
theorem d_Mo_new_111 : decode c_Mo_new 111 = .ok (.bipush 16, 2) := by decide +kernel
theorem d_Mo_new_113 : decode c_Mo_new 113 = .ok (.newarray .int, 2) := by decide +kernel
theorem d_Mo_new_115 : decode c_Mo_new 115 = .ok (.putfield 51, 3) := by decide +kernel
theorem d_Mo_new_118 : decode c_Mo_new 118 = .ok (.aload_n 0, 1) := by decide +kernel
theorem d_Mo_new_119 : decode c_Mo_new 119 = .ok (.bipush 16, 2) := by decide +kernel
theorem d_Mo_new_121 : decode c_Mo_new 121 = .ok (.newarray .int, 2) := by decide +kernel
theorem d_Mo_new_123 : decode c_Mo_new 123 = .ok (.putfield 54, 3) := by decide +kernel
theorem d_Mo_new_126 : decode c_Mo_new 126 = .ok (.aload_n 0, 1) := by decide +kernel
theorem d_Mo_new_127 : decode c_Mo_new 127 = .ok (.sipush 176, 3) := by decide +kernel
theorem d_Mo_new_130 : decode c_Mo_new 130 = .ok (.newarray .int, 2) := by decide +kernel
theorem d_Mo_new_132 : decode c_Mo_new 132 = .ok (.putfield 57, 3) := by decide +kernel
theorem d_Mo_new_135 : decode c_Mo_new 135 = .ok (.aload_n 0, 1) := by decide +kernel
theorem d_Mo_new_136 : decode c_Mo_new 136 = .ok (.sipush 256, 3) := by decide +kernel
theorem d_Mo_new_139 : decode c_Mo_new 139 = .ok (.newarray .int, 2) := by decide +kernel
theorem d_Mo_new_141 : decode c_Mo_new 141 = .ok (.putfield 60, 3) := by decide +kernel
theorem d_Mo_new_144 : decode c_Mo_new 144 = .ok (.return_, 1) := by decide +kernel
theorem d_Mo_in_0 : decode c_Mo_in 0 = .ok (.iload_n 0, 1) := by decide +kernel
theorem d_Mo_in_1 : decode c_Mo_in 1 = .ok (.ifCond .lt 12, 3) := by decide +kernel
theorem d_Mo_in_4 : decode c_Mo_in 4 = .ok (.iload_n 0, 1) := by decide +kernel
theorem d_Mo_in_5 : decode c_Mo_in 5 = .ok (.iload_n 1, 1) := by decide +kernel
theorem d_Mo_in_6 : decode c_Mo_in 6 = .ok (.if_icmp .ge 7, 3) := by decide +kernel
theorem d_Mo_in_9 : decode c_Mo_in 9 = .ok (.iconst 1, 1) := by decide +kernel
theorem d_Mo_in_10 : decode c_Mo_in 10 = .ok (.goto 4, 3) := by decide +kernel
theorem d_Mo_in_13 : decode c_Mo_in 13 = .ok (.iconst 0, 1) := by decide +kernel
theorem d_Mo_in_14 : decode c_Mo_in 14 = .ok (.ireturn, 1) := by decide +kernel
theorem d_Mo_constant_0 : decode c_Mo_constant 0 = .ok (.iload_n 0, 1) := by decide +kernel
theorem d_Mo_constant_1 : decode c_Mo_constant 1 = .ok (.tableswitch 456 0 62 #[267, 270, 273, 276, 279, 282, 285, 288, 291, 294, 297, 300, 303, 306, 309, 312, 315, 318, 321, 324, 327, 330, 333, 336, 339, 342, 345, 348, 351, 354, 357, 360, 363, 366, 369, 372, 375, 378, 381, 384, 387, 390, 393, 396, 399, 402, 405, 408, 411, 414, 417, 420, 423, 426, 429, 432, 435, 438, 441, 444, 447, 450, 453], 267) := by decide +kernel
theorem d_Mo_constant_268 : decode c_Mo_constant 268 = .ok (.ldc 66, 2) := by decide +kernel
theorem d_Mo_constant_270 : decode c_Mo_constant 270 = .ok (.ireturn, 1) := by decide +kernel
theorem d_Mo_constant_271 : decode c_Mo_constant 271 = .ok (.ldc 67, 2) := by decide +kernel
theorem d_Mo_constant_273 : decode c_Mo_constant 273 = .ok (.ireturn, 1) := by decide +kernel
theorem d_Mo_constant_274 : decode c_Mo_constant 274 = .ok (.ldc 68, 2) := by decide +kernel
theorem d_Mo_constant_276 : decode c_Mo_constant 276 = .ok (.ireturn, 1) := by decide +kernel
theorem d_Mo_constant_277 : decode c_Mo_constant 277 = .ok (.ldc 69, 2) := by decide +kernel
theorem d_Mo_constant_279 : decode c_Mo_constant 279 = .ok (.ireturn, 1) := by decide +kernel
theorem d_Mo_constant_280 : decode c_Mo_constant 280 = .ok (.ldc 70, 2) := by decide +kernel
theorem d_Mo_constant_282 : decode c_Mo_constant 282 = .ok (.ireturn, 1) := by decide +kernel
theorem d_Mo_constant_283 : decode c_Mo_constant 283 = .ok (.ldc 71, 2) := by decide +kernel
theorem d_Mo_constant_285 : decode c_Mo_constant 285 = .ok (.ireturn, 1) := by decide +kernel
theorem d_Mo_constant_286 : decode c_Mo_constant 286 = .ok (.ldc 72, 2) := by decide +kernel
theorem d_Mo_constant_288 : decode c_Mo_constant 288 = .ok (.ireturn, 1) := by decide +kernel
theorem d_Mo_constant_289 : decode c_Mo_constant 289 = .ok (.ldc 73, 2) := by decide +kernel
theorem d_Mo_constant_291 : decode c_Mo_constant 291 = .ok (.ireturn, 1) := by decide +kernel
theorem d_Mo_constant_292 : decode c_Mo_constant 292 = .ok (.ldc 74, 2) := by decide +kernel
theorem d_Mo_constant_294 : decode c_Mo_constant 294 = .ok (.ireturn, 1) := by decide +kernel
theorem d_Mo_constant_295 : decode c_Mo_constant 295 = .ok (.ldc 75, 2) := by decide +kernel
theorem d_Mo_constant_297 : decode c_Mo_constant 297 = .ok (.ireturn, 1) := by decide +kernel
theorem d_Mo_constant_298 : decode c_Mo_constant 298 = .ok (.ldc 76, 2) := by decide +kernel
theorem d_Mo_constant_300 : decode c_Mo_constant 300 = .ok (.ireturn, 1) := by decide +kernel
theorem d_Mo_constant_301 : decode c_Mo_constant 301 = .ok (.ldc 77, 2) := by decide +kernel
theorem d_Mo_constant_303 : decode c_Mo_constant 303 = .ok (.ireturn, 1) := by decide +kernel
theorem d_Mo_constant_304 : decode c_Mo_constant 304 = .ok (.ldc 78, 2) := by decide +kernel
theorem d_Mo_constant_306 : decode c_Mo_constant 306 = .ok (.ireturn, 1) := by decide +kernel
theorem d_Mo_constant_307 : decode c_Mo_constant 307 = .ok (.ldc 79, 2) := by decide +kernel
theorem d_Mo_constant_309 : decode c_Mo_constant 309 = .ok (.ireturn, 1) := by decide +kernel
theorem d_Mo_constant_310 : decode c_Mo_constant 310 = .ok (.ldc 80, 2) := by decide +kernel
theorem d_Mo_constant_312 : decode c_Mo_constant 312 = .ok (.ireturn, 1) := by decide +kernel
theorem d_Mo_constant_313 : decode c_Mo_constant 313 = .ok (.ldc 81, 2) := by decide +kernel
theorem d_Mo_constant_315 : decode c_Mo_constant 315 = .ok (.ireturn, 1) := by decide +kernel
theorem d_Mo_constant_316 : decode c_Mo_constant 316 = .ok (.ldc 82, 2) := by decide +kernel
theorem d_Mo_constant_318 : decode c_Mo_constant 318 = .ok (.ireturn, 1) := by decide +kernel
theorem d_Mo_constant_319 : decode c_Mo_constant 319 = .ok (.ldc 83, 2) := by decide +kernel
theorem d_Mo_constant_321 : decode c_Mo_constant 321 = .ok (.ireturn, 1) := by decide +kernel
theorem d_Mo_constant_322 : decode c_Mo_constant 322 = .ok (.ldc 84, 2) := by decide +kernel
theorem d_Mo_constant_324 : decode c_Mo_constant 324 = .ok (.ireturn, 1) := by decide +kernel
theorem d_Mo_constant_325 : decode c_Mo_constant 325 = .ok (.ldc 85, 2) := by decide +kernel
theorem d_Mo_constant_327 : decode c_Mo_constant 327 = .ok (.ireturn, 1) := by decide +kernel
theorem d_Mo_constant_328 : decode c_Mo_constant 328 = .ok (.ldc 86, 2) := by decide +kernel
theorem d_Mo_constant_330 : decode c_Mo_constant 330 = .ok (.ireturn, 1) := by decide +kernel
theorem d_Mo_constant_331 : decode c_Mo_constant 331 = .ok (.ldc 87, 2) := by decide +kernel
theorem d_Mo_constant_333 : decode c_Mo_constant 333 = .ok (.ireturn, 1) := by decide +kernel
theorem d_Mo_constant_334 : decode c_Mo_constant 334 = .ok (.ldc 88, 2) := by decide +kernel
theorem d_Mo_constant_336 : decode c_Mo_constant 336 = .ok (.ireturn, 1) := by decide +kernel
theorem d_Mo_constant_337 : decode c_Mo_constant 337 = .ok (.ldc 89, 2) := by decide +kernel
theorem d_Mo_constant_339 : decode c_Mo_constant 339 = .ok (.ireturn, 1) := by decide +kernel
theorem d_Mo_constant_340 : decode c_Mo_constant 340 = .ok (.ldc 90, 2) := by decide +kernel
theorem d_Mo_constant_342 : decode c_Mo_constant 342 = .ok (.ireturn, 1) := by decide +kernel
theorem d_Mo_constant_343 : decode c_Mo_constant 343 = .ok (.ldc 91, 2) := by decide +kernel
theorem d_Mo_constant_345 : decode c_Mo_constant 345 = .ok (.ireturn, 1) := by decide +kernel
theorem d_Mo_constant_346 : decode c_Mo_constant 346 = .ok (.ldc 92, 2) := by decide +kernel
theorem d_Mo_constant_348 : decode c_Mo_constant 348 = .ok (.ireturn, 1) := by decide +kernel
theorem d_Mo_constant_349 : decode c_Mo_constant 349 = .ok (.ldc 93, 2) := by decide +kernel
theorem d_Mo_constant_351 : decode c_Mo_constant 351 = .ok (.ireturn, 1) := by decide +kernel
theorem d_Mo_constant_352 : decode c_Mo_constant 352 = .ok (.ldc 94, 2) := by decide +kernel
theorem d_Mo_constant_354 : decode c_Mo_constant 354 = .ok (.ireturn, 1) := by decide +kernel
theorem d_Mo_constant_355 : decode c_Mo_constant 355 = .ok (.ldc 95, 2) := by decide +kernel
theorem d_Mo_constant_357 : decode c_Mo_constant 357 = .ok (.ireturn, 1) := by decide +kernel
theorem d_Mo_constant_358 : decode c_Mo_constant 358 = .ok (.ldc 96, 2) := by decide +kernel
theorem d_Mo_constant_360 : decode c_Mo_constant 360 = .ok (.ireturn, 1) := by decide +kernel
theorem d_Mo_constant_361 : decode c_Mo_constant 361 = .ok (.ldc 97, 2) := by decide +kernel
theorem d_Mo_constant_363 : decode c_Mo_constant 363 = .ok (.ireturn, 1) := by decide +kernel
theorem d_Mo_constant_364 : decode c_Mo_constant 364 = .ok (.ldc 98, 2) := by decide +kernel
theorem d_Mo_constant_366 : decode c_Mo_constant 366 = .ok (.ireturn, 1) := by decide +kernel
theorem d_Mo_constant_367 : decode c_Mo_constant 367 = .ok (.ldc 99, 2) := by decide +kernel
theorem d_Mo_constant_369 : decode c_Mo_constant 369 = .ok (.ireturn, 1) := by decide +kernel
theorem d_Mo_constant_370 : decode c_Mo_constant 370 = .ok (.ldc 100, 2) := by decide +kernel
theorem d_Mo_constant_372 : decode c_Mo_constant 372 = .ok (.ireturn, 1) := by decide +kernel
theorem d_Mo_constant_373 : decode c_Mo_constant 373 = .ok (.ldc 101, 2) := by decide +kernel
theorem d_Mo_constant_375 : decode c_Mo_constant 375 = .ok (.ireturn, 1) := by decide +kernel
theorem d_Mo_constant_376 : decode c_Mo_constant 376 = .ok (.ldc 102, 2) := by decide +kernel
theorem d_Mo_constant_378 : decode c_Mo_constant 378 = .ok (.ireturn, 1) := by decide +kernel
theorem d_Mo_constant_379 : decode c_Mo_constant 379 = .ok (.ldc 103, 2) := by decide +kernel
theorem d_Mo_constant_381 : decode c_Mo_constant 381 = .ok (.ireturn, 1) := by decide +kernel
theorem d_Mo_constant_382 : decode c_Mo_constant 382 = .ok (.ldc 104, 2) := by decide +kernel
theorem d_Mo_constant_384 : decode c_Mo_constant 384 = .ok (.ireturn, 1) := by decide +kernel
theorem d_Mo_constant_385 : decode c_Mo_constant 385 = .ok (.ldc 105, 2) := by decide +kernel
theorem d_Mo_constant_387 : decode c_Mo_constant 387 = .ok (.ireturn, 1) := by decide +kernel
theorem d_Mo_constant_388 : decode c_Mo_constant 388 = .ok (.ldc 106, 2) := by decide +kernel
theorem d_Mo_constant_390 : decode c_Mo_constant 390 = .ok (.ireturn, 1) := by decide +kernel
theorem d_Mo_constant_391 : decode c_Mo_constant 391 = .ok (.ldc 107, 2) := by decide +kernel
theorem d_Mo_constant_393 : decode c_Mo_constant 393 = .ok (.ireturn, 1) := by decide +kernel
theorem d_Mo_constant_394 : decode c_Mo_constant 394 = .ok (.ldc 108, 2) := by decide +kernel
theorem d_Mo_constant_396 : decode c_Mo_constant 396 = .ok (.ireturn, 1) := by decide +kernel
theorem d_Mo_constant_397 : decode c_Mo_constant 397 = .ok (.ldc 109, 2) := by decide +kernel
theorem d_Mo_constant_399 : decode c_Mo_constant 399 = .ok (.ireturn, 1) := by decide +kernel
theorem d_Mo_constant_400 : decode c_Mo_constant 400 = .ok (.ldc 110, 2) := by decide +kernel
theorem d_Mo_constant_402 : decode c_Mo_constant 402 = .ok (.ireturn, 1) := by decide +kernel
theorem d_Mo_constant_403 : decode c_Mo_constant 403 = .ok (.ldc 111, 2) := by decide +kernel
theorem d_Mo_constant_405 : decode c_Mo_constant 405 = .ok (.ireturn, 1) := by decide +kernel
theorem d_Mo_constant_406 : decode c_Mo_constant 406 = .ok (.ldc 112, 2) := by decide +kernel
theorem d_Mo_constant_408 : decode c_Mo_constant 408 = .ok (.ireturn, 1) := by decide +kernel
theorem d_Mo_constant_409 : decode c_Mo_constant 409 = .ok (.ldc 113, 2) := by decide +kernel
theorem d_Mo_constant_411 : decode c_Mo_constant 411 = .ok (.ireturn, 1) := by decide +kernel
theorem d_Mo_constant_412 : decode c_Mo_constant 412 = .ok (.ldc 114, 2) := by decide +kernel
theorem d_Mo_constant_414 : decode c_Mo_constant 414 = .ok (.ireturn, 1) := by decide +kernel
theorem d_Mo_constant_415 : decode c_Mo_constant 415 = .ok (.ldc 115, 2) := by decide +kernel
theorem d_Mo_constant_417 : decode c_Mo_constant 417 = .ok (.ireturn, 1) := by decide +kernel
theorem d_Mo_constant_418 : decode c_Mo_constant 418 = .ok (.ldc 116, 2) := by decide +kernel
theorem d_Mo_constant_420 : decode c_Mo_constant 420 = .ok (.ireturn, 1) := by decide +kernel
theorem d_Mo_constant_421 : decode c_Mo_constant 421 = .ok (.ldc 117, 2) := by decide +kernel
theorem d_Mo_constant_423 : decode c_Mo_constant 423 = .ok (.ireturn, 1) := by decide +kernel
theorem d_Mo_constant_424 : decode c_Mo_constant 424 = .ok (.ldc 118, 2) := by decide +kernel
theorem d_Mo_constant_426 : decode c_Mo_constant 426 = .ok (.ireturn, 1) := by decide +kernel
theorem d_Mo_constant_427 : decode c_Mo_constant 427 = .ok (.ldc 119, 2) := by decide +kernel
theorem d_Mo_constant_429 : decode c_Mo_constant 429 = .ok (.ireturn, 1) := by decide +kernel
theorem d_Mo_constant_430 : decode c_Mo_constant 430 = .ok (.ldc 120, 2) := by decide +kernel
theorem d_Mo_constant_432 : decode c_Mo_constant 432 = .ok (.ireturn, 1) := by decide +kernel
theorem d_Mo_constant_433 : decode c_Mo_constant 433 = .ok (.ldc 121, 2) := by decide +kernel
theorem d_Mo_constant_435 : decode c_Mo_constant 435 = .ok (.ireturn, 1) := by decide +kernel
theorem d_Mo_constant_436 : decode c_Mo_constant 436 = .ok (.ldc 122, 2) := by decide +kernel
theorem d_Mo_constant_438 : decode c_Mo_constant 438 = .ok (.ireturn, 1) := by decide +kernel
theorem d_Mo_constant_439 : decode c_Mo_constant 439 = .ok (.ldc 123, 2) := by decide +kernel
theorem d_Mo_constant_441 : decode c_Mo_constant 441 = .ok (.ireturn, 1) := by decide +kernel
theorem d_Mo_constant_442 : decode c_Mo_constant 442 = .ok (.ldc 124, 2) := by decide +kernel
theorem d_Mo_constant_444 : decode c_Mo_constant 444 = .ok (.ireturn, 1) := by decide +kernel
theorem d_Mo_constant_445 : decode c_Mo_constant 445 = .ok (.ldc 125, 2) := by decide +kernel
theorem d_Mo_constant_447 : decode c_Mo_constant 447 = .ok (.ireturn, 1) := by decide +kernel
theorem d_Mo_constant_448 : decode c_Mo_constant 448 = .ok (.ldc 126, 2) := by decide +kernel
theorem d_Mo_constant_450 : decode c_Mo_constant 450 = .ok (.ireturn, 1) := by decide +kernel
