theorem dX0_init_0 : decode cX0_init 0 = .ok (.aload_n 0, 1) := by decide +kernel
theorem dX0_init_1 : decode cX0_init 1 = .ok (.invokespecial 3, 3) := by decide +kernel
theorem dX0_init_4 : decode cX0_init 4 = .ok (.aload_n 0, 1) := by decide +kernel
theorem dX0_init_5 : decode cX0_init 5 = .ok (.iconst 0, 1) := by decide +kernel
theorem dX0_init_6 : decode cX0_init 6 = .ok (.putfield 9, 3) := by decide +kernel
theorem dX0_init_9 : decode cX0_init 9 = .ok (.aload_n 0, 1) := by decide +kernel
theorem dX0_init_10 : decode cX0_init 10 = .ok (.bipush 100, 2) := by decide +kernel
theorem dX0_init_12 : decode cX0_init 12 = .ok (.newarray .int, 2) := by decide +kernel
theorem dX0_init_14 : decode cX0_init 14 = .ok (.putfield 15, 3) := by decide +kernel
theorem dX0_init_17 : decode cX0_init 17 = .ok (.aload_n 0, 1) := by decide +kernel
theorem dX0_init_18 : decode cX0_init 18 = .ok (.bipush 100, 2) := by decide +kernel
theorem dX0_init_20 : decode cX0_init 20 = .ok (.newarray .int, 2) := by decide +kernel
theorem dX0_init_22 : decode cX0_init 22 = .ok (.putfield 19, 3) := by decide +kernel
theorem dX0_init_25 : decode cX0_init 25 = .ok (.aload_n 0, 1) := by decide +kernel
theorem dX0_init_26 : decode cX0_init 26 = .ok (.bipush 100, 2) := by decide +kernel
theorem dX0_init_28 : decode cX0_init 28 = .ok (.newarray .int, 2) := by decide +kernel
theorem dX0_init_30 : decode cX0_init 30 = .ok (.putfield 22, 3) := by decide +kernel
theorem dX0_init_33 : decode cX0_init 33 = .ok (.aload_n 0, 1) := by decide +kernel
theorem dX0_init_34 : decode cX0_init 34 = .ok (.bipush 100, 2) := by decide +kernel
theorem dX0_init_36 : decode cX0_init 36 = .ok (.newarray .int, 2) := by decide +kernel
theorem dX0_init_38 : decode cX0_init 38 = .ok (.putfield 25, 3) := by decide +kernel
theorem dX0_init_41 : decode cX0_init 41 = .ok (.aload_n 0, 1) := by decide +kernel
theorem dX0_init_42 : decode cX0_init 42 = .ok (.bipush 100, 2) := by decide +kernel
theorem dX0_init_44 : decode cX0_init 44 = .ok (.newarray .int, 2) := by decide +kernel
theorem dX0_init_46 : decode cX0_init 46 = .ok (.putfield 28, 3) := by decide +kernel
theorem dX0_init_49 : decode cX0_init 49 = .ok (.aload_n 0, 1) := by decide +kernel
theorem dX0_init_50 : decode cX0_init 50 = .ok (.bipush 100, 2) := by decide +kernel
theorem dX0_init_52 : decode cX0_init 52 = .ok (.newarray .int, 2) := by decide +kernel
theorem dX0_init_54 : decode cX0_init 54 = .ok (.putfield 31, 3) := by decide +kernel
theorem dX0_init_57 : decode cX0_init 57 = .ok (.aload_n 0, 1) := by decide +kernel
theorem dX0_init_58 : decode cX0_init 58 = .ok (.bipush 14, 2) := by decide +kernel
theorem dX0_init_60 : decode cX0_init 60 = .ok (.newarray .int, 2) := by decide +kernel
theorem dX0_init_62 : decode cX0_init 62 = .ok (.putfield 34, 3) := by decide +kernel
theorem dX0_init_65 : decode cX0_init 65 = .ok (.return_, 1) := by decide +kernel
theorem dX0_clear_0 : decode cX0_clear 0 = .ok (.aload_n 0, 1) := by decide +kernel
theorem dX0_clear_1 : decode cX0_clear 1 = .ok (.iconst 0, 1) := by decide +kernel
theorem dX0_clear_2 : decode cX0_clear 2 = .ok (.putfield 9, 3) := by decide +kernel
theorem dX0_clear_5 : decode cX0_clear 5 = .ok (.aload_n 0, 1) := by decide +kernel
theorem dX0_clear_6 : decode cX0_clear 6 = .ok (.getfield 34, 3) := by decide +kernel
theorem dX0_clear_9 : decode cX0_clear 9 = .ok (.iconst 0, 1) := by decide +kernel
theorem dX0_clear_10 : decode cX0_clear 10 = .ok (.invokestatic 37, 3) := by decide +kernel
theorem dX0_clear_13 : decode cX0_clear 13 = .ok (.return_, 1) := by decide +kernel
theorem dX0_takeFrom_0 : decode cX0_takeFrom 0 = .ok (.aload_n 0, 1) := by decide +kernel
theorem dX0_takeFrom_1 : decode cX0_takeFrom 1 = .ok (.aload_n 1, 1) := by decide +kernel
theorem dX0_takeFrom_2 : decode cX0_takeFrom 2 = .ok (.getfield 9, 3) := by decide +kernel
theorem dX0_takeFrom_5 : decode cX0_takeFrom 5 = .ok (.putfield 9, 3) := by decide +kernel
theorem dX0_takeFrom_8 : decode cX0_takeFrom 8 = .ok (.aload_n 1, 1) := by decide +kernel
theorem dX0_takeFrom_9 : decode cX0_takeFrom 9 = .ok (.getfield 15, 3) := by decide +kernel
theorem dX0_takeFrom_12 : decode cX0_takeFrom 12 = .ok (.aload_n 0, 1) := by decide +kernel
theorem dX0_takeFrom_13 : decode cX0_takeFrom 13 = .ok (.getfield 15, 3) := by decide +kernel
theorem dX0_takeFrom_16 : decode cX0_takeFrom 16 = .ok (.invokestatic 43, 3) := by decide +kernel
theorem dX0_takeFrom_19 : decode cX0_takeFrom 19 = .ok (.aload_n 1, 1) := by decide +kernel
theorem dX0_takeFrom_20 : decode cX0_takeFrom 20 = .ok (.getfield 19, 3) := by decide +kernel
theorem dX0_takeFrom_23 : decode cX0_takeFrom 23 = .ok (.aload_n 0, 1) := by decide +kernel
theorem dX0_takeFrom_24 : decode cX0_takeFrom 24 = .ok (.getfield 19, 3) := by decide +kernel
theorem dX0_takeFrom_27 : decode cX0_takeFrom 27 = .ok (.invokestatic 43, 3) := by decide +kernel
theorem dX0_takeFrom_30 : decode cX0_takeFrom 30 = .ok (.aload_n 1, 1) := by decide +kernel
theorem dX0_takeFrom_31 : decode cX0_takeFrom 31 = .ok (.getfield 22, 3) := by decide +kernel
theorem dX0_takeFrom_34 : decode cX0_takeFrom 34 = .ok (.aload_n 0, 1) := by decide +kernel
theorem dX0_takeFrom_35 : decode cX0_takeFrom 35 = .ok (.getfield 22, 3) := by decide +kernel
theorem dX0_takeFrom_38 : decode cX0_takeFrom 38 = .ok (.invokestatic 43, 3) := by decide +kernel
theorem dX0_takeFrom_41 : decode cX0_takeFrom 41 = .ok (.aload_n 1, 1) := by decide +kernel
theorem dX0_takeFrom_42 : decode cX0_takeFrom 42 = .ok (.getfield 25, 3) := by decide +kernel
theorem dX0_takeFrom_45 : decode cX0_takeFrom 45 = .ok (.aload_n 0, 1) := by decide +kernel
theorem dX0_takeFrom_46 : decode cX0_takeFrom 46 = .ok (.getfield 25, 3) := by decide +kernel
theorem dX0_takeFrom_49 : decode cX0_takeFrom 49 = .ok (.invokestatic 43, 3) := by decide +kernel
theorem dX0_takeFrom_52 : decode cX0_takeFrom 52 = .ok (.aload_n 1, 1) := by decide +kernel
theorem dX0_takeFrom_53 : decode cX0_takeFrom 53 = .ok (.getfield 28, 3) := by decide +kernel
theorem dX0_takeFrom_56 : decode cX0_takeFrom 56 = .ok (.aload_n 0, 1) := by decide +kernel
theorem dX0_takeFrom_57 : decode cX0_takeFrom 57 = .ok (.getfield 28, 3) := by decide +kernel
theorem dX0_takeFrom_60 : decode cX0_takeFrom 60 = .ok (.invokestatic 43, 3) := by decide +kernel
theorem dX0_takeFrom_63 : decode cX0_takeFrom 63 = .ok (.aload_n 1, 1) := by decide +kernel
theorem dX0_takeFrom_64 : decode cX0_takeFrom 64 = .ok (.getfield 31, 3) := by decide +kernel
theorem dX0_takeFrom_67 : decode cX0_takeFrom 67 = .ok (.aload_n 0, 1) := by decide +kernel
theorem dX0_takeFrom_68 : decode cX0_takeFrom 68 = .ok (.getfield 31, 3) := by decide +kernel
theorem dX0_takeFrom_71 : decode cX0_takeFrom 71 = .ok (.invokestatic 43, 3) := by decide +kernel
theorem dX0_takeFrom_74 : decode cX0_takeFrom 74 = .ok (.aload_n 1, 1) := by decide +kernel
theorem dX0_takeFrom_75 : decode cX0_takeFrom 75 = .ok (.getfield 34, 3) := by decide +kernel
theorem dX0_takeFrom_78 : decode cX0_takeFrom 78 = .ok (.aload_n 0, 1) := by decide +kernel
theorem dX0_takeFrom_79 : decode cX0_takeFrom 79 = .ok (.getfield 34, 3) := by decide +kernel
theorem dX0_takeFrom_82 : decode cX0_takeFrom 82 = .ok (.invokestatic 43, 3) := by decide +kernel
theorem dX0_takeFrom_85 : decode cX0_takeFrom 85 = .ok (.return_, 1) := by decide +kernel
theorem dX0_addGroup_0 : decode cX0_addGroup 0 = .ok (.iconst 0, 1) := by decide +kernel
theorem dX0_addGroup_1 : decode cX0_addGroup 1 = .ok (.istore 4, 2) := by decide +kernel
theorem dX0_addGroup_3 : decode cX0_addGroup 3 = .ok (.iload 4, 2) := by decide +kernel
theorem dX0_addGroup_5 : decode cX0_addGroup 5 = .ok (.iload_n 2, 1) := by decide +kernel
theorem dX0_addGroup_6 : decode cX0_addGroup 6 = .ok (.if_icmp .ge 98, 3) := by decide +kernel
theorem dX0_addGroup_9 : decode cX0_addGroup 9 = .ok (.aload_n 0, 1) := by decide +kernel
theorem dX0_addGroup_10 : decode cX0_addGroup 10 = .ok (.getfield 9, 3) := by decide +kernel
theorem dX0_addGroup_13 : decode cX0_addGroup 13 = .ok (.bipush 100, 2) := by decide +kernel
theorem dX0_addGroup_15 : decode cX0_addGroup 15 = .ok (.if_icmp .ge 89, 3) := by decide +kernel
theorem dX0_addGroup_18 : decode cX0_addGroup 18 = .ok (.aload_n 0, 1) := by decide +kernel
theorem dX0_addGroup_19 : decode cX0_addGroup 19 = .ok (.getfield 15, 3) := by decide +kernel
theorem dX0_addGroup_22 : decode cX0_addGroup 22 = .ok (.aload_n 0, 1) := by decide +kernel
theorem dX0_addGroup_23 : decode cX0_addGroup 23 = .ok (.getfield 9, 3) := by decide +kernel
theorem dX0_addGroup_26 : decode cX0_addGroup 26 = .ok (.iconst 0, 1) := by decide +kernel
theorem dX0_addGroup_27 : decode cX0_addGroup 27 = .ok (.iastore, 1) := by decide +kernel
theorem dX0_addGroup_28 : decode cX0_addGroup 28 = .ok (.aload_n 0, 1) := by decide +kernel
theorem dX0_addGroup_29 : decode cX0_addGroup 29 = .ok (.getfield 19, 3) := by decide +kernel
theorem dX0_addGroup_32 : decode cX0_addGroup 32 = .ok (.aload_n 0, 1) := by decide +kernel
theorem dX0_addGroup_33 : decode cX0_addGroup 33 = .ok (.getfield 9, 3) := by decide +kernel
theorem dX0_addGroup_36 : decode cX0_addGroup 36 = .ok (.iload_n 3, 1) := by decide +kernel
theorem dX0_addGroup_37 : decode cX0_addGroup 37 = .ok (.iastore, 1) := by decide +kernel
theorem dX0_addGroup_38 : decode cX0_addGroup 38 = .ok (.aload_n 0, 1) := by decide +kernel
theorem dX0_addGroup_39 : decode cX0_addGroup 39 = .ok (.getfield 22, 3) := by decide +kernel
theorem dX0_addGroup_42 : decode cX0_addGroup 42 = .ok (.aload_n 0, 1) := by decide +kernel
theorem dX0_addGroup_43 : decode cX0_addGroup 43 = .ok (.getfield 9, 3) := by decide +kernel
theorem dX0_addGroup_46 : decode cX0_addGroup 46 = .ok (.iload_n 1, 1) := by decide +kernel
theorem dX0_addGroup_47 : decode cX0_addGroup 47 = .ok (.iastore, 1) := by decide +kernel
theorem dX0_addGroup_48 : decode cX0_addGroup 48 = .ok (.aload_n 0, 1) := by decide +kernel
theorem dX0_addGroup_49 : decode cX0_addGroup 49 = .ok (.getfield 25, 3) := by decide +kernel
theorem dX0_addGroup_52 : decode cX0_addGroup 52 = .ok (.aload_n 0, 1) := by decide +kernel
theorem dX0_addGroup_53 : decode cX0_addGroup 53 = .ok (.getfield 9, 3) := by decide +kernel
theorem dX0_addGroup_56 : decode cX0_addGroup 56 = .ok (.iconst 0, 1) := by decide +kernel
theorem dX0_addGroup_57 : decode cX0_addGroup 57 = .ok (.iastore, 1) := by decide +kernel
theorem dX0_addGroup_58 : decode cX0_addGroup 58 = .ok (.aload_n 0, 1) := by decide +kernel
theorem dX0_addGroup_59 : decode cX0_addGroup 59 = .ok (.getfield 28, 3) := by decide +kernel
theorem dX0_addGroup_62 : decode cX0_addGroup 62 = .ok (.aload_n 0, 1) := by decide +kernel
theorem dX0_addGroup_63 : decode cX0_addGroup 63 = .ok (.getfield 9, 3) := by decide +kernel
theorem dX0_addGroup_66 : decode cX0_addGroup 66 = .ok (.iconst 0, 1) := by decide +kernel
theorem dX0_addGroup_67 : decode cX0_addGroup 67 = .ok (.iastore, 1) := by decide +kernel
theorem dX0_addGroup_68 : decode cX0_addGroup 68 = .ok (.aload_n 0, 1) := by decide +kernel
theorem dX0_addGroup_69 : decode cX0_addGroup 69 = .ok (.getfield 31, 3) := by decide +kernel
theorem dX0_addGroup_72 : decode cX0_addGroup 72 = .ok (.aload_n 0, 1) := by decide +kernel
theorem dX0_addGroup_73 : decode cX0_addGroup 73 = .ok (.getfield 9, 3) := by decide +kernel
theorem dX0_addGroup_76 : decode cX0_addGroup 76 = .ok (.iconst (-1), 1) := by decide +kernel
theorem dX0_addGroup_77 : decode cX0_addGroup 77 = .ok (.iastore, 1) := by decide +kernel
theorem dX0_addGroup_78 : decode cX0_addGroup 78 = .ok (.aload_n 0, 1) := by decide +kernel
theorem dX0_addGroup_79 : decode cX0_addGroup 79 = .ok (.dup, 1) := by decide +kernel
theorem dX0_addGroup_80 : decode cX0_addGroup 80 = .ok (.getfield 9, 3) := by decide +kernel
theorem dX0_addGroup_83 : decode cX0_addGroup 83 = .ok (.iconst 1, 1) := by decide +kernel
theorem dX0_addGroup_84 : decode cX0_addGroup 84 = .ok (.iadd, 1) := by decide +kernel
theorem dX0_addGroup_85 : decode cX0_addGroup 85 = .ok (.putfield 9, 3) := by decide +kernel
theorem dX0_addGroup_88 : decode cX0_addGroup 88 = .ok (.aload_n 0, 1) := by decide +kernel
theorem dX0_addGroup_89 : decode cX0_addGroup 89 = .ok (.getfield 34, 3) := by decide +kernel
theorem dX0_addGroup_92 : decode cX0_addGroup 92 = .ok (.iconst 0, 1) := by decide +kernel
theorem dX0_addGroup_93 : decode cX0_addGroup 93 = .ok (.dup2, 1) := by decide +kernel
theorem dX0_addGroup_94 : decode cX0_addGroup 94 = .ok (.iaload, 1) := by decide +kernel
theorem dX0_addGroup_95 : decode cX0_addGroup 95 = .ok (.iconst 1, 1) := by decide +kernel
theorem dX0_addGroup_96 : decode cX0_addGroup 96 = .ok (.iadd, 1) := by decide +kernel
theorem dX0_addGroup_97 : decode cX0_addGroup 97 = .ok (.iastore, 1) := by decide +kernel
theorem dX0_addGroup_98 : decode cX0_addGroup 98 = .ok (.iinc 4 1, 3) := by decide +kernel
theorem dX0_addGroup_101 : decode cX0_addGroup 101 = .ok (.goto (-98), 3) := by decide +kernel
theorem dX0_addGroup_104 : decode cX0_addGroup 104 = .ok (.return_, 1) := by decide +kernel
theorem dX0_change_0 : decode cX0_change 0 = .ok (.aload_n 0, 1) := by decide +kernel
theorem dX0_change_1 : decode cX0_change 1 = .ok (.getfield 15, 3) := by decide +kernel
theorem dX0_change_4 : decode cX0_change 4 = .ok (.iload_n 1, 1) := by decide +kernel
theorem dX0_change_5 : decode cX0_change 5 = .ok (.invokestatic 47, 3) := by decide +kernel
theorem dX0_change_8 : decode cX0_change 8 = .ok (.istore_n 3, 1) := by decide +kernel
theorem dX0_change_9 : decode cX0_change 9 = .ok (.aload_n 0, 1) := by decide +kernel
theorem dX0_change_10 : decode cX0_change 10 = .ok (.getfield 34, 3) := by decide +kernel
theorem dX0_change_13 : decode cX0_change 13 = .ok (.iload_n 3, 1) := by decide +kernel
theorem dX0_change_14 : decode cX0_change 14 = .ok (.aload_n 0, 1) := by decide +kernel
theorem dX0_change_15 : decode cX0_change 15 = .ok (.getfield 34, 3) := by decide +kernel
theorem dX0_change_18 : decode cX0_change 18 = .ok (.iload_n 3, 1) := by decide +kernel
theorem dX0_change_19 : decode cX0_change 19 = .ok (.invokestatic 47, 3) := by decide +kernel
theorem dX0_change_22 : decode cX0_change 22 = .ok (.iconst 1, 1) := by decide +kernel
theorem dX0_change_23 : decode cX0_change 23 = .ok (.isub, 1) := by decide +kernel
theorem dX0_change_24 : decode cX0_change 24 = .ok (.invokestatic 51, 3) := by decide +kernel
theorem dX0_change_27 : decode cX0_change 27 = .ok (.aload_n 0, 1) := by decide +kernel
theorem dX0_change_28 : decode cX0_change 28 = .ok (.getfield 34, 3) := by decide +kernel
theorem dX0_change_31 : decode cX0_change 31 = .ok (.iload_n 2, 1) := by decide +kernel
theorem dX0_change_32 : decode cX0_change 32 = .ok (.aload_n 0, 1) := by decide +kernel
theorem dX0_change_33 : decode cX0_change 33 = .ok (.getfield 34, 3) := by decide +kernel
theorem dX0_change_36 : decode cX0_change 36 = .ok (.iload_n 2, 1) := by decide +kernel
theorem dX0_change_37 : decode cX0_change 37 = .ok (.invokestatic 47, 3) := by decide +kernel
theorem dX0_change_40 : decode cX0_change 40 = .ok (.iconst 1, 1) := by decide +kernel
theorem dX0_change_41 : decode cX0_change 41 = .ok (.iadd, 1) := by decide +kernel
theorem dX0_change_42 : decode cX0_change 42 = .ok (.invokestatic 51, 3) := by decide +kernel
theorem dX0_change_45 : decode cX0_change 45 = .ok (.aload_n 0, 1) := by decide +kernel
theorem dX0_change_46 : decode cX0_change 46 = .ok (.getfield 15, 3) := by decide +kernel
theorem dX0_change_49 : decode cX0_change 49 = .ok (.iload_n 1, 1) := by decide +kernel
theorem dX0_change_50 : decode cX0_change 50 = .ok (.iload_n 2, 1) := by decide +kernel
theorem dX0_change_51 : decode cX0_change 51 = .ok (.invokestatic 51, 3) := by decide +kernel
theorem dX0_change_54 : decode cX0_change 54 = .ok (.return_, 1) := by decide +kernel
theorem dX0_allFinished_0 : decode cX0_allFinished 0 = .ok (.aload_n 0, 1) := by decide +kernel
theorem dX0_allFinished_1 : decode cX0_allFinished 1 = .ok (.getfield 34, 3) := by decide +kernel
theorem dX0_allFinished_4 : decode cX0_allFinished 4 = .ok (.bipush 10, 2) := by decide +kernel
theorem dX0_allFinished_6 : decode cX0_allFinished 6 = .ok (.iaload, 1) := by decide +kernel
theorem dX0_allFinished_7 : decode cX0_allFinished 7 = .ok (.aload_n 0, 1) := by decide +kernel
theorem dX0_allFinished_8 : decode cX0_allFinished 8 = .ok (.getfield 34, 3) := by decide +kernel
theorem dX0_allFinished_11 : decode cX0_allFinished 11 = .ok (.bipush 11, 2) := by decide +kernel
theorem dX0_allFinished_13 : decode cX0_allFinished 13 = .ok (.iaload, 1) := by decide +kernel
theorem dX0_allFinished_14 : decode cX0_allFinished 14 = .ok (.iadd, 1) := by decide +kernel
theorem dX0_allFinished_15 : decode cX0_allFinished 15 = .ok (.aload_n 0, 1) := by decide +kernel
theorem dX0_allFinished_16 : decode cX0_allFinished 16 = .ok (.getfield 34, 3) := by decide +kernel
theorem dX0_allFinished_19 : decode cX0_allFinished 19 = .ok (.bipush 12, 2) := by decide +kernel
theorem dX0_allFinished_21 : decode cX0_allFinished 21 = .ok (.iaload, 1) := by decide +kernel
theorem dX0_allFinished_22 : decode cX0_allFinished 22 = .ok (.iadd, 1) := by decide +kernel
theorem dX0_allFinished_23 : decode cX0_allFinished 23 = .ok (.aload_n 0, 1) := by decide +kernel
theorem dX0_allFinished_24 : decode cX0_allFinished 24 = .ok (.getfield 34, 3) := by decide +kernel
theorem dX0_allFinished_27 : decode cX0_allFinished 27 = .ok (.bipush 13, 2) := by decide +kernel
theorem dX0_allFinished_29 : decode cX0_allFinished 29 = .ok (.iaload, 1) := by decide +kernel
theorem dX0_allFinished_30 : decode cX0_allFinished 30 = .ok (.iadd, 1) := by decide +kernel
theorem dX0_allFinished_31 : decode cX0_allFinished 31 = .ok (.aload_n 0, 1) := by decide +kernel
theorem dX0_allFinished_32 : decode cX0_allFinished 32 = .ok (.getfield 9, 3) := by decide +kernel
theorem dX0_allFinished_35 : decode cX0_allFinished 35 = .ok (.if_icmp .ne 7, 3) := by decide +kernel
theorem dX0_allFinished_38 : decode cX0_allFinished 38 = .ok (.iconst 1, 1) := by decide +kernel
theorem dX0_allFinished_39 : decode cX0_allFinished 39 = .ok (.goto 4, 3) := by decide +kernel
theorem dX0_allFinished_42 : decode cX0_allFinished 42 = .ok (.iconst 0, 1) := by decide +kernel
theorem dX0_allFinished_43 : decode cX0_allFinished 43 = .ok (.ireturn, 1) := by decide +kernel
theorem dX0_ofFlight_0 : decode cX0_ofFlight 0 = .ok (.iconst 0, 1) := by decide +kernel
theorem dX0_ofFlight_1 : decode cX0_ofFlight 1 = .ok (.istore 4, 2) := by decide +kernel
theorem dX0_ofFlight_3 : decode cX0_ofFlight 3 = .ok (.iconst 0, 1) := by decide +kernel
theorem dX0_ofFlight_4 : decode cX0_ofFlight 4 = .ok (.istore 5, 2) := by decide +kernel
theorem dX0_ofFlight_6 : decode cX0_ofFlight 6 = .ok (.iload 5, 2) := by decide +kernel
theorem dX0_ofFlight_8 : decode cX0_ofFlight 8 = .ok (.aload_n 0, 1) := by decide +kernel
theorem dX0_ofFlight_9 : decode cX0_ofFlight 9 = .ok (.getfield 9, 3) := by decide +kernel
theorem dX0_ofFlight_12 : decode cX0_ofFlight 12 = .ok (.if_icmp .ge 51, 3) := by decide +kernel
theorem dX0_ofFlight_15 : decode cX0_ofFlight 15 = .ok (.aload_n 0, 1) := by decide +kernel
theorem dX0_ofFlight_16 : decode cX0_ofFlight 16 = .ok (.getfield 19, 3) := by decide +kernel
theorem dX0_ofFlight_19 : decode cX0_ofFlight 19 = .ok (.iload 5, 2) := by decide +kernel
theorem dX0_ofFlight_21 : decode cX0_ofFlight 21 = .ok (.invokestatic 47, 3) := by decide +kernel
theorem dX0_ofFlight_24 : decode cX0_ofFlight 24 = .ok (.iload_n 1, 1) := by decide +kernel
theorem dX0_ofFlight_25 : decode cX0_ofFlight 25 = .ok (.if_icmp .ne 32, 3) := by decide +kernel
theorem dX0_ofFlight_28 : decode cX0_ofFlight 28 = .ok (.aload_n 0, 1) := by decide +kernel
theorem dX0_ofFlight_29 : decode cX0_ofFlight 29 = .ok (.getfield 15, 3) := by decide +kernel
theorem dX0_ofFlight_32 : decode cX0_ofFlight 32 = .ok (.iload 5, 2) := by decide +kernel
theorem dX0_ofFlight_34 : decode cX0_ofFlight 34 = .ok (.invokestatic 47, 3) := by decide +kernel
theorem dX0_ofFlight_37 : decode cX0_ofFlight 37 = .ok (.iload_n 2, 1) := by decide +kernel
theorem dX0_ofFlight_38 : decode cX0_ofFlight 38 = .ok (.if_icmp .lt 19, 3) := by decide +kernel
theorem dX0_ofFlight_41 : decode cX0_ofFlight 41 = .ok (.aload_n 0, 1) := by decide +kernel
theorem dX0_ofFlight_42 : decode cX0_ofFlight 42 = .ok (.getfield 15, 3) := by decide +kernel
theorem dX0_ofFlight_45 : decode cX0_ofFlight 45 = .ok (.iload 5, 2) := by decide +kernel
theorem dX0_ofFlight_47 : decode cX0_ofFlight 47 = .ok (.invokestatic 47, 3) := by decide +kernel
theorem dX0_ofFlight_50 : decode cX0_ofFlight 50 = .ok (.iload_n 3, 1) := by decide +kernel
theorem dX0_ofFlight_51 : decode cX0_ofFlight 51 = .ok (.if_icmp .gt 6, 3) := by decide +kernel
theorem dX0_ofFlight_54 : decode cX0_ofFlight 54 = .ok (.iinc 4 1, 3) := by decide +kernel
theorem dX0_ofFlight_57 : decode cX0_ofFlight 57 = .ok (.iinc 5 1, 3) := by decide +kernel
theorem dX0_ofFlight_60 : decode cX0_ofFlight 60 = .ok (.goto (-54), 3) := by decide +kernel
theorem dX0_ofFlight_63 : decode cX0_ofFlight 63 = .ok (.iload 4, 2) := by decide +kernel
theorem dX0_ofFlight_65 : decode cX0_ofFlight 65 = .ok (.ireturn, 1) := by decide +kernel
theorem dX0_loadingTime_0 : decode cX0_loadingTime 0 = .ok (.iconst 0, 1) := by decide +kernel
theorem dX0_loadingTime_1 : decode cX0_loadingTime 1 = .ok (.istore_n 3, 1) := by decide +kernel
theorem dX0_loadingTime_2 : decode cX0_loadingTime 2 = .ok (.iload_n 3, 1) := by decide +kernel
theorem dX0_loadingTime_3 : decode cX0_loadingTime 3 = .ok (.aload_n 0, 1) := by decide +kernel
theorem dX0_loadingTime_4 : decode cX0_loadingTime 4 = .ok (.getfield 9, 3) := by decide +kernel
theorem dX0_loadingTime_7 : decode cX0_loadingTime 7 = .ok (.if_icmp .ge 64, 3) := by decide +kernel
theorem dX0_loadingTime_10 : decode cX0_loadingTime 10 = .ok (.aload_n 0, 1) := by decide +kernel
theorem dX0_loadingTime_11 : decode cX0_loadingTime 11 = .ok (.iload_n 3, 1) := by decide +kernel
theorem dX0_loadingTime_12 : decode cX0_loadingTime 12 = .ok (.iload_n 1, 1) := by decide +kernel
theorem dX0_loadingTime_13 : decode cX0_loadingTime 13 = .ok (.invokevirtual 55, 3) := by decide +kernel
theorem dX0_loadingTime_16 : decode cX0_loadingTime 16 = .ok (.ifCond .eq 49, 3) := by decide +kernel
theorem dX0_loadingTime_19 : decode cX0_loadingTime 19 = .ok (.aload_n 0, 1) := by decide +kernel
theorem dX0_loadingTime_20 : decode cX0_loadingTime 20 = .ok (.getfield 31, 3) := by decide +kernel
theorem dX0_loadingTime_23 : decode cX0_loadingTime 23 = .ok (.iload_n 3, 1) := by decide +kernel
theorem dX0_loadingTime_24 : decode cX0_loadingTime 24 = .ok (.invokestatic 47, 3) := by decide +kernel
theorem dX0_loadingTime_27 : decode cX0_loadingTime 27 = .ok (.aload_n 0, 1) := by decide +kernel
theorem dX0_loadingTime_28 : decode cX0_loadingTime 28 = .ok (.getfield 22, 3) := by decide +kernel
theorem dX0_loadingTime_31 : decode cX0_loadingTime 31 = .ok (.iload_n 3, 1) := by decide +kernel
theorem dX0_loadingTime_32 : decode cX0_loadingTime 32 = .ok (.invokestatic 47, 3) := by decide +kernel
theorem dX0_loadingTime_35 : decode cX0_loadingTime 35 = .ok (.isub, 1) := by decide +kernel
theorem dX0_loadingTime_36 : decode cX0_loadingTime 36 = .ok (.istore 4, 2) := by decide +kernel
theorem dX0_loadingTime_38 : decode cX0_loadingTime 38 = .ok (.aload_n 0, 1) := by decide +kernel
theorem dX0_loadingTime_39 : decode cX0_loadingTime 39 = .ok (.iload_n 1, 1) := by decide +kernel
theorem dX0_loadingTime_40 : decode cX0_loadingTime 40 = .ok (.iload 4, 2) := by decide +kernel
theorem dX0_loadingTime_42 : decode cX0_loadingTime 42 = .ok (.iconst 1, 1) := by decide +kernel
theorem dX0_loadingTime_43 : decode cX0_loadingTime 43 = .ok (.isub, 1) := by decide +kernel
theorem dX0_loadingTime_44 : decode cX0_loadingTime 44 = .ok (.invokevirtual 59, 3) := by decide +kernel
theorem dX0_loadingTime_47 : decode cX0_loadingTime 47 = .ok (.iload_n 2, 1) := by decide +kernel
theorem dX0_loadingTime_48 : decode cX0_loadingTime 48 = .ok (.if_icmp .ge 17, 3) := by decide +kernel
theorem dX0_loadingTime_51 : decode cX0_loadingTime 51 = .ok (.iload_n 2, 1) := by decide +kernel
theorem dX0_loadingTime_52 : decode cX0_loadingTime 52 = .ok (.aload_n 0, 1) := by decide +kernel
theorem dX0_loadingTime_53 : decode cX0_loadingTime 53 = .ok (.iload_n 1, 1) := by decide +kernel
theorem dX0_loadingTime_54 : decode cX0_loadingTime 54 = .ok (.iload 4, 2) := by decide +kernel
theorem dX0_loadingTime_56 : decode cX0_loadingTime 56 = .ok (.invokevirtual 59, 3) := by decide +kernel
theorem dX0_loadingTime_59 : decode cX0_loadingTime 59 = .ok (.if_icmp .gt 6, 3) := by decide +kernel
theorem dX0_loadingTime_62 : decode cX0_loadingTime 62 = .ok (.iload 4, 2) := by decide +kernel
theorem dX0_loadingTime_64 : decode cX0_loadingTime 64 = .ok (.ireturn, 1) := by decide +kernel
theorem dX0_loadingTime_65 : decode cX0_loadingTime 65 = .ok (.iinc 3 1, 3) := by decide +kernel
theorem dX0_loadingTime_68 : decode cX0_loadingTime 68 = .ok (.goto (-66), 3) := by decide +kernel
theorem dX0_loadingTime_71 : decode cX0_loadingTime 71 = .ok (.iconst (-1), 1) := by decide +kernel
theorem dX0_loadingTime_72 : decode cX0_loadingTime 72 = .ok (.ireturn, 1) := by decide +kernel
theorem dX0_loadedWithin_0 : decode cX0_loadedWithin 0 = .ok (.iconst 0, 1) := by decide +kernel
theorem dX0_loadedWithin_1 : decode cX0_loadedWithin 1 = .ok (.istore_n 3, 1) := by decide +kernel
theorem dX0_loadedWithin_2 : decode cX0_loadedWithin 2 = .ok (.iconst 0, 1) := by decide +kernel
theorem dX0_loadedWithin_3 : decode cX0_loadedWithin 3 = .ok (.istore 4, 2) := by decide +kernel
theorem dX0_loadedWithin_5 : decode cX0_loadedWithin 5 = .ok (.iload 4, 2) := by decide +kernel
theorem dX0_loadedWithin_7 : decode cX0_loadedWithin 7 = .ok (.aload_n 0, 1) := by decide +kernel
theorem dX0_loadedWithin_8 : decode cX0_loadedWithin 8 = .ok (.getfield 9, 3) := by decide +kernel
theorem dX0_loadedWithin_11 : decode cX0_loadedWithin 11 = .ok (.if_icmp .ge 45, 3) := by decide +kernel
theorem dX0_loadedWithin_14 : decode cX0_loadedWithin 14 = .ok (.aload_n 0, 1) := by decide +kernel
theorem dX0_loadedWithin_15 : decode cX0_loadedWithin 15 = .ok (.iload 4, 2) := by decide +kernel
theorem dX0_loadedWithin_17 : decode cX0_loadedWithin 17 = .ok (.iload_n 1, 1) := by decide +kernel
theorem dX0_loadedWithin_18 : decode cX0_loadedWithin 18 = .ok (.invokevirtual 55, 3) := by decide +kernel
theorem dX0_loadedWithin_21 : decode cX0_loadedWithin 21 = .ok (.ifCond .eq 29, 3) := by decide +kernel
theorem dX0_loadedWithin_24 : decode cX0_loadedWithin 24 = .ok (.aload_n 0, 1) := by decide +kernel
theorem dX0_loadedWithin_25 : decode cX0_loadedWithin 25 = .ok (.getfield 31, 3) := by decide +kernel
theorem dX0_loadedWithin_28 : decode cX0_loadedWithin 28 = .ok (.iload 4, 2) := by decide +kernel
theorem dX0_loadedWithin_30 : decode cX0_loadedWithin 30 = .ok (.invokestatic 47, 3) := by decide +kernel
theorem dX0_loadedWithin_33 : decode cX0_loadedWithin 33 = .ok (.aload_n 0, 1) := by decide +kernel
theorem dX0_loadedWithin_34 : decode cX0_loadedWithin 34 = .ok (.getfield 22, 3) := by decide +kernel
theorem dX0_loadedWithin_37 : decode cX0_loadedWithin 37 = .ok (.iload 4, 2) := by decide +kernel
theorem dX0_loadedWithin_39 : decode cX0_loadedWithin 39 = .ok (.invokestatic 47, 3) := by decide +kernel
theorem dX0_loadedWithin_42 : decode cX0_loadedWithin 42 = .ok (.isub, 1) := by decide +kernel
theorem dX0_loadedWithin_43 : decode cX0_loadedWithin 43 = .ok (.iload_n 2, 1) := by decide +kernel
theorem dX0_loadedWithin_44 : decode cX0_loadedWithin 44 = .ok (.if_icmp .gt 6, 3) := by decide +kernel
theorem dX0_loadedWithin_47 : decode cX0_loadedWithin 47 = .ok (.iinc 3 1, 3) := by decide +kernel
theorem dX0_loadedWithin_50 : decode cX0_loadedWithin 50 = .ok (.iinc 4 1, 3) := by decide +kernel
theorem dX0_loadedWithin_53 : decode cX0_loadedWithin 53 = .ok (.goto (-48), 3) := by decide +kernel
theorem dX0_loadedWithin_56 : decode cX0_loadedWithin 56 = .ok (.iload_n 3, 1) := by decide +kernel
theorem dX0_loadedWithin_57 : decode cX0_loadedWithin 57 = .ok (.ireturn, 1) := by decide +kernel
theorem dX0_isLoaded_0 : decode cX0_isLoaded 0 = .ok (.aload_n 0, 1) := by decide +kernel
theorem dX0_isLoaded_1 : decode cX0_isLoaded 1 = .ok (.getfield 19, 3) := by decide +kernel
theorem dX0_isLoaded_4 : decode cX0_isLoaded 4 = .ok (.iload_n 1, 1) := by decide +kernel
theorem dX0_isLoaded_5 : decode cX0_isLoaded 5 = .ok (.invokestatic 47, 3) := by decide +kernel
theorem dX0_isLoaded_8 : decode cX0_isLoaded 8 = .ok (.iload_n 2, 1) := by decide +kernel
theorem dX0_isLoaded_9 : decode cX0_isLoaded 9 = .ok (.if_icmp .ne 20, 3) := by decide +kernel
theorem dX0_isLoaded_12 : decode cX0_isLoaded 12 = .ok (.aload_n 0, 1) := by decide +kernel
theorem dX0_isLoaded_13 : decode cX0_isLoaded 13 = .ok (.getfield 15, 3) := by decide +kernel
theorem dX0_isLoaded_16 : decode cX0_isLoaded 16 = .ok (.iload_n 1, 1) := by decide +kernel
theorem dX0_isLoaded_17 : decode cX0_isLoaded 17 = .ok (.invokestatic 47, 3) := by decide +kernel
theorem dX0_isLoaded_20 : decode cX0_isLoaded 20 = .ok (.bipush 10, 2) := by decide +kernel
theorem dX0_isLoaded_22 : decode cX0_isLoaded 22 = .ok (.if_icmp .ne 7, 3) := by decide +kernel
theorem dX0_isLoaded_25 : decode cX0_isLoaded 25 = .ok (.iconst 1, 1) := by decide +kernel
theorem dX0_isLoaded_26 : decode cX0_isLoaded 26 = .ok (.goto 4, 3) := by decide +kernel
theorem dX0_isLoaded_29 : decode cX0_isLoaded 29 = .ok (.iconst 0, 1) := by decide +kernel
theorem dX0_isLoaded_30 : decode cX0_isLoaded 30 = .ok (.ireturn, 1) := by decide +kernel
theorem dX1_init_0 : decode cX1_init 0 = .ok (.aload_n 0, 1) := by decide +kernel
theorem dX1_init_1 : decode cX1_init 1 = .ok (.invokespecial 3, 3) := by decide +kernel
theorem dX1_init_4 : decode cX1_init 4 = .ok (.aload_n 0, 1) := by decide +kernel
theorem dX1_init_5 : decode cX1_init 5 = .ok (.iconst 0, 1) := by decide +kernel
theorem dX1_init_6 : decode cX1_init 6 = .ok (.putfield 9, 3) := by decide +kernel
theorem dX1_init_9 : decode cX1_init 9 = .ok (.aload_n 0, 1) := by decide +kernel
theorem dX1_init_10 : decode cX1_init 10 = .ok (.iconst 0, 1) := by decide +kernel
theorem dX1_init_11 : decode cX1_init 11 = .ok (.putfield 15, 3) := by decide +kernel
theorem dX1_init_14 : decode cX1_init 14 = .ok (.aload_n 0, 1) := by decide +kernel
theorem dX1_init_15 : decode cX1_init 15 = .ok (.bipush 6, 2) := by decide +kernel
theorem dX1_init_17 : decode cX1_init 17 = .ok (.anewarray 18, 3) := by decide +kernel
theorem dX1_init_20 : decode cX1_init 20 = .ok (.putfield 20, 3) := by decide +kernel
theorem dX1_init_23 : decode cX1_init 23 = .ok (.iconst 0, 1) := by decide +kernel
theorem dX1_init_24 : decode cX1_init 24 = .ok (.istore_n 1, 1) := by decide +kernel
theorem dX1_init_25 : decode cX1_init 25 = .ok (.iload_n 1, 1) := by decide +kernel
theorem dX1_init_26 : decode cX1_init 26 = .ok (.aload_n 0, 1) := by decide +kernel
theorem dX1_init_27 : decode cX1_init 27 = .ok (.getfield 20, 3) := by decide +kernel
theorem dX1_init_30 : decode cX1_init 30 = .ok (.arraylength, 1) := by decide +kernel
theorem dX1_init_31 : decode cX1_init 31 = .ok (.if_icmp .ge 22, 3) := by decide +kernel
theorem dX1_init_34 : decode cX1_init 34 = .ok (.aload_n 0, 1) := by decide +kernel
theorem dX1_init_35 : decode cX1_init 35 = .ok (.getfield 20, 3) := by decide +kernel
theorem dX1_init_38 : decode cX1_init 38 = .ok (.iload_n 1, 1) := by decide +kernel
theorem dX1_init_39 : decode cX1_init 39 = .ok (.new 18, 3) := by decide +kernel
theorem dX1_init_42 : decode cX1_init 42 = .ok (.dup, 1) := by decide +kernel
theorem dX1_init_43 : decode cX1_init 43 = .ok (.invokespecial 24, 3) := by decide +kernel
theorem dX1_init_46 : decode cX1_init 46 = .ok (.aastore, 1) := by decide +kernel
theorem dX1_init_47 : decode cX1_init 47 = .ok (.iinc 1 1, 3) := by decide +kernel
theorem dX1_init_50 : decode cX1_init 50 = .ok (.goto (-25), 3) := by decide +kernel
theorem dX1_init_53 : decode cX1_init 53 = .ok (.return_, 1) := by decide +kernel
theorem dX1_remember_0 : decode cX1_remember 0 = .ok (.aload_n 0, 1) := by decide +kernel
theorem dX1_remember_1 : decode cX1_remember 1 = .ok (.getfield 15, 3) := by decide +kernel
theorem dX1_remember_4 : decode cX1_remember 4 = .ok (.ifCond .lt 40, 3) := by decide +kernel
theorem dX1_remember_7 : decode cX1_remember 7 = .ok (.aload_n 0, 1) := by decide +kernel
theorem dX1_remember_8 : decode cX1_remember 8 = .ok (.getfield 15, 3) := by decide +kernel
theorem dX1_remember_11 : decode cX1_remember 11 = .ok (.aload_n 0, 1) := by decide +kernel
theorem dX1_remember_12 : decode cX1_remember 12 = .ok (.getfield 20, 3) := by decide +kernel
theorem dX1_remember_15 : decode cX1_remember 15 = .ok (.arraylength, 1) := by decide +kernel
theorem dX1_remember_16 : decode cX1_remember 16 = .ok (.if_icmp .ge 28, 3) := by decide +kernel
theorem dX1_remember_19 : decode cX1_remember 19 = .ok (.aload_n 0, 1) := by decide +kernel
theorem dX1_remember_20 : decode cX1_remember 20 = .ok (.getfield 20, 3) := by decide +kernel
theorem dX1_remember_23 : decode cX1_remember 23 = .ok (.aload_n 0, 1) := by decide +kernel
theorem dX1_remember_24 : decode cX1_remember 24 = .ok (.getfield 15, 3) := by decide +kernel
theorem dX1_remember_27 : decode cX1_remember 27 = .ok (.aaload, 1) := by decide +kernel
theorem dX1_remember_28 : decode cX1_remember 28 = .ok (.ifnull 16, 3) := by decide +kernel
theorem dX1_remember_31 : decode cX1_remember 31 = .ok (.aload_n 0, 1) := by decide +kernel
theorem dX1_remember_32 : decode cX1_remember 32 = .ok (.getfield 20, 3) := by decide +kernel
theorem dX1_remember_35 : decode cX1_remember 35 = .ok (.aload_n 0, 1) := by decide +kernel
theorem dX1_remember_36 : decode cX1_remember 36 = .ok (.getfield 15, 3) := by decide +kernel
theorem dX1_remember_39 : decode cX1_remember 39 = .ok (.aaload, 1) := by decide +kernel
theorem dX1_remember_40 : decode cX1_remember 40 = .ok (.aload_n 1, 1) := by decide +kernel
theorem dX1_remember_41 : decode cX1_remember 41 = .ok (.invokevirtual 25, 3) := by decide +kernel
theorem dX1_remember_44 : decode cX1_remember 44 = .ok (.aload_n 0, 1) := by decide +kernel
theorem dX1_remember_45 : decode cX1_remember 45 = .ok (.aload_n 0, 1) := by decide +kernel
theorem dX1_remember_46 : decode cX1_remember 46 = .ok (.getfield 15, 3) := by decide +kernel
theorem dX1_remember_49 : decode cX1_remember 49 = .ok (.iconst 1, 1) := by decide +kernel
theorem dX1_remember_50 : decode cX1_remember 50 = .ok (.iadd, 1) := by decide +kernel
theorem dX1_remember_51 : decode cX1_remember 51 = .ok (.bipush 6, 2) := by decide +kernel
theorem dX1_remember_53 : decode cX1_remember 53 = .ok (.if_icmp .ge 12, 3) := by decide +kernel
theorem dX1_remember_56 : decode cX1_remember 56 = .ok (.aload_n 0, 1) := by decide +kernel
theorem dX1_remember_57 : decode cX1_remember 57 = .ok (.getfield 15, 3) := by decide +kernel
theorem dX1_remember_60 : decode cX1_remember 60 = .ok (.iconst 1, 1) := by decide +kernel
theorem dX1_remember_61 : decode cX1_remember 61 = .ok (.iadd, 1) := by decide +kernel
theorem dX1_remember_62 : decode cX1_remember 62 = .ok (.goto 4, 3) := by decide +kernel
theorem dX1_remember_65 : decode cX1_remember 65 = .ok (.iconst 0, 1) := by decide +kernel
theorem dX1_remember_66 : decode cX1_remember 66 = .ok (.putfield 15, 3) := by decide +kernel
theorem dX1_remember_69 : decode cX1_remember 69 = .ok (.aload_n 0, 1) := by decide +kernel
theorem dX1_remember_70 : decode cX1_remember 70 = .ok (.aload_n 0, 1) := by decide +kernel
theorem dX1_remember_71 : decode cX1_remember 71 = .ok (.getfield 9, 3) := by decide +kernel
theorem dX1_remember_74 : decode cX1_remember 74 = .ok (.iconst 1, 1) := by decide +kernel
theorem dX1_remember_75 : decode cX1_remember 75 = .ok (.iadd, 1) := by decide +kernel
theorem dX1_remember_76 : decode cX1_remember 76 = .ok (.bipush 6, 2) := by decide +kernel
theorem dX1_remember_78 : decode cX1_remember 78 = .ok (.invokestatic 29, 3) := by decide +kernel
theorem dX1_remember_81 : decode cX1_remember 81 = .ok (.putfield 9, 3) := by decide +kernel
theorem dX1_remember_84 : decode cX1_remember 84 = .ok (.return_, 1) := by decide +kernel
theorem dX1_bringBack_0 : decode cX1_bringBack 0 = .ok (.aload_n 0, 1) := by decide +kernel
theorem dX1_bringBack_1 : decode cX1_bringBack 1 = .ok (.aload_n 0, 1) := by decide +kernel
theorem dX1_bringBack_2 : decode cX1_bringBack 2 = .ok (.getfield 15, 3) := by decide +kernel
theorem dX1_bringBack_5 : decode cX1_bringBack 5 = .ok (.ifCond .le 12, 3) := by decide +kernel
theorem dX1_bringBack_8 : decode cX1_bringBack 8 = .ok (.aload_n 0, 1) := by decide +kernel
theorem dX1_bringBack_9 : decode cX1_bringBack 9 = .ok (.getfield 15, 3) := by decide +kernel
theorem dX1_bringBack_12 : decode cX1_bringBack 12 = .ok (.iconst 1, 1) := by decide +kernel
theorem dX1_bringBack_13 : decode cX1_bringBack 13 = .ok (.isub, 1) := by decide +kernel
theorem dX1_bringBack_14 : decode cX1_bringBack 14 = .ok (.goto 4, 3) := by decide +kernel
theorem dX1_bringBack_17 : decode cX1_bringBack 17 = .ok (.iconst 5, 1) := by decide +kernel
theorem dX1_bringBack_18 : decode cX1_bringBack 18 = .ok (.putfield 15, 3) := by decide +kernel
theorem dX1_bringBack_21 : decode cX1_bringBack 21 = .ok (.aload_n 0, 1) := by decide +kernel
theorem dX1_bringBack_22 : decode cX1_bringBack 22 = .ok (.getfield 15, 3) := by decide +kernel
theorem dX1_bringBack_25 : decode cX1_bringBack 25 = .ok (.aload_n 0, 1) := by decide +kernel
theorem dX1_bringBack_26 : decode cX1_bringBack 26 = .ok (.getfield 20, 3) := by decide +kernel
theorem dX1_bringBack_29 : decode cX1_bringBack 29 = .ok (.arraylength, 1) := by decide +kernel
theorem dX1_bringBack_30 : decode cX1_bringBack 30 = .ok (.if_icmp .ge 28, 3) := by decide +kernel
theorem dX1_bringBack_33 : decode cX1_bringBack 33 = .ok (.aload_n 0, 1) := by decide +kernel
theorem dX1_bringBack_34 : decode cX1_bringBack 34 = .ok (.getfield 20, 3) := by decide +kernel
theorem dX1_bringBack_37 : decode cX1_bringBack 37 = .ok (.aload_n 0, 1) := by decide +kernel
theorem dX1_bringBack_38 : decode cX1_bringBack 38 = .ok (.getfield 15, 3) := by decide +kernel
theorem dX1_bringBack_41 : decode cX1_bringBack 41 = .ok (.aaload, 1) := by decide +kernel
theorem dX1_bringBack_42 : decode cX1_bringBack 42 = .ok (.ifnull 16, 3) := by decide +kernel
theorem dX1_bringBack_45 : decode cX1_bringBack 45 = .ok (.aload_n 1, 1) := by decide +kernel
theorem dX1_bringBack_46 : decode cX1_bringBack 46 = .ok (.aload_n 0, 1) := by decide +kernel
theorem dX1_bringBack_47 : decode cX1_bringBack 47 = .ok (.getfield 20, 3) := by decide +kernel
theorem dX1_bringBack_50 : decode cX1_bringBack 50 = .ok (.aload_n 0, 1) := by decide +kernel
theorem dX1_bringBack_51 : decode cX1_bringBack 51 = .ok (.getfield 15, 3) := by decide +kernel
theorem dX1_bringBack_54 : decode cX1_bringBack 54 = .ok (.aaload, 1) := by decide +kernel
theorem dX1_bringBack_55 : decode cX1_bringBack 55 = .ok (.invokevirtual 25, 3) := by decide +kernel
theorem dX1_bringBack_58 : decode cX1_bringBack 58 = .ok (.aload_n 0, 1) := by decide +kernel
theorem dX1_bringBack_59 : decode cX1_bringBack 59 = .ok (.aload_n 0, 1) := by decide +kernel
theorem dX1_bringBack_60 : decode cX1_bringBack 60 = .ok (.getfield 9, 3) := by decide +kernel
theorem dX1_bringBack_63 : decode cX1_bringBack 63 = .ok (.iconst 1, 1) := by decide +kernel
theorem dX1_bringBack_64 : decode cX1_bringBack 64 = .ok (.isub, 1) := by decide +kernel
theorem dX1_bringBack_65 : decode cX1_bringBack 65 = .ok (.iconst 0, 1) := by decide +kernel
theorem dX1_bringBack_66 : decode cX1_bringBack 66 = .ok (.invokestatic 35, 3) := by decide +kernel
theorem dX1_bringBack_69 : decode cX1_bringBack 69 = .ok (.putfield 9, 3) := by decide +kernel
theorem dX1_bringBack_72 : decode cX1_bringBack 72 = .ok (.return_, 1) := by decide +kernel
theorem dX2_init_0 : decode cX2_init 0 = .ok (.aload_n 0, 1) := by decide +kernel
theorem dX2_init_1 : decode cX2_init 1 = .ok (.invokespecial 3, 3) := by decide +kernel
theorem dX2_init_4 : decode cX2_init 4 = .ok (.aload_n 0, 1) := by decide +kernel
theorem dX2_init_5 : decode cX2_init 5 = .ok (.iconst 0, 1) := by decide +kernel
theorem dX2_init_6 : decode cX2_init 6 = .ok (.putfield 9, 3) := by decide +kernel
theorem dX2_init_9 : decode cX2_init 9 = .ok (.aload_n 0, 1) := by decide +kernel
theorem dX2_init_10 : decode cX2_init 10 = .ok (.iconst (-1), 1) := by decide +kernel
theorem dX2_init_11 : decode cX2_init 11 = .ok (.putfield 15, 3) := by decide +kernel
theorem dX2_init_14 : decode cX2_init 14 = .ok (.aload_n 0, 1) := by decide +kernel
theorem dX2_init_15 : decode cX2_init 15 = .ok (.iconst 0, 1) := by decide +kernel
theorem dX2_init_16 : decode cX2_init 16 = .ok (.putfield 18, 3) := by decide +kernel
theorem dX2_init_19 : decode cX2_init 19 = .ok (.aload_n 0, 1) := by decide +kernel
theorem dX2_init_20 : decode cX2_init 20 = .ok (.sipush 1200, 3) := by decide +kernel
theorem dX2_init_23 : decode cX2_init 23 = .ok (.newarray .byte, 2) := by decide +kernel
theorem dX2_init_25 : decode cX2_init 25 = .ok (.putfield 21, 3) := by decide +kernel
theorem dX2_init_28 : decode cX2_init 28 = .ok (.aload_n 0, 1) := by decide +kernel
theorem dX2_init_29 : decode cX2_init 29 = .ok (.iconst 0, 1) := by decide +kernel
theorem dX2_init_30 : decode cX2_init 30 = .ok (.putfield 25, 3) := by decide +kernel
theorem dX2_init_33 : decode cX2_init 33 = .ok (.aload_n 0, 1) := by decide +kernel
theorem dX2_init_34 : decode cX2_init 34 = .ok (.iconst 0, 1) := by decide +kernel
theorem dX2_init_35 : decode cX2_init 35 = .ok (.putfield 28, 3) := by decide +kernel
theorem dX2_init_38 : decode cX2_init 38 = .ok (.aload_n 0, 1) := by decide +kernel
theorem dX2_init_39 : decode cX2_init 39 = .ok (.iconst 0, 1) := by decide +kernel
theorem dX2_init_40 : decode cX2_init 40 = .ok (.putfield 31, 3) := by decide +kernel
theorem dX2_init_43 : decode cX2_init 43 = .ok (.aload_n 0, 1) := by decide +kernel
theorem dX2_init_44 : decode cX2_init 44 = .ok (.iconst 0, 1) := by decide +kernel
theorem dX2_init_45 : decode cX2_init 45 = .ok (.putfield 34, 3) := by decide +kernel
theorem dX2_init_48 : decode cX2_init 48 = .ok (.aload_n 0, 1) := by decide +kernel
theorem dX2_init_49 : decode cX2_init 49 = .ok (.iconst 0, 1) := by decide +kernel
theorem dX2_init_50 : decode cX2_init 50 = .ok (.putfield 37, 3) := by decide +kernel
theorem dX2_init_53 : decode cX2_init 53 = .ok (.aload_n 0, 1) := by decide +kernel
theorem dX2_init_54 : decode cX2_init 54 = .ok (.lconst 0, 1) := by decide +kernel
theorem dX2_init_55 : decode cX2_init 55 = .ok (.putfield 40, 3) := by decide +kernel
theorem dX2_init_58 : decode cX2_init 58 = .ok (.return_, 1) := by decide +kernel
theorem dX2_addInt_0 : decode cX2_addInt 0 = .ok (.bipush 24, 2) := by decide +kernel
theorem dX2_addInt_2 : decode cX2_addInt 2 = .ok (.istore_n 2, 1) := by decide +kernel
theorem dX2_addInt_3 : decode cX2_addInt 3 = .ok (.iload_n 2, 1) := by decide +kernel
theorem dX2_addInt_4 : decode cX2_addInt 4 = .ok (.ifCond .lt 51, 3) := by decide +kernel
theorem dX2_addInt_7 : decode cX2_addInt 7 = .ok (.aload_n 0, 1) := by decide +kernel
theorem dX2_addInt_8 : decode cX2_addInt 8 = .ok (.getfield 18, 3) := by decide +kernel
theorem dX2_addInt_11 : decode cX2_addInt 11 = .ok (.ifCond .lt 44, 3) := by decide +kernel
theorem dX2_addInt_14 : decode cX2_addInt 14 = .ok (.aload_n 0, 1) := by decide +kernel
theorem dX2_addInt_15 : decode cX2_addInt 15 = .ok (.getfield 18, 3) := by decide +kernel
theorem dX2_addInt_18 : decode cX2_addInt 18 = .ok (.aload_n 0, 1) := by decide +kernel
theorem dX2_addInt_19 : decode cX2_addInt 19 = .ok (.getfield 21, 3) := by decide +kernel
theorem dX2_addInt_22 : decode cX2_addInt 22 = .ok (.arraylength, 1) := by decide +kernel
theorem dX2_addInt_23 : decode cX2_addInt 23 = .ok (.if_icmp .ge 32, 3) := by decide +kernel
theorem dX2_addInt_26 : decode cX2_addInt 26 = .ok (.aload_n 0, 1) := by decide +kernel
theorem dX2_addInt_27 : decode cX2_addInt 27 = .ok (.getfield 21, 3) := by decide +kernel
theorem dX2_addInt_30 : decode cX2_addInt 30 = .ok (.aload_n 0, 1) := by decide +kernel
theorem dX2_addInt_31 : decode cX2_addInt 31 = .ok (.getfield 18, 3) := by decide +kernel
theorem dX2_addInt_34 : decode cX2_addInt 34 = .ok (.iload_n 1, 1) := by decide +kernel
theorem dX2_addInt_35 : decode cX2_addInt 35 = .ok (.iload_n 2, 1) := by decide +kernel
theorem dX2_addInt_36 : decode cX2_addInt 36 = .ok (.ishr, 1) := by decide +kernel
theorem dX2_addInt_37 : decode cX2_addInt 37 = .ok (.i2b, 1) := by decide +kernel
theorem dX2_addInt_38 : decode cX2_addInt 38 = .ok (.bastore, 1) := by decide +kernel
theorem dX2_addInt_39 : decode cX2_addInt 39 = .ok (.aload_n 0, 1) := by decide +kernel
theorem dX2_addInt_40 : decode cX2_addInt 40 = .ok (.dup, 1) := by decide +kernel
theorem dX2_addInt_41 : decode cX2_addInt 41 = .ok (.getfield 18, 3) := by decide +kernel
theorem dX2_addInt_44 : decode cX2_addInt 44 = .ok (.iconst 1, 1) := by decide +kernel
theorem dX2_addInt_45 : decode cX2_addInt 45 = .ok (.iadd, 1) := by decide +kernel
theorem dX2_addInt_46 : decode cX2_addInt 46 = .ok (.putfield 18, 3) := by decide +kernel
theorem dX2_addInt_49 : decode cX2_addInt 49 = .ok (.iinc 2 (-8), 3) := by decide +kernel
theorem dX2_addInt_52 : decode cX2_addInt 52 = .ok (.goto (-49), 3) := by decide +kernel
theorem dX2_addInt_55 : decode cX2_addInt 55 = .ok (.return_, 1) := by decide +kernel
theorem dX2_parse_0 : decode cX2_parse 0 = .ok (.aload_n 0, 1) := by decide +kernel
theorem dX2_parse_1 : decode cX2_parse 1 = .ok (.iconst 0, 1) := by decide +kernel
theorem dX2_parse_2 : decode cX2_parse 2 = .ok (.putfield 9, 3) := by decide +kernel
theorem dX2_parse_5 : decode cX2_parse 5 = .ok (.aload_n 0, 1) := by decide +kernel
theorem dX2_parse_6 : decode cX2_parse 6 = .ok (.iconst (-1), 1) := by decide +kernel
theorem dX2_parse_7 : decode cX2_parse 7 = .ok (.putfield 15, 3) := by decide +kernel
theorem dX2_parse_10 : decode cX2_parse 10 = .ok (.aload_n 0, 1) := by decide +kernel
theorem dX2_parse_11 : decode cX2_parse 11 = .ok (.iload_n 1, 1) := by decide +kernel
theorem dX2_parse_12 : decode cX2_parse 12 = .ok (.aload_n 0, 1) := by decide +kernel
theorem dX2_parse_13 : decode cX2_parse 13 = .ok (.getfield 21, 3) := by decide +kernel
theorem dX2_parse_16 : decode cX2_parse 16 = .ok (.arraylength, 1) := by decide +kernel
theorem dX2_parse_17 : decode cX2_parse 17 = .ok (.invokestatic 44, 3) := by decide +kernel
theorem dX2_parse_20 : decode cX2_parse 20 = .ok (.putfield 25, 3) := by decide +kernel
theorem dX2_parse_23 : decode cX2_parse 23 = .ok (.aload_n 0, 1) := by decide +kernel
theorem dX2_parse_24 : decode cX2_parse 24 = .ok (.iconst 0, 1) := by decide +kernel
theorem dX2_parse_25 : decode cX2_parse 25 = .ok (.putfield 28, 3) := by decide +kernel
theorem dX2_parse_28 : decode cX2_parse 28 = .ok (.aload_n 0, 1) := by decide +kernel
theorem dX2_parse_29 : decode cX2_parse 29 = .ok (.lconst 0, 1) := by decide +kernel
theorem dX2_parse_30 : decode cX2_parse 30 = .ok (.putfield 40, 3) := by decide +kernel
theorem dX2_parse_33 : decode cX2_parse 33 = .ok (.aload_n 2, 1) := by decide +kernel
theorem dX2_parse_34 : decode cX2_parse 34 = .ok (.invokevirtual 50, 3) := by decide +kernel
theorem dX2_parse_37 : decode cX2_parse 37 = .ok (.aload_n 3, 1) := by decide +kernel
theorem dX2_parse_38 : decode cX2_parse 38 = .ok (.invokevirtual 55, 3) := by decide +kernel
theorem dX2_parse_41 : decode cX2_parse 41 = .ok (.aload_n 0, 1) := by decide +kernel
theorem dX2_parse_42 : decode cX2_parse 42 = .ok (.invokevirtual 58, 3) := by decide +kernel
theorem dX2_parse_45 : decode cX2_parse 45 = .ok (.aload_n 0, 1) := by decide +kernel
theorem dX2_parse_46 : decode cX2_parse 46 = .ok (.aload_n 2, 1) := by decide +kernel
theorem dX2_parse_47 : decode cX2_parse 47 = .ok (.aload_n 3, 1) := by decide +kernel
theorem dX2_parse_48 : decode cX2_parse 48 = .ok (.invokevirtual 61, 3) := by decide +kernel
theorem dX2_parse_51 : decode cX2_parse 51 = .ok (.iconst 0, 1) := by decide +kernel
theorem dX2_parse_52 : decode cX2_parse 52 = .ok (.istore 4, 2) := by decide +kernel
theorem dX2_parse_54 : decode cX2_parse 54 = .ok (.iload 4, 2) := by decide +kernel
theorem dX2_parse_56 : decode cX2_parse 56 = .ok (.sipush 1200, 3) := by decide +kernel
theorem dX2_parse_59 : decode cX2_parse 59 = .ok (.if_icmp .ge 28, 3) := by decide +kernel
theorem dX2_parse_62 : decode cX2_parse 62 = .ok (.aload_n 0, 1) := by decide +kernel
theorem dX2_parse_63 : decode cX2_parse 63 = .ok (.bipush 59, 2) := by decide +kernel
theorem dX2_parse_65 : decode cX2_parse 65 = .ok (.invokevirtual 65, 3) := by decide +kernel
theorem dX2_parse_68 : decode cX2_parse 68 = .ok (.ifCond .eq 19, 3) := by decide +kernel
theorem dX2_parse_71 : decode cX2_parse 71 = .ok (.aload_n 0, 1) := by decide +kernel
theorem dX2_parse_72 : decode cX2_parse 72 = .ok (.invokevirtual 58, 3) := by decide +kernel
theorem dX2_parse_75 : decode cX2_parse 75 = .ok (.aload_n 0, 1) := by decide +kernel
theorem dX2_parse_76 : decode cX2_parse 76 = .ok (.aload_n 2, 1) := by decide +kernel
theorem dX2_parse_77 : decode cX2_parse 77 = .ok (.aload_n 3, 1) := by decide +kernel
theorem dX2_parse_78 : decode cX2_parse 78 = .ok (.invokevirtual 69, 3) := by decide +kernel
theorem dX2_parse_81 : decode cX2_parse 81 = .ok (.iinc 4 1, 3) := by decide +kernel
theorem dX2_parse_84 : decode cX2_parse 84 = .ok (.goto (-30), 3) := by decide +kernel
theorem dX2_parse_87 : decode cX2_parse 87 = .ok (.aload_n 0, 1) := by decide +kernel
theorem dX2_parse_88 : decode cX2_parse 88 = .ok (.getfield 31, 3) := by decide +kernel
theorem dX2_parse_91 : decode cX2_parse 91 = .ok (.ifCond .eq 8, 3) := by decide +kernel
theorem dX2_parse_94 : decode cX2_parse 94 = .ok (.aload_n 0, 1) := by decide +kernel
theorem dX2_parse_95 : decode cX2_parse 95 = .ok (.iconst 1, 1) := by decide +kernel
theorem dX2_parse_96 : decode cX2_parse 96 = .ok (.invokevirtual 72, 3) := by decide +kernel
theorem dX2_parse_99 : decode cX2_parse 99 = .ok (.aload_n 2, 1) := by decide +kernel
theorem dX2_parse_100 : decode cX2_parse 100 = .ok (.getfield 76, 3) := by decide +kernel
theorem dX2_parse_103 : decode cX2_parse 103 = .ok (.ifCond .ne 8, 3) := by decide +kernel
theorem dX2_parse_106 : decode cX2_parse 106 = .ok (.aload_n 0, 1) := by decide +kernel
theorem dX2_parse_107 : decode cX2_parse 107 = .ok (.iconst 5, 1) := by decide +kernel
theorem dX2_parse_108 : decode cX2_parse 108 = .ok (.invokevirtual 72, 3) := by decide +kernel
theorem dX2_parse_111 : decode cX2_parse 111 = .ok (.aload_n 3, 1) := by decide +kernel
theorem dX2_parse_112 : decode cX2_parse 112 = .ok (.invokestatic 79, 3) := by decide +kernel
theorem dX2_parse_115 : decode cX2_parse 115 = .ok (.return_, 1) := by decide +kernel
theorem dX2_readHeader_0 : decode cX2_readHeader 0 = .ok (.aload_n 0, 1) := by decide +kernel
theorem dX2_readHeader_1 : decode cX2_readHeader 1 = .ok (.ldc 85, 2) := by decide +kernel
theorem dX2_readHeader_3 : decode cX2_readHeader 3 = .ok (.invokevirtual 87, 3) := by decide +kernel
theorem dX2_readHeader_6 : decode cX2_readHeader 6 = .ok (.aload_n 1, 1) := by decide +kernel
theorem dX2_readHeader_7 : decode cX2_readHeader 7 = .ok (.aload_n 0, 1) := by decide +kernel
theorem dX2_readHeader_8 : decode cX2_readHeader 8 = .ok (.iconst 4, 1) := by decide +kernel
theorem dX2_readHeader_9 : decode cX2_readHeader 9 = .ok (.bipush 40, 2) := by decide +kernel
theorem dX2_readHeader_11 : decode cX2_readHeader 11 = .ok (.invokevirtual 91, 3) := by decide +kernel
theorem dX2_readHeader_14 : decode cX2_readHeader 14 = .ok (.putfield 94, 3) := by decide +kernel
theorem dX2_readHeader_17 : decode cX2_readHeader 17 = .ok (.aload_n 1, 1) := by decide +kernel
theorem dX2_readHeader_18 : decode cX2_readHeader 18 = .ok (.aload_n 0, 1) := by decide +kernel
theorem dX2_readHeader_19 : decode cX2_readHeader 19 = .ok (.aload_n 1, 1) := by decide +kernel
theorem dX2_readHeader_20 : decode cX2_readHeader 20 = .ok (.invokevirtual 97, 3) := by decide +kernel
theorem dX2_readHeader_23 : decode cX2_readHeader 23 = .ok (.putfield 101, 3) := by decide +kernel
theorem dX2_readHeader_26 : decode cX2_readHeader 26 = .ok (.aload_n 1, 1) := by decide +kernel
theorem dX2_readHeader_27 : decode cX2_readHeader 27 = .ok (.aload_n 0, 1) := by decide +kernel
theorem dX2_readHeader_28 : decode cX2_readHeader 28 = .ok (.aload_n 1, 1) := by decide +kernel
theorem dX2_readHeader_29 : decode cX2_readHeader 29 = .ok (.invokevirtual 97, 3) := by decide +kernel
theorem dX2_readHeader_32 : decode cX2_readHeader 32 = .ok (.putfield 104, 3) := by decide +kernel
theorem dX2_readHeader_35 : decode cX2_readHeader 35 = .ok (.iconst 0, 1) := by decide +kernel
theorem dX2_readHeader_36 : decode cX2_readHeader 36 = .ok (.istore_n 3, 1) := by decide +kernel
theorem dX2_readHeader_37 : decode cX2_readHeader 37 = .ok (.iload_n 3, 1) := by decide +kernel
theorem dX2_readHeader_38 : decode cX2_readHeader 38 = .ok (.iconst 3, 1) := by decide +kernel
theorem dX2_readHeader_39 : decode cX2_readHeader 39 = .ok (.if_icmp .ge 54, 3) := by decide +kernel
theorem dX2_readHeader_42 : decode cX2_readHeader 42 = .ok (.aload_n 0, 1) := by decide +kernel
theorem dX2_readHeader_43 : decode cX2_readHeader 43 = .ok (.ldc 107, 2) := by decide +kernel
theorem dX2_readHeader_45 : decode cX2_readHeader 45 = .ok (.invokevirtual 87, 3) := by decide +kernel
theorem dX2_readHeader_48 : decode cX2_readHeader 48 = .ok (.aload_n 1, 1) := by decide +kernel
theorem dX2_readHeader_49 : decode cX2_readHeader 49 = .ok (.getfield 109, 3) := by decide +kernel
theorem dX2_readHeader_52 : decode cX2_readHeader 52 = .ok (.iload_n 3, 1) := by decide +kernel
theorem dX2_readHeader_53 : decode cX2_readHeader 53 = .ok (.aload_n 0, 1) := by decide +kernel
theorem dX2_readHeader_54 : decode cX2_readHeader 54 = .ok (.iconst 1, 1) := by decide +kernel
theorem dX2_readHeader_55 : decode cX2_readHeader 55 = .ok (.iconst 4, 1) := by decide +kernel
theorem dX2_readHeader_56 : decode cX2_readHeader 56 = .ok (.invokevirtual 91, 3) := by decide +kernel
theorem dX2_readHeader_59 : decode cX2_readHeader 59 = .ok (.iastore, 1) := by decide +kernel
theorem dX2_readHeader_60 : decode cX2_readHeader 60 = .ok (.aload_n 1, 1) := by decide +kernel
theorem dX2_readHeader_61 : decode cX2_readHeader 61 = .ok (.getfield 113, 3) := by decide +kernel
theorem dX2_readHeader_64 : decode cX2_readHeader 64 = .ok (.iload_n 3, 1) := by decide +kernel
theorem dX2_readHeader_65 : decode cX2_readHeader 65 = .ok (.aload_n 0, 1) := by decide +kernel
theorem dX2_readHeader_66 : decode cX2_readHeader 66 = .ok (.iconst 1, 1) := by decide +kernel
theorem dX2_readHeader_67 : decode cX2_readHeader 67 = .ok (.bipush 99, 2) := by decide +kernel
theorem dX2_readHeader_69 : decode cX2_readHeader 69 = .ok (.invokevirtual 91, 3) := by decide +kernel
theorem dX2_readHeader_72 : decode cX2_readHeader 72 = .ok (.iastore, 1) := by decide +kernel
theorem dX2_readHeader_73 : decode cX2_readHeader 73 = .ok (.aload_n 1, 1) := by decide +kernel
theorem dX2_readHeader_74 : decode cX2_readHeader 74 = .ok (.getfield 116, 3) := by decide +kernel
theorem dX2_readHeader_77 : decode cX2_readHeader 77 = .ok (.iload_n 3, 1) := by decide +kernel
theorem dX2_readHeader_78 : decode cX2_readHeader 78 = .ok (.aload_n 0, 1) := by decide +kernel
theorem dX2_readHeader_79 : decode cX2_readHeader 79 = .ok (.iconst 0, 1) := by decide +kernel
theorem dX2_readHeader_80 : decode cX2_readHeader 80 = .ok (.sipush 1000, 3) := by decide +kernel
theorem dX2_readHeader_83 : decode cX2_readHeader 83 = .ok (.invokevirtual 91, 3) := by decide +kernel
theorem dX2_readHeader_86 : decode cX2_readHeader 86 = .ok (.iastore, 1) := by decide +kernel
theorem dX2_readHeader_87 : decode cX2_readHeader 87 = .ok (.iinc 3 1, 3) := by decide +kernel
theorem dX2_readHeader_90 : decode cX2_readHeader 90 = .ok (.goto (-53), 3) := by decide +kernel
theorem dX2_readHeader_93 : decode cX2_readHeader 93 = .ok (.aload_n 0, 1) := by decide +kernel
theorem dX2_readHeader_94 : decode cX2_readHeader 94 = .ok (.ldc 119, 2) := by decide +kernel
theorem dX2_readHeader_96 : decode cX2_readHeader 96 = .ok (.invokevirtual 87, 3) := by decide +kernel
theorem dX2_readHeader_99 : decode cX2_readHeader 99 = .ok (.aload_n 2, 1) := by decide +kernel
theorem dX2_readHeader_100 : decode cX2_readHeader 100 = .ok (.aload_n 0, 1) := by decide +kernel
theorem dX2_readHeader_101 : decode cX2_readHeader 101 = .ok (.iconst 0, 1) := by decide +kernel
theorem dX2_readHeader_102 : decode cX2_readHeader 102 = .ok (.sipush 999, 3) := by decide +kernel
theorem dX2_readHeader_105 : decode cX2_readHeader 105 = .ok (.invokevirtual 91, 3) := by decide +kernel
theorem dX2_readHeader_108 : decode cX2_readHeader 108 = .ok (.putfield 121, 3) := by decide +kernel
theorem dX2_readHeader_111 : decode cX2_readHeader 111 = .ok (.aload_n 0, 1) := by decide +kernel
theorem dX2_readHeader_112 : decode cX2_readHeader 112 = .ok (.ldc 123, 2) := by decide +kernel
theorem dX2_readHeader_114 : decode cX2_readHeader 114 = .ok (.invokevirtual 87, 3) := by decide +kernel
theorem dX2_readHeader_117 : decode cX2_readHeader 117 = .ok (.aload_n 2, 1) := by decide +kernel
theorem dX2_readHeader_118 : decode cX2_readHeader 118 = .ok (.aload_n 0, 1) := by decide +kernel
theorem dX2_readHeader_119 : decode cX2_readHeader 119 = .ok (.iconst 0, 1) := by decide +kernel
theorem dX2_readHeader_120 : decode cX2_readHeader 120 = .ok (.ldc 125, 2) := by decide +kernel
theorem dX2_readHeader_122 : decode cX2_readHeader 122 = .ok (.invokevirtual 91, 3) := by decide +kernel
theorem dX2_readHeader_125 : decode cX2_readHeader 125 = .ok (.i2l, 1) := by decide +kernel
theorem dX2_readHeader_126 : decode cX2_readHeader 126 = .ok (.putfield 126, 3) := by decide +kernel
theorem dX2_readHeader_129 : decode cX2_readHeader 129 = .ok (.return_, 1) := by decide +kernel
theorem dX2_readLine_0 : decode cX2_readLine 0 = .ok (.aload_n 0, 1) := by decide +kernel
theorem dX2_readLine_1 : decode cX2_readLine 1 = .ok (.ldc 129, 2) := by decide +kernel
theorem dX2_readLine_3 : decode cX2_readLine 3 = .ok (.invokevirtual 131, 3) := by decide +kernel
theorem dX2_readLine_6 : decode cX2_readLine 6 = .ok (.ifCond .eq 22, 3) := by decide +kernel
theorem dX2_readLine_9 : decode cX2_readLine 9 = .ok (.aload_n 0, 1) := by decide +kernel
theorem dX2_readLine_10 : decode cX2_readLine 10 = .ok (.aload_n 1, 1) := by decide +kernel
theorem dX2_readLine_11 : decode cX2_readLine 11 = .ok (.getfield 76, 3) := by decide +kernel
theorem dX2_readLine_14 : decode cX2_readLine 14 = .ok (.bipush 8, 2) := by decide +kernel
theorem dX2_readLine_16 : decode cX2_readLine 16 = .ok (.invokevirtual 135, 3) := by decide +kernel
theorem dX2_readLine_19 : decode cX2_readLine 19 = .ok (.aload_n 0, 1) := by decide +kernel
theorem dX2_readLine_20 : decode cX2_readLine 20 = .ok (.aload_n 1, 1) := by decide +kernel
theorem dX2_readLine_21 : decode cX2_readLine 21 = .ok (.aload_n 2, 1) := by decide +kernel
theorem dX2_readLine_22 : decode cX2_readLine 22 = .ok (.invokevirtual 139, 3) := by decide +kernel
theorem dX2_readLine_25 : decode cX2_readLine 25 = .ok (.goto 122, 3) := by decide +kernel
theorem dX2_readLine_28 : decode cX2_readLine 28 = .ok (.aload_n 0, 1) := by decide +kernel
theorem dX2_readLine_29 : decode cX2_readLine 29 = .ok (.ldc 142, 2) := by decide +kernel
theorem dX2_readLine_31 : decode cX2_readLine 31 = .ok (.invokevirtual 131, 3) := by decide +kernel
theorem dX2_readLine_34 : decode cX2_readLine 34 = .ok (.ifCond .eq 20, 3) := by decide +kernel
theorem dX2_readLine_37 : decode cX2_readLine 37 = .ok (.aload_n 0, 1) := by decide +kernel
theorem dX2_readLine_38 : decode cX2_readLine 38 = .ok (.aload_n 1, 1) := by decide +kernel
theorem dX2_readLine_39 : decode cX2_readLine 39 = .ok (.getfield 144, 3) := by decide +kernel
theorem dX2_readLine_42 : decode cX2_readLine 42 = .ok (.iconst 4, 1) := by decide +kernel
theorem dX2_readLine_43 : decode cX2_readLine 43 = .ok (.invokevirtual 135, 3) := by decide +kernel
theorem dX2_readLine_46 : decode cX2_readLine 46 = .ok (.aload_n 0, 1) := by decide +kernel
theorem dX2_readLine_47 : decode cX2_readLine 47 = .ok (.aload_n 1, 1) := by decide +kernel
theorem dX2_readLine_48 : decode cX2_readLine 48 = .ok (.invokevirtual 147, 3) := by decide +kernel
theorem dX2_readLine_51 : decode cX2_readLine 51 = .ok (.goto 96, 3) := by decide +kernel
theorem dX2_readLine_54 : decode cX2_readLine 54 = .ok (.aload_n 0, 1) := by decide +kernel
theorem dX2_readLine_55 : decode cX2_readLine 55 = .ok (.ldc 151, 2) := by decide +kernel
theorem dX2_readLine_57 : decode cX2_readLine 57 = .ok (.invokevirtual 131, 3) := by decide +kernel
theorem dX2_readLine_60 : decode cX2_readLine 60 = .ok (.ifCond .eq 16, 3) := by decide +kernel
theorem dX2_readLine_63 : decode cX2_readLine 63 = .ok (.aload_n 0, 1) := by decide +kernel
theorem dX2_readLine_64 : decode cX2_readLine 64 = .ok (.invokevirtual 58, 3) := by decide +kernel
theorem dX2_readLine_67 : decode cX2_readLine 67 = .ok (.aload_n 0, 1) := by decide +kernel
theorem dX2_readLine_68 : decode cX2_readLine 68 = .ok (.aload_n 1, 1) := by decide +kernel
theorem dX2_readLine_69 : decode cX2_readLine 69 = .ok (.aload_n 2, 1) := by decide +kernel
theorem dX2_readLine_70 : decode cX2_readLine 70 = .ok (.invokevirtual 153, 3) := by decide +kernel
theorem dX2_readLine_73 : decode cX2_readLine 73 = .ok (.goto 74, 3) := by decide +kernel
theorem dX2_readLine_76 : decode cX2_readLine 76 = .ok (.aload_n 0, 1) := by decide +kernel
theorem dX2_readLine_77 : decode cX2_readLine 77 = .ok (.ldc 156, 2) := by decide +kernel
theorem dX2_readLine_79 : decode cX2_readLine 79 = .ok (.invokevirtual 131, 3) := by decide +kernel
theorem dX2_readLine_82 : decode cX2_readLine 82 = .ok (.ifCond .eq 20, 3) := by decide +kernel
theorem dX2_readLine_85 : decode cX2_readLine 85 = .ok (.aload_n 0, 1) := by decide +kernel
theorem dX2_readLine_86 : decode cX2_readLine 86 = .ok (.aload_n 1, 1) := by decide +kernel
theorem dX2_readLine_87 : decode cX2_readLine 87 = .ok (.getfield 158, 3) := by decide +kernel
theorem dX2_readLine_90 : decode cX2_readLine 90 = .ok (.iconst 4, 1) := by decide +kernel
theorem dX2_readLine_91 : decode cX2_readLine 91 = .ok (.invokevirtual 135, 3) := by decide +kernel
theorem dX2_readLine_94 : decode cX2_readLine 94 = .ok (.aload_n 0, 1) := by decide +kernel
theorem dX2_readLine_95 : decode cX2_readLine 95 = .ok (.aload_n 1, 1) := by decide +kernel
theorem dX2_readLine_96 : decode cX2_readLine 96 = .ok (.invokevirtual 161, 3) := by decide +kernel
theorem dX2_readLine_99 : decode cX2_readLine 99 = .ok (.goto 48, 3) := by decide +kernel
theorem dX2_readLine_102 : decode cX2_readLine 102 = .ok (.aload_n 0, 1) := by decide +kernel
theorem dX2_readLine_103 : decode cX2_readLine 103 = .ok (.ldc 164, 2) := by decide +kernel
theorem dX2_readLine_105 : decode cX2_readLine 105 = .ok (.invokevirtual 131, 3) := by decide +kernel
theorem dX2_readLine_108 : decode cX2_readLine 108 = .ok (.ifCond .eq 34, 3) := by decide +kernel
theorem dX2_readLine_111 : decode cX2_readLine 111 = .ok (.aload_n 0, 1) := by decide +kernel
theorem dX2_readLine_112 : decode cX2_readLine 112 = .ok (.aload_n 1, 1) := by decide +kernel
theorem dX2_readLine_113 : decode cX2_readLine 113 = .ok (.getfield 166, 3) := by decide +kernel
theorem dX2_readLine_116 : decode cX2_readLine 116 = .ok (.getfield 170, 3) := by decide +kernel
theorem dX2_readLine_119 : decode cX2_readLine 119 = .ok (.iconst 3, 1) := by decide +kernel
theorem dX2_readLine_120 : decode cX2_readLine 120 = .ok (.invokevirtual 135, 3) := by decide +kernel
theorem dX2_readLine_123 : decode cX2_readLine 123 = .ok (.aload_n 0, 1) := by decide +kernel
theorem dX2_readLine_124 : decode cX2_readLine 124 = .ok (.aload_n 1, 1) := by decide +kernel
theorem dX2_readLine_125 : decode cX2_readLine 125 = .ok (.getfield 166, 3) := by decide +kernel
theorem dX2_readLine_128 : decode cX2_readLine 128 = .ok (.iconst 0, 1) := by decide +kernel
theorem dX2_readLine_129 : decode cX2_readLine 129 = .ok (.invokevirtual 175, 3) := by decide +kernel
theorem dX2_readLine_132 : decode cX2_readLine 132 = .ok (.aload_n 1, 1) := by decide +kernel
theorem dX2_readLine_133 : decode cX2_readLine 133 = .ok (.getfield 166, 3) := by decide +kernel
theorem dX2_readLine_136 : decode cX2_readLine 136 = .ok (.invokevirtual 179, 3) := by decide +kernel
theorem dX2_readLine_139 : decode cX2_readLine 139 = .ok (.goto 8, 3) := by decide +kernel
theorem dX2_readLine_142 : decode cX2_readLine 142 = .ok (.aload_n 0, 1) := by decide +kernel
theorem dX2_readLine_143 : decode cX2_readLine 143 = .ok (.iconst 1, 1) := by decide +kernel
theorem dX2_readLine_144 : decode cX2_readLine 144 = .ok (.invokevirtual 72, 3) := by decide +kernel
theorem dX2_readLine_147 : decode cX2_readLine 147 = .ok (.return_, 1) := by decide +kernel
theorem dX2_beginLine_0 : decode cX2_beginLine 0 = .ok (.iload_n 1, 1) := by decide +kernel
theorem dX2_beginLine_1 : decode cX2_beginLine 1 = .ok (.iload_n 2, 1) := by decide +kernel
theorem dX2_beginLine_2 : decode cX2_beginLine 2 = .ok (.if_icmp .lt 8, 3) := by decide +kernel
theorem dX2_beginLine_5 : decode cX2_beginLine 5 = .ok (.aload_n 0, 1) := by decide +kernel
theorem dX2_beginLine_6 : decode cX2_beginLine 6 = .ok (.iconst 4, 1) := by decide +kernel
theorem dX2_beginLine_7 : decode cX2_beginLine 7 = .ok (.invokevirtual 72, 3) := by decide +kernel
theorem dX2_beginLine_10 : decode cX2_beginLine 10 = .ok (.aload_n 0, 1) := by decide +kernel
theorem dX2_beginLine_11 : decode cX2_beginLine 11 = .ok (.invokevirtual 58, 3) := by decide +kernel
theorem dX2_beginLine_14 : decode cX2_beginLine 14 = .ok (.return_, 1) := by decide +kernel
theorem dX2_readFlight_0 : decode cX2_readFlight 0 = .ok (.aload_n 0, 1) := by decide +kernel
theorem dX2_readFlight_1 : decode cX2_readFlight 1 = .ok (.aload_n 1, 1) := by decide +kernel
theorem dX2_readFlight_2 : decode cX2_readFlight 2 = .ok (.invokevirtual 97, 3) := by decide +kernel
theorem dX2_readFlight_5 : decode cX2_readFlight 5 = .ok (.istore_n 3, 1) := by decide +kernel
theorem dX2_readFlight_6 : decode cX2_readFlight 6 = .ok (.aload_n 0, 1) := by decide +kernel
theorem dX2_readFlight_7 : decode cX2_readFlight 7 = .ok (.iconst 0, 1) := by decide +kernel
theorem dX2_readFlight_8 : decode cX2_readFlight 8 = .ok (.sipush 999, 3) := by decide +kernel
theorem dX2_readFlight_11 : decode cX2_readFlight 11 = .ok (.invokevirtual 91, 3) := by decide +kernel
theorem dX2_readFlight_14 : decode cX2_readFlight 14 = .ok (.istore 4, 2) := by decide +kernel
theorem dX2_readFlight_16 : decode cX2_readFlight 16 = .ok (.aload_n 0, 1) := by decide +kernel
theorem dX2_readFlight_17 : decode cX2_readFlight 17 = .ok (.iload 4, 2) := by decide +kernel
theorem dX2_readFlight_19 : decode cX2_readFlight 19 = .ok (.iconst 1, 1) := by decide +kernel
theorem dX2_readFlight_20 : decode cX2_readFlight 20 = .ok (.iadd, 1) := by decide +kernel
theorem dX2_readFlight_21 : decode cX2_readFlight 21 = .ok (.sipush 1999, 3) := by decide +kernel
theorem dX2_readFlight_24 : decode cX2_readFlight 24 = .ok (.invokevirtual 91, 3) := by decide +kernel
theorem dX2_readFlight_27 : decode cX2_readFlight 27 = .ok (.istore 5, 2) := by decide +kernel
theorem dX2_readFlight_29 : decode cX2_readFlight 29 = .ok (.aload_n 1, 1) := by decide +kernel
theorem dX2_readFlight_30 : decode cX2_readFlight 30 = .ok (.getfield 182, 3) := by decide +kernel
theorem dX2_readFlight_33 : decode cX2_readFlight 33 = .ok (.aload_n 1, 1) := by decide +kernel
theorem dX2_readFlight_34 : decode cX2_readFlight 34 = .ok (.getfield 76, 3) := by decide +kernel
theorem dX2_readFlight_37 : decode cX2_readFlight 37 = .ok (.iload_n 3, 1) := by decide +kernel
theorem dX2_readFlight_38 : decode cX2_readFlight 38 = .ok (.invokestatic 185, 3) := by decide +kernel
theorem dX2_readFlight_41 : decode cX2_readFlight 41 = .ok (.aload_n 2, 1) := by decide +kernel
theorem dX2_readFlight_42 : decode cX2_readFlight 42 = .ok (.getfield 189, 3) := by decide +kernel
theorem dX2_readFlight_45 : decode cX2_readFlight 45 = .ok (.aload_n 1, 1) := by decide +kernel
theorem dX2_readFlight_46 : decode cX2_readFlight 46 = .ok (.getfield 76, 3) := by decide +kernel
theorem dX2_readFlight_49 : decode cX2_readFlight 49 = .ok (.iload 4, 2) := by decide +kernel
theorem dX2_readFlight_51 : decode cX2_readFlight 51 = .ok (.invokestatic 185, 3) := by decide +kernel
theorem dX2_readFlight_54 : decode cX2_readFlight 54 = .ok (.aload_n 2, 1) := by decide +kernel
theorem dX2_readFlight_55 : decode cX2_readFlight 55 = .ok (.getfield 192, 3) := by decide +kernel
theorem dX2_readFlight_58 : decode cX2_readFlight 58 = .ok (.aload_n 1, 1) := by decide +kernel
theorem dX2_readFlight_59 : decode cX2_readFlight 59 = .ok (.getfield 76, 3) := by decide +kernel
theorem dX2_readFlight_62 : decode cX2_readFlight 62 = .ok (.iload 5, 2) := by decide +kernel
theorem dX2_readFlight_64 : decode cX2_readFlight 64 = .ok (.invokestatic 185, 3) := by decide +kernel
theorem dX2_readFlight_67 : decode cX2_readFlight 67 = .ok (.aload_n 1, 1) := by decide +kernel
theorem dX2_readFlight_68 : decode cX2_readFlight 68 = .ok (.dup, 1) := by decide +kernel
theorem dX2_readFlight_69 : decode cX2_readFlight 69 = .ok (.getfield 76, 3) := by decide +kernel
theorem dX2_readFlight_72 : decode cX2_readFlight 72 = .ok (.iconst 1, 1) := by decide +kernel
theorem dX2_readFlight_73 : decode cX2_readFlight 73 = .ok (.iadd, 1) := by decide +kernel
theorem dX2_readFlight_74 : decode cX2_readFlight 74 = .ok (.putfield 76, 3) := by decide +kernel
theorem dX2_readFlight_77 : decode cX2_readFlight 77 = .ok (.return_, 1) := by decide +kernel
theorem dX2_readLane_0 : decode cX2_readLane 0 = .ok (.aload_n 0, 1) := by decide +kernel
theorem dX2_readLane_1 : decode cX2_readLane 1 = .ok (.aload_n 1, 1) := by decide +kernel
theorem dX2_readLane_2 : decode cX2_readLane 2 = .ok (.invokevirtual 97, 3) := by decide +kernel
theorem dX2_readLane_5 : decode cX2_readLane 5 = .ok (.istore_n 2, 1) := by decide +kernel
theorem dX2_readLane_6 : decode cX2_readLane 6 = .ok (.aload_n 0, 1) := by decide +kernel
theorem dX2_readLane_7 : decode cX2_readLane 7 = .ok (.iconst 1, 1) := by decide +kernel
theorem dX2_readLane_8 : decode cX2_readLane 8 = .ok (.bipush 20, 2) := by decide +kernel
theorem dX2_readLane_10 : decode cX2_readLane 10 = .ok (.invokevirtual 91, 3) := by decide +kernel
theorem dX2_readLane_13 : decode cX2_readLane 13 = .ok (.istore_n 3, 1) := by decide +kernel
theorem dX2_readLane_14 : decode cX2_readLane 14 = .ok (.aload_n 1, 1) := by decide +kernel
theorem dX2_readLane_15 : decode cX2_readLane 15 = .ok (.getfield 195, 3) := by decide +kernel
theorem dX2_readLane_18 : decode cX2_readLane 18 = .ok (.aload_n 1, 1) := by decide +kernel
theorem dX2_readLane_19 : decode cX2_readLane 19 = .ok (.getfield 144, 3) := by decide +kernel
theorem dX2_readLane_22 : decode cX2_readLane 22 = .ok (.iload_n 2, 1) := by decide +kernel
theorem dX2_readLane_23 : decode cX2_readLane 23 = .ok (.invokestatic 185, 3) := by decide +kernel
theorem dX2_readLane_26 : decode cX2_readLane 26 = .ok (.aload_n 1, 1) := by decide +kernel
theorem dX2_readLane_27 : decode cX2_readLane 27 = .ok (.getfield 198, 3) := by decide +kernel
theorem dX2_readLane_30 : decode cX2_readLane 30 = .ok (.aload_n 1, 1) := by decide +kernel
theorem dX2_readLane_31 : decode cX2_readLane 31 = .ok (.getfield 144, 3) := by decide +kernel
theorem dX2_readLane_34 : decode cX2_readLane 34 = .ok (.iload_n 3, 1) := by decide +kernel
theorem dX2_readLane_35 : decode cX2_readLane 35 = .ok (.invokestatic 185, 3) := by decide +kernel
theorem dX2_readLane_38 : decode cX2_readLane 38 = .ok (.aload_n 1, 1) := by decide +kernel
theorem dX2_readLane_39 : decode cX2_readLane 39 = .ok (.dup, 1) := by decide +kernel
theorem dX2_readLane_40 : decode cX2_readLane 40 = .ok (.getfield 144, 3) := by decide +kernel
theorem dX2_readLane_43 : decode cX2_readLane 43 = .ok (.iconst 1, 1) := by decide +kernel
theorem dX2_readLane_44 : decode cX2_readLane 44 = .ok (.iadd, 1) := by decide +kernel
theorem dX2_readLane_45 : decode cX2_readLane 45 = .ok (.putfield 144, 3) := by decide +kernel
theorem dX2_readLane_48 : decode cX2_readLane 48 = .ok (.return_, 1) := by decide +kernel
theorem dX2_readBags_0 : decode cX2_readBags 0 = .ok (.aload_n 0, 1) := by decide +kernel
theorem dX2_readBags_1 : decode cX2_readBags 1 = .ok (.iconst 0, 1) := by decide +kernel
theorem dX2_readBags_2 : decode cX2_readBags 2 = .ok (.sipush 999, 3) := by decide +kernel
theorem dX2_readBags_5 : decode cX2_readBags 5 = .ok (.invokevirtual 91, 3) := by decide +kernel
theorem dX2_readBags_8 : decode cX2_readBags 8 = .ok (.istore_n 3, 1) := by decide +kernel
theorem dX2_readBags_9 : decode cX2_readBags 9 = .ok (.aload_n 0, 1) := by decide +kernel
theorem dX2_readBags_10 : decode cX2_readBags 10 = .ok (.iconst 1, 1) := by decide +kernel
theorem dX2_readBags_11 : decode cX2_readBags 11 = .ok (.bipush 100, 2) := by decide +kernel
theorem dX2_readBags_13 : decode cX2_readBags 13 = .ok (.aload_n 2, 1) := by decide +kernel
theorem dX2_readBags_14 : decode cX2_readBags 14 = .ok (.getfield 201, 3) := by decide +kernel
theorem dX2_readBags_17 : decode cX2_readBags 17 = .ok (.getfield 204, 3) := by decide +kernel
theorem dX2_readBags_20 : decode cX2_readBags 20 = .ok (.isub, 1) := by decide +kernel
theorem dX2_readBags_21 : decode cX2_readBags 21 = .ok (.invokevirtual 91, 3) := by decide +kernel
theorem dX2_readBags_24 : decode cX2_readBags 24 = .ok (.istore 4, 2) := by decide +kernel
theorem dX2_readBags_26 : decode cX2_readBags 26 = .ok (.aload_n 0, 1) := by decide +kernel
theorem dX2_readBags_27 : decode cX2_readBags 27 = .ok (.iconst 0, 1) := by decide +kernel
theorem dX2_readBags_28 : decode cX2_readBags 28 = .ok (.aload_n 1, 1) := by decide +kernel
theorem dX2_readBags_29 : decode cX2_readBags 29 = .ok (.getfield 76, 3) := by decide +kernel
theorem dX2_readBags_32 : decode cX2_readBags 32 = .ok (.iconst 1, 1) := by decide +kernel
theorem dX2_readBags_33 : decode cX2_readBags 33 = .ok (.isub, 1) := by decide +kernel
theorem dX2_readBags_34 : decode cX2_readBags 34 = .ok (.invokevirtual 91, 3) := by decide +kernel
theorem dX2_readBags_37 : decode cX2_readBags 37 = .ok (.istore 5, 2) := by decide +kernel
theorem dX2_readBags_39 : decode cX2_readBags 39 = .ok (.aload_n 2, 1) := by decide +kernel
theorem dX2_readBags_40 : decode cX2_readBags 40 = .ok (.getfield 201, 3) := by decide +kernel
theorem dX2_readBags_43 : decode cX2_readBags 43 = .ok (.iload_n 3, 1) := by decide +kernel
theorem dX2_readBags_44 : decode cX2_readBags 44 = .ok (.iload 4, 2) := by decide +kernel
theorem dX2_readBags_46 : decode cX2_readBags 46 = .ok (.iload 5, 2) := by decide +kernel
theorem dX2_readBags_48 : decode cX2_readBags 48 = .ok (.invokevirtual 207, 3) := by decide +kernel
theorem dX2_readBags_51 : decode cX2_readBags 51 = .ok (.return_, 1) := by decide +kernel
theorem dX2_readShift_0 : decode cX2_readShift 0 = .ok (.aload_n 0, 1) := by decide +kernel
theorem dX2_readShift_1 : decode cX2_readShift 1 = .ok (.iconst 1, 1) := by decide +kernel
theorem dX2_readShift_2 : decode cX2_readShift 2 = .ok (.iconst 3, 1) := by decide +kernel
theorem dX2_readShift_3 : decode cX2_readShift 3 = .ok (.invokevirtual 91, 3) := by decide +kernel
theorem dX2_readShift_6 : decode cX2_readShift 6 = .ok (.istore_n 2, 1) := by decide +kernel
theorem dX2_readShift_7 : decode cX2_readShift 7 = .ok (.aload_n 0, 1) := by decide +kernel
theorem dX2_readShift_8 : decode cX2_readShift 8 = .ok (.iconst 0, 1) := by decide +kernel
theorem dX2_readShift_9 : decode cX2_readShift 9 = .ok (.iconst 3, 1) := by decide +kernel
theorem dX2_readShift_10 : decode cX2_readShift 10 = .ok (.invokevirtual 91, 3) := by decide +kernel
theorem dX2_readShift_13 : decode cX2_readShift 13 = .ok (.istore_n 3, 1) := by decide +kernel
theorem dX2_readShift_14 : decode cX2_readShift 14 = .ok (.aload_n 0, 1) := by decide +kernel
theorem dX2_readShift_15 : decode cX2_readShift 15 = .ok (.iconst 0, 1) := by decide +kernel
theorem dX2_readShift_16 : decode cX2_readShift 16 = .ok (.sipush 999, 3) := by decide +kernel
theorem dX2_readShift_19 : decode cX2_readShift 19 = .ok (.invokevirtual 91, 3) := by decide +kernel
theorem dX2_readShift_22 : decode cX2_readShift 22 = .ok (.istore 4, 2) := by decide +kernel
theorem dX2_readShift_24 : decode cX2_readShift 24 = .ok (.aload_n 0, 1) := by decide +kernel
theorem dX2_readShift_25 : decode cX2_readShift 25 = .ok (.iload 4, 2) := by decide +kernel
theorem dX2_readShift_27 : decode cX2_readShift 27 = .ok (.sipush 1999, 3) := by decide +kernel
theorem dX2_readShift_30 : decode cX2_readShift 30 = .ok (.invokevirtual 91, 3) := by decide +kernel
theorem dX2_readShift_33 : decode cX2_readShift 33 = .ok (.istore 5, 2) := by decide +kernel
theorem dX2_readShift_35 : decode cX2_readShift 35 = .ok (.aload_n 1, 1) := by decide +kernel
theorem dX2_readShift_36 : decode cX2_readShift 36 = .ok (.getfield 211, 3) := by decide +kernel
theorem dX2_readShift_39 : decode cX2_readShift 39 = .ok (.aload_n 1, 1) := by decide +kernel
theorem dX2_readShift_40 : decode cX2_readShift 40 = .ok (.getfield 158, 3) := by decide +kernel
theorem dX2_readShift_43 : decode cX2_readShift 43 = .ok (.iload_n 2, 1) := by decide +kernel
theorem dX2_readShift_44 : decode cX2_readShift 44 = .ok (.invokestatic 185, 3) := by decide +kernel
theorem dX2_readShift_47 : decode cX2_readShift 47 = .ok (.aload_n 1, 1) := by decide +kernel
theorem dX2_readShift_48 : decode cX2_readShift 48 = .ok (.getfield 214, 3) := by decide +kernel
theorem dX2_readShift_51 : decode cX2_readShift 51 = .ok (.aload_n 1, 1) := by decide +kernel
theorem dX2_readShift_52 : decode cX2_readShift 52 = .ok (.getfield 158, 3) := by decide +kernel
theorem dX2_readShift_55 : decode cX2_readShift 55 = .ok (.iload_n 3, 1) := by decide +kernel
theorem dX2_readShift_56 : decode cX2_readShift 56 = .ok (.invokestatic 185, 3) := by decide +kernel
theorem dX2_readShift_59 : decode cX2_readShift 59 = .ok (.aload_n 1, 1) := by decide +kernel
theorem dX2_readShift_60 : decode cX2_readShift 60 = .ok (.getfield 217, 3) := by decide +kernel
theorem dX2_readShift_63 : decode cX2_readShift 63 = .ok (.aload_n 1, 1) := by decide +kernel
theorem dX2_readShift_64 : decode cX2_readShift 64 = .ok (.getfield 158, 3) := by decide +kernel
theorem dX2_readShift_67 : decode cX2_readShift 67 = .ok (.iload 4, 2) := by decide +kernel
theorem dX2_readShift_69 : decode cX2_readShift 69 = .ok (.invokestatic 185, 3) := by decide +kernel
theorem dX2_readShift_72 : decode cX2_readShift 72 = .ok (.aload_n 1, 1) := by decide +kernel
theorem dX2_readShift_73 : decode cX2_readShift 73 = .ok (.getfield 220, 3) := by decide +kernel
theorem dX2_readShift_76 : decode cX2_readShift 76 = .ok (.aload_n 1, 1) := by decide +kernel
theorem dX2_readShift_77 : decode cX2_readShift 77 = .ok (.getfield 158, 3) := by decide +kernel
theorem dX2_readShift_80 : decode cX2_readShift 80 = .ok (.iload 5, 2) := by decide +kernel
theorem dX2_readShift_82 : decode cX2_readShift 82 = .ok (.invokestatic 185, 3) := by decide +kernel
theorem dX2_readShift_85 : decode cX2_readShift 85 = .ok (.aload_n 1, 1) := by decide +kernel
theorem dX2_readShift_86 : decode cX2_readShift 86 = .ok (.dup, 1) := by decide +kernel
theorem dX2_readShift_87 : decode cX2_readShift 87 = .ok (.getfield 158, 3) := by decide +kernel
theorem dX2_readShift_90 : decode cX2_readShift 90 = .ok (.iconst 1, 1) := by decide +kernel
theorem dX2_readShift_91 : decode cX2_readShift 91 = .ok (.iadd, 1) := by decide +kernel
theorem dX2_readShift_92 : decode cX2_readShift 92 = .ok (.putfield 158, 3) := by decide +kernel
theorem dX2_readShift_95 : decode cX2_readShift 95 = .ok (.return_, 1) := by decide +kernel
theorem dX2_readTest_0 : decode cX2_readTest 0 = .ok (.aload_n 0, 1) := by decide +kernel
theorem dX2_readTest_1 : decode cX2_readTest 1 = .ok (.aload_n 1, 1) := by decide +kernel
theorem dX2_readTest_2 : decode cX2_readTest 2 = .ok (.iload_n 2, 1) := by decide +kernel
theorem dX2_readTest_3 : decode cX2_readTest 3 = .ok (.invokevirtual 223, 3) := by decide +kernel
theorem dX2_readTest_6 : decode cX2_readTest 6 = .ok (.iconst 0, 1) := by decide +kernel
theorem dX2_readTest_7 : decode cX2_readTest 7 = .ok (.istore_n 3, 1) := by decide +kernel
theorem dX2_readTest_8 : decode cX2_readTest 8 = .ok (.iload_n 3, 1) := by decide +kernel
theorem dX2_readTest_9 : decode cX2_readTest 9 = .ok (.sipush 1200, 3) := by decide +kernel
theorem dX2_readTest_12 : decode cX2_readTest 12 = .ok (.if_icmp .ge 62, 3) := by decide +kernel
theorem dX2_readTest_15 : decode cX2_readTest 15 = .ok (.aload_n 0, 1) := by decide +kernel
theorem dX2_readTest_16 : decode cX2_readTest 16 = .ok (.ldc 226, 2) := by decide +kernel
theorem dX2_readTest_18 : decode cX2_readTest 18 = .ok (.invokevirtual 131, 3) := by decide +kernel
theorem dX2_readTest_21 : decode cX2_readTest 21 = .ok (.ifCond .ne 12, 3) := by decide +kernel
theorem dX2_readTest_24 : decode cX2_readTest 24 = .ok (.aload_n 0, 1) := by decide +kernel
theorem dX2_readTest_25 : decode cX2_readTest 25 = .ok (.ldc 228, 2) := by decide +kernel
theorem dX2_readTest_27 : decode cX2_readTest 27 = .ok (.invokevirtual 131, 3) := by decide +kernel
theorem dX2_readTest_30 : decode cX2_readTest 30 = .ok (.ifCond .eq 44, 3) := by decide +kernel
theorem dX2_readTest_33 : decode cX2_readTest 33 = .ok (.aload_n 0, 1) := by decide +kernel
theorem dX2_readTest_34 : decode cX2_readTest 34 = .ok (.ldc 226, 2) := by decide +kernel
theorem dX2_readTest_36 : decode cX2_readTest 36 = .ok (.invokevirtual 131, 3) := by decide +kernel
theorem dX2_readTest_39 : decode cX2_readTest 39 = .ok (.ifCond .eq 8, 3) := by decide +kernel
theorem dX2_readTest_42 : decode cX2_readTest 42 = .ok (.bipush 16, 2) := by decide +kernel
theorem dX2_readTest_44 : decode cX2_readTest 44 = .ok (.goto 5, 3) := by decide +kernel
theorem dX2_readTest_47 : decode cX2_readTest 47 = .ok (.bipush 17, 2) := by decide +kernel
theorem dX2_readTest_49 : decode cX2_readTest 49 = .ok (.istore 4, 2) := by decide +kernel
theorem dX2_readTest_51 : decode cX2_readTest 51 = .ok (.aload_n 0, 1) := by decide +kernel
theorem dX2_readTest_52 : decode cX2_readTest 52 = .ok (.invokevirtual 58, 3) := by decide +kernel
theorem dX2_readTest_55 : decode cX2_readTest 55 = .ok (.aload_n 0, 1) := by decide +kernel
theorem dX2_readTest_56 : decode cX2_readTest 56 = .ok (.aload_n 1, 1) := by decide +kernel
theorem dX2_readTest_57 : decode cX2_readTest 57 = .ok (.iload_n 2, 1) := by decide +kernel
theorem dX2_readTest_58 : decode cX2_readTest 58 = .ok (.invokevirtual 223, 3) := by decide +kernel
theorem dX2_readTest_61 : decode cX2_readTest 61 = .ok (.aload_n 1, 1) := by decide +kernel
theorem dX2_readTest_62 : decode cX2_readTest 62 = .ok (.iload 4, 2) := by decide +kernel
theorem dX2_readTest_64 : decode cX2_readTest 64 = .ok (.iconst 0, 1) := by decide +kernel
theorem dX2_readTest_65 : decode cX2_readTest 65 = .ok (.invokevirtual 230, 3) := by decide +kernel
theorem dX2_readTest_68 : decode cX2_readTest 68 = .ok (.iinc 3 1, 3) := by decide +kernel
theorem dX2_readTest_71 : decode cX2_readTest 71 = .ok (.goto (-63), 3) := by decide +kernel
theorem dX2_readTest_74 : decode cX2_readTest 74 = .ok (.return_, 1) := by decide +kernel
theorem dX2_readUnit_0 : decode cX2_readUnit 0 = .ok (.aload_n 0, 1) := by decide +kernel
theorem dX2_readUnit_1 : decode cX2_readUnit 1 = .ok (.invokevirtual 233, 3) := by decide +kernel
theorem dX2_readUnit_4 : decode cX2_readUnit 4 = .ok (.istore_n 3, 1) := by decide +kernel
theorem dX2_readUnit_5 : decode cX2_readUnit 5 = .ok (.iload_n 3, 1) := by decide +kernel
theorem dX2_readUnit_6 : decode cX2_readUnit 6 = .ok (.iconst (-1), 1) := by decide +kernel
theorem dX2_readUnit_7 : decode cX2_readUnit 7 = .ok (.if_icmp .ne 26, 3) := by decide +kernel
theorem dX2_readUnit_10 : decode cX2_readUnit 10 = .ok (.aload_n 0, 1) := by decide +kernel
theorem dX2_readUnit_11 : decode cX2_readUnit 11 = .ok (.ldc 237, 2) := by decide +kernel
theorem dX2_readUnit_13 : decode cX2_readUnit 13 = .ok (.invokevirtual 131, 3) := by decide +kernel
theorem dX2_readUnit_16 : decode cX2_readUnit 16 = .ok (.ifCond .ne 17, 3) := by decide +kernel
theorem dX2_readUnit_19 : decode cX2_readUnit 19 = .ok (.aload_n 0, 1) := by decide +kernel
theorem dX2_readUnit_20 : decode cX2_readUnit 20 = .ok (.bipush 40, 2) := by decide +kernel
theorem dX2_readUnit_22 : decode cX2_readUnit 22 = .ok (.invokevirtual 65, 3) := by decide +kernel
theorem dX2_readUnit_25 : decode cX2_readUnit 25 = .ok (.ifCond .ne 8, 3) := by decide +kernel
theorem dX2_readUnit_28 : decode cX2_readUnit 28 = .ok (.aload_n 0, 1) := by decide +kernel
theorem dX2_readUnit_29 : decode cX2_readUnit 29 = .ok (.iconst 1, 1) := by decide +kernel
theorem dX2_readUnit_30 : decode cX2_readUnit 30 = .ok (.invokevirtual 72, 3) := by decide +kernel
theorem dX2_readUnit_33 : decode cX2_readUnit 33 = .ok (.iload_n 2, 1) := by decide +kernel
theorem dX2_readUnit_34 : decode cX2_readUnit 34 = .ok (.bipush 9, 2) := by decide +kernel
theorem dX2_readUnit_36 : decode cX2_readUnit 36 = .ok (.if_icmp .le 9, 3) := by decide +kernel
theorem dX2_readUnit_39 : decode cX2_readUnit 39 = .ok (.aload_n 0, 1) := by decide +kernel
theorem dX2_readUnit_40 : decode cX2_readUnit 40 = .ok (.bipush 6, 2) := by decide +kernel
theorem dX2_readUnit_42 : decode cX2_readUnit 42 = .ok (.invokevirtual 72, 3) := by decide +kernel
theorem dX2_readUnit_45 : decode cX2_readUnit 45 = .ok (.aload_n 0, 1) := by decide +kernel
theorem dX2_readUnit_46 : decode cX2_readUnit 46 = .ok (.ldc 237, 2) := by decide +kernel
theorem dX2_readUnit_48 : decode cX2_readUnit 48 = .ok (.invokevirtual 131, 3) := by decide +kernel
theorem dX2_readUnit_51 : decode cX2_readUnit 51 = .ok (.ifCond .eq 25, 3) := by decide +kernel
theorem dX2_readUnit_54 : decode cX2_readUnit 54 = .ok (.aload_n 0, 1) := by decide +kernel
theorem dX2_readUnit_55 : decode cX2_readUnit 55 = .ok (.invokevirtual 58, 3) := by decide +kernel
theorem dX2_readUnit_58 : decode cX2_readUnit 58 = .ok (.aload_n 0, 1) := by decide +kernel
theorem dX2_readUnit_59 : decode cX2_readUnit 59 = .ok (.aload_n 1, 1) := by decide +kernel
theorem dX2_readUnit_60 : decode cX2_readUnit 60 = .ok (.iload_n 2, 1) := by decide +kernel
theorem dX2_readUnit_61 : decode cX2_readUnit 61 = .ok (.iconst 1, 1) := by decide +kernel
theorem dX2_readUnit_62 : decode cX2_readUnit 62 = .ok (.iadd, 1) := by decide +kernel
theorem dX2_readUnit_63 : decode cX2_readUnit 63 = .ok (.invokevirtual 223, 3) := by decide +kernel
theorem dX2_readUnit_66 : decode cX2_readUnit 66 = .ok (.aload_n 1, 1) := by decide +kernel
theorem dX2_readUnit_67 : decode cX2_readUnit 67 = .ok (.bipush 15, 2) := by decide +kernel
theorem dX2_readUnit_69 : decode cX2_readUnit 69 = .ok (.iconst 0, 1) := by decide +kernel
theorem dX2_readUnit_70 : decode cX2_readUnit 70 = .ok (.invokevirtual 230, 3) := by decide +kernel
theorem dX2_readUnit_73 : decode cX2_readUnit 73 = .ok (.goto 61, 3) := by decide +kernel
theorem dX2_readUnit_76 : decode cX2_readUnit 76 = .ok (.aload_n 0, 1) := by decide +kernel
theorem dX2_readUnit_77 : decode cX2_readUnit 77 = .ok (.bipush 40, 2) := by decide +kernel
theorem dX2_readUnit_79 : decode cX2_readUnit 79 = .ok (.invokevirtual 65, 3) := by decide +kernel
theorem dX2_readUnit_82 : decode cX2_readUnit 82 = .ok (.ifCond .eq 24, 3) := by decide +kernel
theorem dX2_readUnit_85 : decode cX2_readUnit 85 = .ok (.aload_n 0, 1) := by decide +kernel
theorem dX2_readUnit_86 : decode cX2_readUnit 86 = .ok (.invokevirtual 58, 3) := by decide +kernel
theorem dX2_readUnit_89 : decode cX2_readUnit 89 = .ok (.aload_n 0, 1) := by decide +kernel
theorem dX2_readUnit_90 : decode cX2_readUnit 90 = .ok (.aload_n 1, 1) := by decide +kernel
theorem dX2_readUnit_91 : decode cX2_readUnit 91 = .ok (.iload_n 2, 1) := by decide +kernel
theorem dX2_readUnit_92 : decode cX2_readUnit 92 = .ok (.iconst 1, 1) := by decide +kernel
theorem dX2_readUnit_93 : decode cX2_readUnit 93 = .ok (.iadd, 1) := by decide +kernel
theorem dX2_readUnit_94 : decode cX2_readUnit 94 = .ok (.invokevirtual 175, 3) := by decide +kernel
theorem dX2_readUnit_97 : decode cX2_readUnit 97 = .ok (.aload_n 0, 1) := by decide +kernel
theorem dX2_readUnit_98 : decode cX2_readUnit 98 = .ok (.bipush 41, 2) := by decide +kernel
theorem dX2_readUnit_100 : decode cX2_readUnit 100 = .ok (.invokevirtual 239, 3) := by decide +kernel
theorem dX2_readUnit_103 : decode cX2_readUnit 103 = .ok (.goto 31, 3) := by decide +kernel
theorem dX2_readUnit_106 : decode cX2_readUnit 106 = .ok (.aload_n 0, 1) := by decide +kernel
theorem dX2_readUnit_107 : decode cX2_readUnit 107 = .ok (.invokevirtual 58, 3) := by decide +kernel
theorem dX2_readUnit_110 : decode cX2_readUnit 110 = .ok (.aload_n 0, 1) := by decide +kernel
theorem dX2_readUnit_111 : decode cX2_readUnit 111 = .ok (.invokevirtual 242, 3) := by decide +kernel
theorem dX2_readUnit_114 : decode cX2_readUnit 114 = .ok (.istore 4, 2) := by decide +kernel
theorem dX2_readUnit_116 : decode cX2_readUnit 116 = .ok (.aload_n 1, 1) := by decide +kernel
theorem dX2_readUnit_117 : decode cX2_readUnit 117 = .ok (.iload_n 3, 1) := by decide +kernel
theorem dX2_readUnit_118 : decode cX2_readUnit 118 = .ok (.iconst 3, 1) := by decide +kernel
theorem dX2_readUnit_119 : decode cX2_readUnit 119 = .ok (.imul, 1) := by decide +kernel
theorem dX2_readUnit_120 : decode cX2_readUnit 120 = .ok (.iload 4, 2) := by decide +kernel
theorem dX2_readUnit_122 : decode cX2_readUnit 122 = .ok (.iadd, 1) := by decide +kernel
theorem dX2_readUnit_123 : decode cX2_readUnit 123 = .ok (.aload_n 0, 1) := by decide +kernel
theorem dX2_readUnit_124 : decode cX2_readUnit 124 = .ok (.iconst 0, 1) := by decide +kernel
theorem dX2_readUnit_125 : decode cX2_readUnit 125 = .ok (.sipush 9999, 3) := by decide +kernel
theorem dX2_readUnit_128 : decode cX2_readUnit 128 = .ok (.invokevirtual 91, 3) := by decide +kernel
theorem dX2_readUnit_131 : decode cX2_readUnit 131 = .ok (.invokevirtual 230, 3) := by decide +kernel
theorem dX2_readUnit_134 : decode cX2_readUnit 134 = .ok (.return_, 1) := by decide +kernel
theorem dX2_valueWord_0 : decode cX2_valueWord 0 = .ok (.aload_n 0, 1) := by decide +kernel
theorem dX2_valueWord_1 : decode cX2_valueWord 1 = .ok (.ldc 245, 2) := by decide +kernel
theorem dX2_valueWord_3 : decode cX2_valueWord 3 = .ok (.invokevirtual 131, 3) := by decide +kernel
theorem dX2_valueWord_6 : decode cX2_valueWord 6 = .ok (.ifCond .eq 5, 3) := by decide +kernel
theorem dX2_valueWord_9 : decode cX2_valueWord 9 = .ok (.iconst 0, 1) := by decide +kernel
theorem dX2_valueWord_10 : decode cX2_valueWord 10 = .ok (.ireturn, 1) := by decide +kernel
theorem dX2_valueWord_11 : decode cX2_valueWord 11 = .ok (.aload_n 0, 1) := by decide +kernel
theorem dX2_valueWord_12 : decode cX2_valueWord 12 = .ok (.ldc 247, 2) := by decide +kernel
theorem dX2_valueWord_14 : decode cX2_valueWord 14 = .ok (.invokevirtual 131, 3) := by decide +kernel
theorem dX2_valueWord_17 : decode cX2_valueWord 17 = .ok (.ifCond .eq 5, 3) := by decide +kernel
theorem dX2_valueWord_20 : decode cX2_valueWord 20 = .ok (.iconst 1, 1) := by decide +kernel
theorem dX2_valueWord_21 : decode cX2_valueWord 21 = .ok (.ireturn, 1) := by decide +kernel
theorem dX2_valueWord_22 : decode cX2_valueWord 22 = .ok (.aload_n 0, 1) := by decide +kernel
theorem dX2_valueWord_23 : decode cX2_valueWord 23 = .ok (.ldc 107, 2) := by decide +kernel
theorem dX2_valueWord_25 : decode cX2_valueWord 25 = .ok (.invokevirtual 131, 3) := by decide +kernel
theorem dX2_valueWord_28 : decode cX2_valueWord 28 = .ok (.ifCond .eq 5, 3) := by decide +kernel
theorem dX2_valueWord_31 : decode cX2_valueWord 31 = .ok (.iconst 2, 1) := by decide +kernel
theorem dX2_valueWord_32 : decode cX2_valueWord 32 = .ok (.ireturn, 1) := by decide +kernel
theorem dX2_valueWord_33 : decode cX2_valueWord 33 = .ok (.aload_n 0, 1) := by decide +kernel
theorem dX2_valueWord_34 : decode cX2_valueWord 34 = .ok (.ldc 249, 2) := by decide +kernel
theorem dX2_valueWord_36 : decode cX2_valueWord 36 = .ok (.invokevirtual 131, 3) := by decide +kernel
theorem dX2_valueWord_39 : decode cX2_valueWord 39 = .ok (.ifCond .eq 5, 3) := by decide +kernel
theorem dX2_valueWord_42 : decode cX2_valueWord 42 = .ok (.iconst 3, 1) := by decide +kernel
theorem dX2_valueWord_43 : decode cX2_valueWord 43 = .ok (.ireturn, 1) := by decide +kernel
theorem dX2_valueWord_44 : decode cX2_valueWord 44 = .ok (.aload_n 0, 1) := by decide +kernel
theorem dX2_valueWord_45 : decode cX2_valueWord 45 = .ok (.ldc 251, 2) := by decide +kernel
theorem dX2_valueWord_47 : decode cX2_valueWord 47 = .ok (.invokevirtual 131, 3) := by decide +kernel
theorem dX2_valueWord_50 : decode cX2_valueWord 50 = .ok (.ifCond .eq 7, 3) := by decide +kernel
theorem dX2_valueWord_53 : decode cX2_valueWord 53 = .ok (.iconst 4, 1) := by decide +kernel
theorem dX2_valueWord_54 : decode cX2_valueWord 54 = .ok (.goto 4, 3) := by decide +kernel
theorem dX2_valueWord_57 : decode cX2_valueWord 57 = .ok (.iconst (-1), 1) := by decide +kernel
theorem dX2_valueWord_58 : decode cX2_valueWord 58 = .ok (.ireturn, 1) := by decide +kernel
theorem dX2_takeRelation_0 : decode cX2_takeRelation 0 = .ok (.aload_n 0, 1) := by decide +kernel
theorem dX2_takeRelation_1 : decode cX2_takeRelation 1 = .ok (.bipush 60, 2) := by decide +kernel
theorem dX2_takeRelation_3 : decode cX2_takeRelation 3 = .ok (.invokevirtual 65, 3) := by decide +kernel
theorem dX2_takeRelation_6 : decode cX2_takeRelation 6 = .ok (.ifCond .eq 7, 3) := by decide +kernel
theorem dX2_takeRelation_9 : decode cX2_takeRelation 9 = .ok (.iconst 0, 1) := by decide +kernel
theorem dX2_takeRelation_10 : decode cX2_takeRelation 10 = .ok (.goto 17, 3) := by decide +kernel
theorem dX2_takeRelation_13 : decode cX2_takeRelation 13 = .ok (.aload_n 0, 1) := by decide +kernel
theorem dX2_takeRelation_14 : decode cX2_takeRelation 14 = .ok (.bipush 62, 2) := by decide +kernel
theorem dX2_takeRelation_16 : decode cX2_takeRelation 16 = .ok (.invokevirtual 65, 3) := by decide +kernel
theorem dX2_takeRelation_19 : decode cX2_takeRelation 19 = .ok (.ifCond .eq 7, 3) := by decide +kernel
theorem dX2_takeRelation_22 : decode cX2_takeRelation 22 = .ok (.iconst 1, 1) := by decide +kernel
theorem dX2_takeRelation_23 : decode cX2_takeRelation 23 = .ok (.goto 4, 3) := by decide +kernel
theorem dX2_takeRelation_26 : decode cX2_takeRelation 26 = .ok (.iconst 2, 1) := by decide +kernel
theorem dX2_takeRelation_27 : decode cX2_takeRelation 27 = .ok (.istore_n 1, 1) := by decide +kernel
theorem dX2_takeRelation_28 : decode cX2_takeRelation 28 = .ok (.iload_n 1, 1) := by decide +kernel
theorem dX2_takeRelation_29 : decode cX2_takeRelation 29 = .ok (.iconst 2, 1) := by decide +kernel
theorem dX2_takeRelation_30 : decode cX2_takeRelation 30 = .ok (.if_icmp .ne 17, 3) := by decide +kernel
theorem dX2_takeRelation_33 : decode cX2_takeRelation 33 = .ok (.aload_n 0, 1) := by decide +kernel
theorem dX2_takeRelation_34 : decode cX2_takeRelation 34 = .ok (.bipush 61, 2) := by decide +kernel
theorem dX2_takeRelation_36 : decode cX2_takeRelation 36 = .ok (.invokevirtual 65, 3) := by decide +kernel
theorem dX2_takeRelation_39 : decode cX2_takeRelation 39 = .ok (.ifCond .ne 8, 3) := by decide +kernel
theorem dX2_takeRelation_42 : decode cX2_takeRelation 42 = .ok (.aload_n 0, 1) := by decide +kernel
theorem dX2_takeRelation_43 : decode cX2_takeRelation 43 = .ok (.iconst 1, 1) := by decide +kernel
theorem dX2_takeRelation_44 : decode cX2_takeRelation 44 = .ok (.invokevirtual 72, 3) := by decide +kernel
theorem dX2_takeRelation_47 : decode cX2_takeRelation 47 = .ok (.aload_n 0, 1) := by decide +kernel
theorem dX2_takeRelation_48 : decode cX2_takeRelation 48 = .ok (.invokevirtual 58, 3) := by decide +kernel
theorem dX2_takeRelation_51 : decode cX2_takeRelation 51 = .ok (.iload_n 1, 1) := by decide +kernel
theorem dX2_takeRelation_52 : decode cX2_takeRelation 52 = .ok (.ireturn, 1) := by decide +kernel
theorem dX2_takeWord_0 : decode cX2_takeWord 0 = .ok (.aload_n 0, 1) := by decide +kernel
theorem dX2_takeWord_1 : decode cX2_takeWord 1 = .ok (.aload_n 1, 1) := by decide +kernel
theorem dX2_takeWord_2 : decode cX2_takeWord 2 = .ok (.invokevirtual 131, 3) := by decide +kernel
theorem dX2_takeWord_5 : decode cX2_takeWord 5 = .ok (.ifCond .ne 8, 3) := by decide +kernel
theorem dX2_takeWord_8 : decode cX2_takeWord 8 = .ok (.aload_n 0, 1) := by decide +kernel
theorem dX2_takeWord_9 : decode cX2_takeWord 9 = .ok (.iconst 1, 1) := by decide +kernel
theorem dX2_takeWord_10 : decode cX2_takeWord 10 = .ok (.invokevirtual 72, 3) := by decide +kernel
theorem dX2_takeWord_13 : decode cX2_takeWord 13 = .ok (.aload_n 0, 1) := by decide +kernel
theorem dX2_takeWord_14 : decode cX2_takeWord 14 = .ok (.invokevirtual 58, 3) := by decide +kernel
theorem dX2_takeWord_17 : decode cX2_takeWord 17 = .ok (.return_, 1) := by decide +kernel
theorem dX2_takeSign_0 : decode cX2_takeSign 0 = .ok (.aload_n 0, 1) := by decide +kernel
theorem dX2_takeSign_1 : decode cX2_takeSign 1 = .ok (.iload_n 1, 1) := by decide +kernel
theorem dX2_takeSign_2 : decode cX2_takeSign 2 = .ok (.invokevirtual 65, 3) := by decide +kernel
theorem dX2_takeSign_5 : decode cX2_takeSign 5 = .ok (.ifCond .ne 8, 3) := by decide +kernel
theorem dX2_takeSign_8 : decode cX2_takeSign 8 = .ok (.aload_n 0, 1) := by decide +kernel
theorem dX2_takeSign_9 : decode cX2_takeSign 9 = .ok (.iconst 1, 1) := by decide +kernel
theorem dX2_takeSign_10 : decode cX2_takeSign 10 = .ok (.invokevirtual 72, 3) := by decide +kernel
theorem dX2_takeSign_13 : decode cX2_takeSign 13 = .ok (.aload_n 0, 1) := by decide +kernel
theorem dX2_takeSign_14 : decode cX2_takeSign 14 = .ok (.invokevirtual 58, 3) := by decide +kernel
theorem dX2_takeSign_17 : decode cX2_takeSign 17 = .ok (.return_, 1) := by decide +kernel
theorem dX2_takeNumber_0 : decode cX2_takeNumber 0 = .ok (.aload_n 0, 1) := by decide +kernel
theorem dX2_takeNumber_1 : decode cX2_takeNumber 1 = .ok (.getfield 31, 3) := by decide +kernel
theorem dX2_takeNumber_4 : decode cX2_takeNumber 4 = .ok (.iconst 2, 1) := by decide +kernel
theorem dX2_takeNumber_5 : decode cX2_takeNumber 5 = .ok (.if_icmp .eq 8, 3) := by decide +kernel
theorem dX2_takeNumber_8 : decode cX2_takeNumber 8 = .ok (.aload_n 0, 1) := by decide +kernel
theorem dX2_takeNumber_9 : decode cX2_takeNumber 9 = .ok (.iconst 1, 1) := by decide +kernel
theorem dX2_takeNumber_10 : decode cX2_takeNumber 10 = .ok (.invokevirtual 72, 3) := by decide +kernel
theorem dX2_takeNumber_13 : decode cX2_takeNumber 13 = .ok (.aload_n 0, 1) := by decide +kernel
theorem dX2_takeNumber_14 : decode cX2_takeNumber 14 = .ok (.getfield 37, 3) := by decide +kernel
theorem dX2_takeNumber_17 : decode cX2_takeNumber 17 = .ok (.iload_n 1, 1) := by decide +kernel
theorem dX2_takeNumber_18 : decode cX2_takeNumber 18 = .ok (.if_icmp .lt 11, 3) := by decide +kernel
theorem dX2_takeNumber_21 : decode cX2_takeNumber 21 = .ok (.aload_n 0, 1) := by decide +kernel
theorem dX2_takeNumber_22 : decode cX2_takeNumber 22 = .ok (.getfield 37, 3) := by decide +kernel
theorem dX2_takeNumber_25 : decode cX2_takeNumber 25 = .ok (.iload_n 2, 1) := by decide +kernel
theorem dX2_takeNumber_26 : decode cX2_takeNumber 26 = .ok (.if_icmp .le 8, 3) := by decide +kernel
theorem dX2_takeNumber_29 : decode cX2_takeNumber 29 = .ok (.aload_n 0, 1) := by decide +kernel
theorem dX2_takeNumber_30 : decode cX2_takeNumber 30 = .ok (.iconst 2, 1) := by decide +kernel
theorem dX2_takeNumber_31 : decode cX2_takeNumber 31 = .ok (.invokevirtual 72, 3) := by decide +kernel
theorem dX2_takeNumber_34 : decode cX2_takeNumber 34 = .ok (.aload_n 0, 1) := by decide +kernel
theorem dX2_takeNumber_35 : decode cX2_takeNumber 35 = .ok (.getfield 37, 3) := by decide +kernel
theorem dX2_takeNumber_38 : decode cX2_takeNumber 38 = .ok (.istore_n 3, 1) := by decide +kernel
theorem dX2_takeNumber_39 : decode cX2_takeNumber 39 = .ok (.aload_n 0, 1) := by decide +kernel
theorem dX2_takeNumber_40 : decode cX2_takeNumber 40 = .ok (.invokevirtual 58, 3) := by decide +kernel
theorem dX2_takeNumber_43 : decode cX2_takeNumber 43 = .ok (.iload_n 3, 1) := by decide +kernel
theorem dX2_takeNumber_44 : decode cX2_takeNumber 44 = .ok (.ireturn, 1) := by decide +kernel
theorem dX2_takePosition_0 : decode cX2_takePosition 0 = .ok (.aload_n 0, 1) := by decide +kernel
theorem dX2_takePosition_1 : decode cX2_takePosition 1 = .ok (.getfield 31, 3) := by decide +kernel
theorem dX2_takePosition_4 : decode cX2_takePosition 4 = .ok (.iconst 2, 1) := by decide +kernel
theorem dX2_takePosition_5 : decode cX2_takePosition 5 = .ok (.if_icmp .ne 35, 3) := by decide +kernel
theorem dX2_takePosition_8 : decode cX2_takePosition 8 = .ok (.aload_n 0, 1) := by decide +kernel
theorem dX2_takePosition_9 : decode cX2_takePosition 9 = .ok (.getfield 37, 3) := by decide +kernel
theorem dX2_takePosition_12 : decode cX2_takePosition 12 = .ok (.aload_n 1, 1) := by decide +kernel
theorem dX2_takePosition_13 : decode cX2_takePosition 13 = .ok (.getfield 94, 3) := by decide +kernel
theorem dX2_takePosition_16 : decode cX2_takePosition 16 = .ok (.if_icmp .ge 24, 3) := by decide +kernel
theorem dX2_takePosition_19 : decode cX2_takePosition 19 = .ok (.aload_n 0, 1) := by decide +kernel
theorem dX2_takePosition_20 : decode cX2_takePosition 20 = .ok (.getfield 40, 3) := by decide +kernel
theorem dX2_takePosition_23 : decode cX2_takePosition 23 = .ok (.aload_n 0, 1) := by decide +kernel
theorem dX2_takePosition_24 : decode cX2_takePosition 24 = .ok (.getfield 37, 3) := by decide +kernel
theorem dX2_takePosition_27 : decode cX2_takePosition 27 = .ok (.lshr, 1) := by decide +kernel
theorem dX2_takePosition_28 : decode cX2_takePosition 28 = .ok (.lconst 1, 1) := by decide +kernel
theorem dX2_takePosition_29 : decode cX2_takePosition 29 = .ok (.land, 1) := by decide +kernel
theorem dX2_takePosition_30 : decode cX2_takePosition 30 = .ok (.lconst 1, 1) := by decide +kernel
theorem dX2_takePosition_31 : decode cX2_takePosition 31 = .ok (.lcmp, 1) := by decide +kernel
theorem dX2_takePosition_32 : decode cX2_takePosition 32 = .ok (.ifCond .ne 8, 3) := by decide +kernel
theorem dX2_takePosition_35 : decode cX2_takePosition 35 = .ok (.aload_n 0, 1) := by decide +kernel
theorem dX2_takePosition_36 : decode cX2_takePosition 36 = .ok (.iconst 3, 1) := by decide +kernel
theorem dX2_takePosition_37 : decode cX2_takePosition 37 = .ok (.invokevirtual 72, 3) := by decide +kernel
theorem dX2_takePosition_40 : decode cX2_takePosition 40 = .ok (.aload_n 0, 1) := by decide +kernel
theorem dX2_takePosition_41 : decode cX2_takePosition 41 = .ok (.iconst 0, 1) := by decide +kernel
theorem dX2_takePosition_42 : decode cX2_takePosition 42 = .ok (.aload_n 1, 1) := by decide +kernel
theorem dX2_takePosition_43 : decode cX2_takePosition 43 = .ok (.getfield 94, 3) := by decide +kernel
theorem dX2_takePosition_46 : decode cX2_takePosition 46 = .ok (.iconst 1, 1) := by decide +kernel
theorem dX2_takePosition_47 : decode cX2_takePosition 47 = .ok (.isub, 1) := by decide +kernel
theorem dX2_takePosition_48 : decode cX2_takePosition 48 = .ok (.invokevirtual 91, 3) := by decide +kernel
theorem dX2_takePosition_51 : decode cX2_takePosition 51 = .ok (.istore_n 2, 1) := by decide +kernel
theorem dX2_takePosition_52 : decode cX2_takePosition 52 = .ok (.aload_n 0, 1) := by decide +kernel
theorem dX2_takePosition_53 : decode cX2_takePosition 53 = .ok (.aload_n 0, 1) := by decide +kernel
theorem dX2_takePosition_54 : decode cX2_takePosition 54 = .ok (.getfield 40, 3) := by decide +kernel
theorem dX2_takePosition_57 : decode cX2_takePosition 57 = .ok (.lconst 1, 1) := by decide +kernel
theorem dX2_takePosition_58 : decode cX2_takePosition 58 = .ok (.iload_n 2, 1) := by decide +kernel
theorem dX2_takePosition_59 : decode cX2_takePosition 59 = .ok (.lshl, 1) := by decide +kernel
theorem dX2_takePosition_60 : decode cX2_takePosition 60 = .ok (.lor, 1) := by decide +kernel
theorem dX2_takePosition_61 : decode cX2_takePosition 61 = .ok (.putfield 40, 3) := by decide +kernel
theorem dX2_takePosition_64 : decode cX2_takePosition 64 = .ok (.iload_n 2, 1) := by decide +kernel
theorem dX2_takePosition_65 : decode cX2_takePosition 65 = .ok (.ireturn, 1) := by decide +kernel
theorem dX2_fail_0 : decode cX2_fail 0 = .ok (.aload_n 0, 1) := by decide +kernel
theorem dX2_fail_1 : decode cX2_fail 1 = .ok (.iload_n 1, 1) := by decide +kernel
theorem dX2_fail_2 : decode cX2_fail 2 = .ok (.putfield 9, 3) := by decide +kernel
theorem dX2_fail_5 : decode cX2_fail 5 = .ok (.aload_n 0, 1) := by decide +kernel
theorem dX2_fail_6 : decode cX2_fail 6 = .ok (.aload_n 0, 1) := by decide +kernel
theorem dX2_fail_7 : decode cX2_fail 7 = .ok (.getfield 34, 3) := by decide +kernel
theorem dX2_fail_10 : decode cX2_fail 10 = .ok (.putfield 15, 3) := by decide +kernel
theorem dX2_fail_13 : decode cX2_fail 13 = .ok (.new 253, 3) := by decide +kernel
theorem dX2_fail_16 : decode cX2_fail 16 = .ok (.dup, 1) := by decide +kernel
theorem dX2_fail_17 : decode cX2_fail 17 = .ok (.ldc 255, 2) := by decide +kernel
theorem dX2_fail_19 : decode cX2_fail 19 = .ok (.invokespecial 257, 3) := by decide +kernel
theorem dX2_fail_22 : decode cX2_fail 22 = .ok (.athrow, 1) := by decide +kernel
theorem dX2_isWord_0 : decode cX2_isWord 0 = .ok (.aload_n 0, 1) := by decide +kernel
theorem dX2_isWord_1 : decode cX2_isWord 1 = .ok (.getfield 31, 3) := by decide +kernel
theorem dX2_isWord_4 : decode cX2_isWord 4 = .ok (.iconst 1, 1) := by decide +kernel
theorem dX2_isWord_5 : decode cX2_isWord 5 = .ok (.if_icmp .ne 19, 3) := by decide +kernel
theorem dX2_isWord_8 : decode cX2_isWord 8 = .ok (.aload_n 0, 1) := by decide +kernel
theorem dX2_isWord_9 : decode cX2_isWord 9 = .ok (.getfield 28, 3) := by decide +kernel
theorem dX2_isWord_12 : decode cX2_isWord 12 = .ok (.aload_n 0, 1) := by decide +kernel
theorem dX2_isWord_13 : decode cX2_isWord 13 = .ok (.getfield 34, 3) := by decide +kernel
theorem dX2_isWord_16 : decode cX2_isWord 16 = .ok (.isub, 1) := by decide +kernel
theorem dX2_isWord_17 : decode cX2_isWord 17 = .ok (.aload_n 1, 1) := by decide +kernel
theorem dX2_isWord_18 : decode cX2_isWord 18 = .ok (.invokevirtual 259, 3) := by decide +kernel
theorem dX2_isWord_21 : decode cX2_isWord 21 = .ok (.if_icmp .eq 5, 3) := by decide +kernel
theorem dX2_isWord_24 : decode cX2_isWord 24 = .ok (.iconst 0, 1) := by decide +kernel
theorem dX2_isWord_25 : decode cX2_isWord 25 = .ok (.ireturn, 1) := by decide +kernel
theorem dX2_isWord_26 : decode cX2_isWord 26 = .ok (.iconst 0, 1) := by decide +kernel
theorem dX2_isWord_27 : decode cX2_isWord 27 = .ok (.istore_n 2, 1) := by decide +kernel
theorem dX2_isWord_28 : decode cX2_isWord 28 = .ok (.iload_n 2, 1) := by decide +kernel
theorem dX2_isWord_29 : decode cX2_isWord 29 = .ok (.aload_n 1, 1) := by decide +kernel
theorem dX2_isWord_30 : decode cX2_isWord 30 = .ok (.invokevirtual 259, 3) := by decide +kernel
theorem dX2_isWord_33 : decode cX2_isWord 33 = .ok (.if_icmp .ge 44, 3) := by decide +kernel
theorem dX2_isWord_36 : decode cX2_isWord 36 = .ok (.aload_n 0, 1) := by decide +kernel
theorem dX2_isWord_37 : decode cX2_isWord 37 = .ok (.getfield 34, 3) := by decide +kernel
theorem dX2_isWord_40 : decode cX2_isWord 40 = .ok (.iload_n 2, 1) := by decide +kernel
theorem dX2_isWord_41 : decode cX2_isWord 41 = .ok (.iadd, 1) := by decide +kernel
theorem dX2_isWord_42 : decode cX2_isWord 42 = .ok (.aload_n 0, 1) := by decide +kernel
theorem dX2_isWord_43 : decode cX2_isWord 43 = .ok (.getfield 21, 3) := by decide +kernel
theorem dX2_isWord_46 : decode cX2_isWord 46 = .ok (.arraylength, 1) := by decide +kernel
theorem dX2_isWord_47 : decode cX2_isWord 47 = .ok (.if_icmp .ge 30, 3) := by decide +kernel
theorem dX2_isWord_50 : decode cX2_isWord 50 = .ok (.aload_n 0, 1) := by decide +kernel
theorem dX2_isWord_51 : decode cX2_isWord 51 = .ok (.getfield 21, 3) := by decide +kernel
theorem dX2_isWord_54 : decode cX2_isWord 54 = .ok (.aload_n 0, 1) := by decide +kernel
theorem dX2_isWord_55 : decode cX2_isWord 55 = .ok (.getfield 34, 3) := by decide +kernel
theorem dX2_isWord_58 : decode cX2_isWord 58 = .ok (.iload_n 2, 1) := by decide +kernel
theorem dX2_isWord_59 : decode cX2_isWord 59 = .ok (.iadd, 1) := by decide +kernel
theorem dX2_isWord_60 : decode cX2_isWord 60 = .ok (.baload, 1) := by decide +kernel
theorem dX2_isWord_61 : decode cX2_isWord 61 = .ok (.aload_n 1, 1) := by decide +kernel
theorem dX2_isWord_62 : decode cX2_isWord 62 = .ok (.iload_n 2, 1) := by decide +kernel
theorem dX2_isWord_63 : decode cX2_isWord 63 = .ok (.invokevirtual 263, 3) := by decide +kernel
theorem dX2_isWord_66 : decode cX2_isWord 66 = .ok (.if_icmp .eq 5, 3) := by decide +kernel
theorem dX2_isWord_69 : decode cX2_isWord 69 = .ok (.iconst 0, 1) := by decide +kernel
theorem dX2_isWord_70 : decode cX2_isWord 70 = .ok (.ireturn, 1) := by decide +kernel
theorem dX2_isWord_71 : decode cX2_isWord 71 = .ok (.iinc 2 1, 3) := by decide +kernel
theorem dX2_isWord_74 : decode cX2_isWord 74 = .ok (.goto (-46), 3) := by decide +kernel
theorem dX2_isWord_77 : decode cX2_isWord 77 = .ok (.iconst 1, 1) := by decide +kernel
theorem dX2_isWord_78 : decode cX2_isWord 78 = .ok (.ireturn, 1) := by decide +kernel
theorem dX2_isSign_0 : decode cX2_isSign 0 = .ok (.aload_n 0, 1) := by decide +kernel
theorem dX2_isSign_1 : decode cX2_isSign 1 = .ok (.getfield 31, 3) := by decide +kernel
theorem dX2_isSign_4 : decode cX2_isSign 4 = .ok (.iconst 3, 1) := by decide +kernel
theorem dX2_isSign_5 : decode cX2_isSign 5 = .ok (.if_icmp .ne 15, 3) := by decide +kernel
theorem dX2_isSign_8 : decode cX2_isSign 8 = .ok (.aload_n 0, 1) := by decide +kernel
theorem dX2_isSign_9 : decode cX2_isSign 9 = .ok (.getfield 37, 3) := by decide +kernel
theorem dX2_isSign_12 : decode cX2_isSign 12 = .ok (.iload_n 1, 1) := by decide +kernel
theorem dX2_isSign_13 : decode cX2_isSign 13 = .ok (.if_icmp .ne 7, 3) := by decide +kernel
theorem dX2_isSign_16 : decode cX2_isSign 16 = .ok (.iconst 1, 1) := by decide +kernel
theorem dX2_isSign_17 : decode cX2_isSign 17 = .ok (.goto 4, 3) := by decide +kernel
theorem dX2_isSign_20 : decode cX2_isSign 20 = .ok (.iconst 0, 1) := by decide +kernel
theorem dX2_isSign_21 : decode cX2_isSign 21 = .ok (.ireturn, 1) := by decide +kernel
theorem dX2_step_0 : decode cX2_step 0 = .ok (.aload_n 0, 1) := by decide +kernel
theorem dX2_step_1 : decode cX2_step 1 = .ok (.bipush 32, 2) := by decide +kernel
theorem dX2_step_3 : decode cX2_step 3 = .ok (.bipush 32, 2) := by decide +kernel
theorem dX2_step_5 : decode cX2_step 5 = .ok (.invokevirtual 267, 3) := by decide +kernel
theorem dX2_step_8 : decode cX2_step 8 = .ok (.aload_n 0, 1) := by decide +kernel
theorem dX2_step_9 : decode cX2_step 9 = .ok (.aload_n 0, 1) := by decide +kernel
theorem dX2_step_10 : decode cX2_step 10 = .ok (.getfield 28, 3) := by decide +kernel
theorem dX2_step_13 : decode cX2_step 13 = .ok (.putfield 34, 3) := by decide +kernel
theorem dX2_step_16 : decode cX2_step 16 = .ok (.aload_n 0, 1) := by decide +kernel
theorem dX2_step_17 : decode cX2_step 17 = .ok (.getfield 28, 3) := by decide +kernel
theorem dX2_step_20 : decode cX2_step 20 = .ok (.aload_n 0, 1) := by decide +kernel
theorem dX2_step_21 : decode cX2_step 21 = .ok (.getfield 25, 3) := by decide +kernel
theorem dX2_step_24 : decode cX2_step 24 = .ok (.if_icmp .lt 9, 3) := by decide +kernel
theorem dX2_step_27 : decode cX2_step 27 = .ok (.aload_n 0, 1) := by decide +kernel
theorem dX2_step_28 : decode cX2_step 28 = .ok (.iconst 0, 1) := by decide +kernel
theorem dX2_step_29 : decode cX2_step 29 = .ok (.putfield 31, 3) := by decide +kernel
theorem dX2_step_32 : decode cX2_step 32 = .ok (.return_, 1) := by decide +kernel
theorem dX2_step_33 : decode cX2_step 33 = .ok (.aload_n 0, 1) := by decide +kernel
theorem dX2_step_34 : decode cX2_step 34 = .ok (.getfield 21, 3) := by decide +kernel
theorem dX2_step_37 : decode cX2_step 37 = .ok (.aload_n 0, 1) := by decide +kernel
theorem dX2_step_38 : decode cX2_step 38 = .ok (.getfield 28, 3) := by decide +kernel
theorem dX2_step_41 : decode cX2_step 41 = .ok (.baload, 1) := by decide +kernel
theorem dX2_step_42 : decode cX2_step 42 = .ok (.istore_n 1, 1) := by decide +kernel
theorem dX2_step_43 : decode cX2_step 43 = .ok (.iload_n 1, 1) := by decide +kernel
theorem dX2_step_44 : decode cX2_step 44 = .ok (.bipush 97, 2) := by decide +kernel
theorem dX2_step_46 : decode cX2_step 46 = .ok (.if_icmp .lt 43, 3) := by decide +kernel
theorem dX2_step_49 : decode cX2_step 49 = .ok (.iload_n 1, 1) := by decide +kernel
theorem dX2_step_50 : decode cX2_step 50 = .ok (.bipush 122, 2) := by decide +kernel
theorem dX2_step_52 : decode cX2_step 52 = .ok (.if_icmp .gt 37, 3) := by decide +kernel
theorem dX2_step_55 : decode cX2_step 55 = .ok (.aload_n 0, 1) := by decide +kernel
theorem dX2_step_56 : decode cX2_step 56 = .ok (.bipush 97, 2) := by decide +kernel
theorem dX2_step_58 : decode cX2_step 58 = .ok (.bipush 122, 2) := by decide +kernel
theorem dX2_step_60 : decode cX2_step 60 = .ok (.invokevirtual 267, 3) := by decide +kernel
theorem dX2_step_63 : decode cX2_step 63 = .ok (.aload_n 0, 1) := by decide +kernel
theorem dX2_step_64 : decode cX2_step 64 = .ok (.aload_n 0, 1) := by decide +kernel
theorem dX2_step_65 : decode cX2_step 65 = .ok (.getfield 28, 3) := by decide +kernel
theorem dX2_step_68 : decode cX2_step 68 = .ok (.aload_n 0, 1) := by decide +kernel
theorem dX2_step_69 : decode cX2_step 69 = .ok (.getfield 34, 3) := by decide +kernel
theorem dX2_step_72 : decode cX2_step 72 = .ok (.isub, 1) := by decide +kernel
theorem dX2_step_73 : decode cX2_step 73 = .ok (.bipush 8, 2) := by decide +kernel
theorem dX2_step_75 : decode cX2_step 75 = .ok (.if_icmp .gt 7, 3) := by decide +kernel
theorem dX2_step_78 : decode cX2_step 78 = .ok (.iconst 1, 1) := by decide +kernel
theorem dX2_step_79 : decode cX2_step 79 = .ok (.goto 4, 3) := by decide +kernel
theorem dX2_step_82 : decode cX2_step 82 = .ok (.iconst 4, 1) := by decide +kernel
theorem dX2_step_83 : decode cX2_step 83 = .ok (.putfield 31, 3) := by decide +kernel
theorem dX2_step_86 : decode cX2_step 86 = .ok (.goto 107, 3) := by decide +kernel
theorem dX2_step_89 : decode cX2_step 89 = .ok (.iload_n 1, 1) := by decide +kernel
theorem dX2_step_90 : decode cX2_step 90 = .ok (.bipush 48, 2) := by decide +kernel
theorem dX2_step_92 : decode cX2_step 92 = .ok (.if_icmp .lt 62, 3) := by decide +kernel
theorem dX2_step_95 : decode cX2_step 95 = .ok (.iload_n 1, 1) := by decide +kernel
theorem dX2_step_96 : decode cX2_step 96 = .ok (.bipush 57, 2) := by decide +kernel
theorem dX2_step_98 : decode cX2_step 98 = .ok (.if_icmp .gt 56, 3) := by decide +kernel
theorem dX2_step_101 : decode cX2_step 101 = .ok (.aload_n 0, 1) := by decide +kernel
theorem dX2_step_102 : decode cX2_step 102 = .ok (.bipush 48, 2) := by decide +kernel
theorem dX2_step_104 : decode cX2_step 104 = .ok (.bipush 57, 2) := by decide +kernel
theorem dX2_step_106 : decode cX2_step 106 = .ok (.invokevirtual 267, 3) := by decide +kernel
theorem dX2_step_109 : decode cX2_step 109 = .ok (.aload_n 0, 1) := by decide +kernel
theorem dX2_step_110 : decode cX2_step 110 = .ok (.aload_n 0, 1) := by decide +kernel
theorem dX2_step_111 : decode cX2_step 111 = .ok (.getfield 28, 3) := by decide +kernel
theorem dX2_step_114 : decode cX2_step 114 = .ok (.aload_n 0, 1) := by decide +kernel
theorem dX2_step_115 : decode cX2_step 115 = .ok (.getfield 34, 3) := by decide +kernel
theorem dX2_step_118 : decode cX2_step 118 = .ok (.isub, 1) := by decide +kernel
theorem dX2_step_119 : decode cX2_step 119 = .ok (.iconst 5, 1) := by decide +kernel
theorem dX2_step_120 : decode cX2_step 120 = .ok (.if_icmp .gt 7, 3) := by decide +kernel
theorem dX2_step_123 : decode cX2_step 123 = .ok (.iconst 2, 1) := by decide +kernel
theorem dX2_step_124 : decode cX2_step 124 = .ok (.goto 4, 3) := by decide +kernel
theorem dX2_step_127 : decode cX2_step 127 = .ok (.iconst 4, 1) := by decide +kernel
theorem dX2_step_128 : decode cX2_step 128 = .ok (.putfield 31, 3) := by decide +kernel
theorem dX2_step_131 : decode cX2_step 131 = .ok (.aload_n 0, 1) := by decide +kernel
theorem dX2_step_132 : decode cX2_step 132 = .ok (.aload_n 0, 1) := by decide +kernel
theorem dX2_step_133 : decode cX2_step 133 = .ok (.getfield 31, 3) := by decide +kernel
theorem dX2_step_136 : decode cX2_step 136 = .ok (.iconst 2, 1) := by decide +kernel
theorem dX2_step_137 : decode cX2_step 137 = .ok (.if_icmp .ne 10, 3) := by decide +kernel
theorem dX2_step_140 : decode cX2_step 140 = .ok (.aload_n 0, 1) := by decide +kernel
theorem dX2_step_141 : decode cX2_step 141 = .ok (.invokevirtual 270, 3) := by decide +kernel
theorem dX2_step_144 : decode cX2_step 144 = .ok (.goto 4, 3) := by decide +kernel
theorem dX2_step_147 : decode cX2_step 147 = .ok (.iconst 0, 1) := by decide +kernel
theorem dX2_step_148 : decode cX2_step 148 = .ok (.putfield 37, 3) := by decide +kernel
theorem dX2_step_151 : decode cX2_step 151 = .ok (.goto 42, 3) := by decide +kernel
theorem dX2_step_154 : decode cX2_step 154 = .ok (.aload_n 0, 1) := by decide +kernel
theorem dX2_step_155 : decode cX2_step 155 = .ok (.dup, 1) := by decide +kernel
theorem dX2_step_156 : decode cX2_step 156 = .ok (.getfield 28, 3) := by decide +kernel
theorem dX2_step_159 : decode cX2_step 159 = .ok (.iconst 1, 1) := by decide +kernel
theorem dX2_step_160 : decode cX2_step 160 = .ok (.iadd, 1) := by decide +kernel
theorem dX2_step_161 : decode cX2_step 161 = .ok (.putfield 28, 3) := by decide +kernel
theorem dX2_step_164 : decode cX2_step 164 = .ok (.aload_n 0, 1) := by decide +kernel
theorem dX2_step_165 : decode cX2_step 165 = .ok (.ldc_w 273, 3) := by decide +kernel
theorem dX2_step_168 : decode cX2_step 168 = .ok (.iload_n 1, 1) := by decide +kernel
theorem dX2_step_169 : decode cX2_step 169 = .ok (.sipush 255, 3) := by decide +kernel
theorem dX2_step_172 : decode cX2_step 172 = .ok (.iand, 1) := by decide +kernel
theorem dX2_step_173 : decode cX2_step 173 = .ok (.i2c, 1) := by decide +kernel
theorem dX2_step_174 : decode cX2_step 174 = .ok (.invokevirtual 275, 3) := by decide +kernel
theorem dX2_step_177 : decode cX2_step 177 = .ok (.ifCond .lt 7, 3) := by decide +kernel
theorem dX2_step_180 : decode cX2_step 180 = .ok (.iconst 3, 1) := by decide +kernel
theorem dX2_step_181 : decode cX2_step 181 = .ok (.goto 4, 3) := by decide +kernel
theorem dX2_step_184 : decode cX2_step 184 = .ok (.iconst 4, 1) := by decide +kernel
theorem dX2_step_185 : decode cX2_step 185 = .ok (.putfield 31, 3) := by decide +kernel
theorem dX2_step_188 : decode cX2_step 188 = .ok (.aload_n 0, 1) := by decide +kernel
theorem dX2_step_189 : decode cX2_step 189 = .ok (.iload_n 1, 1) := by decide +kernel
theorem dX2_step_190 : decode cX2_step 190 = .ok (.putfield 37, 3) := by decide +kernel
theorem dX2_step_193 : decode cX2_step 193 = .ok (.return_, 1) := by decide +kernel
theorem dX2_skip_0 : decode cX2_skip 0 = .ok (.aload_n 0, 1) := by decide +kernel
theorem dX2_skip_1 : decode cX2_skip 1 = .ok (.getfield 28, 3) := by decide +kernel
theorem dX2_skip_4 : decode cX2_skip 4 = .ok (.aload_n 0, 1) := by decide +kernel
theorem dX2_skip_5 : decode cX2_skip 5 = .ok (.getfield 25, 3) := by decide +kernel
theorem dX2_skip_8 : decode cX2_skip 8 = .ok (.if_icmp .ge 42, 3) := by decide +kernel
theorem dX2_skip_11 : decode cX2_skip 11 = .ok (.aload_n 0, 1) := by decide +kernel
theorem dX2_skip_12 : decode cX2_skip 12 = .ok (.getfield 21, 3) := by decide +kernel
theorem dX2_skip_15 : decode cX2_skip 15 = .ok (.aload_n 0, 1) := by decide +kernel
theorem dX2_skip_16 : decode cX2_skip 16 = .ok (.getfield 28, 3) := by decide +kernel
theorem dX2_skip_19 : decode cX2_skip 19 = .ok (.baload, 1) := by decide +kernel
theorem dX2_skip_20 : decode cX2_skip 20 = .ok (.iload_n 1, 1) := by decide +kernel
theorem dX2_skip_21 : decode cX2_skip 21 = .ok (.if_icmp .lt 29, 3) := by decide +kernel
theorem dX2_skip_24 : decode cX2_skip 24 = .ok (.aload_n 0, 1) := by decide +kernel
theorem dX2_skip_25 : decode cX2_skip 25 = .ok (.getfield 21, 3) := by decide +kernel
theorem dX2_skip_28 : decode cX2_skip 28 = .ok (.aload_n 0, 1) := by decide +kernel
theorem dX2_skip_29 : decode cX2_skip 29 = .ok (.getfield 28, 3) := by decide +kernel
theorem dX2_skip_32 : decode cX2_skip 32 = .ok (.baload, 1) := by decide +kernel
theorem dX2_skip_33 : decode cX2_skip 33 = .ok (.iload_n 2, 1) := by decide +kernel
theorem dX2_skip_34 : decode cX2_skip 34 = .ok (.if_icmp .gt 16, 3) := by decide +kernel
theorem dX2_skip_37 : decode cX2_skip 37 = .ok (.aload_n 0, 1) := by decide +kernel
theorem dX2_skip_38 : decode cX2_skip 38 = .ok (.dup, 1) := by decide +kernel
theorem dX2_skip_39 : decode cX2_skip 39 = .ok (.getfield 28, 3) := by decide +kernel
theorem dX2_skip_42 : decode cX2_skip 42 = .ok (.iconst 1, 1) := by decide +kernel
theorem dX2_skip_43 : decode cX2_skip 43 = .ok (.iadd, 1) := by decide +kernel
theorem dX2_skip_44 : decode cX2_skip 44 = .ok (.putfield 28, 3) := by decide +kernel
theorem dX2_skip_47 : decode cX2_skip 47 = .ok (.goto (-47), 3) := by decide +kernel
theorem dX2_skip_50 : decode cX2_skip 50 = .ok (.return_, 1) := by decide +kernel
theorem dX2_decimal_0 : decode cX2_decimal 0 = .ok (.iconst 0, 1) := by decide +kernel
theorem dX2_decimal_1 : decode cX2_decimal 1 = .ok (.istore_n 1, 1) := by decide +kernel
theorem dX2_decimal_2 : decode cX2_decimal 2 = .ok (.aload_n 0, 1) := by decide +kernel
theorem dX2_decimal_3 : decode cX2_decimal 3 = .ok (.getfield 34, 3) := by decide +kernel
theorem dX2_decimal_6 : decode cX2_decimal 6 = .ok (.istore_n 2, 1) := by decide +kernel
theorem dX2_decimal_7 : decode cX2_decimal 7 = .ok (.iload_n 2, 1) := by decide +kernel
theorem dX2_decimal_8 : decode cX2_decimal 8 = .ok (.aload_n 0, 1) := by decide +kernel
theorem dX2_decimal_9 : decode cX2_decimal 9 = .ok (.getfield 28, 3) := by decide +kernel
theorem dX2_decimal_12 : decode cX2_decimal 12 = .ok (.if_icmp .ge 24, 3) := by decide +kernel
theorem dX2_decimal_15 : decode cX2_decimal 15 = .ok (.iload_n 1, 1) := by decide +kernel
theorem dX2_decimal_16 : decode cX2_decimal 16 = .ok (.bipush 10, 2) := by decide +kernel
theorem dX2_decimal_18 : decode cX2_decimal 18 = .ok (.imul, 1) := by decide +kernel
theorem dX2_decimal_19 : decode cX2_decimal 19 = .ok (.aload_n 0, 1) := by decide +kernel
theorem dX2_decimal_20 : decode cX2_decimal 20 = .ok (.getfield 21, 3) := by decide +kernel
theorem dX2_decimal_23 : decode cX2_decimal 23 = .ok (.iload_n 2, 1) := by decide +kernel
theorem dX2_decimal_24 : decode cX2_decimal 24 = .ok (.baload, 1) := by decide +kernel
theorem dX2_decimal_25 : decode cX2_decimal 25 = .ok (.iadd, 1) := by decide +kernel
theorem dX2_decimal_26 : decode cX2_decimal 26 = .ok (.bipush 48, 2) := by decide +kernel
theorem dX2_decimal_28 : decode cX2_decimal 28 = .ok (.isub, 1) := by decide +kernel
theorem dX2_decimal_29 : decode cX2_decimal 29 = .ok (.istore_n 1, 1) := by decide +kernel
theorem dX2_decimal_30 : decode cX2_decimal 30 = .ok (.iinc 2 1, 3) := by decide +kernel
theorem dX2_decimal_33 : decode cX2_decimal 33 = .ok (.goto (-26), 3) := by decide +kernel
theorem dX2_decimal_36 : decode cX2_decimal 36 = .ok (.iload_n 1, 1) := by decide +kernel
theorem dX2_decimal_37 : decode cX2_decimal 37 = .ok (.ireturn, 1) := by decide +kernel
theorem dX3_init_0 : decode cX3_init 0 = .ok (.aload_n 0, 1) := by decide +kernel
theorem dX3_init_1 : decode cX3_init 1 = .ok (.invokespecial 3, 3) := by decide +kernel
theorem dX3_init_4 : decode cX3_init 4 = .ok (.aload_n 0, 1) := by decide +kernel
theorem dX3_init_5 : decode cX3_init 5 = .ok (.iconst 0, 1) := by decide +kernel
theorem dX3_init_6 : decode cX3_init 6 = .ok (.putfield 9, 3) := by decide +kernel
theorem dX3_init_9 : decode cX3_init 9 = .ok (.aload_n 0, 1) := by decide +kernel
theorem dX3_init_10 : decode cX3_init 10 = .ok (.iconst 0, 1) := by decide +kernel
theorem dX3_init_11 : decode cX3_init 11 = .ok (.putfield 15, 3) := by decide +kernel
theorem dX3_init_14 : decode cX3_init 14 = .ok (.aload_n 0, 1) := by decide +kernel
theorem dX3_init_15 : decode cX3_init 15 = .ok (.iconst 0, 1) := by decide +kernel
theorem dX3_init_16 : decode cX3_init 16 = .ok (.putfield 18, 3) := by decide +kernel
theorem dX3_init_19 : decode cX3_init 19 = .ok (.aload_n 0, 1) := by decide +kernel
theorem dX3_init_20 : decode cX3_init 20 = .ok (.iconst 3, 1) := by decide +kernel
theorem dX3_init_21 : decode cX3_init 21 = .ok (.newarray .int, 2) := by decide +kernel
theorem dX3_init_23 : decode cX3_init 23 = .ok (.putfield 21, 3) := by decide +kernel
theorem dX3_init_26 : decode cX3_init 26 = .ok (.aload_n 0, 1) := by decide +kernel
theorem dX3_init_27 : decode cX3_init 27 = .ok (.iconst 3, 1) := by decide +kernel
theorem dX3_init_28 : decode cX3_init 28 = .ok (.newarray .int, 2) := by decide +kernel
theorem dX3_init_30 : decode cX3_init 30 = .ok (.putfield 25, 3) := by decide +kernel
theorem dX3_init_33 : decode cX3_init 33 = .ok (.aload_n 0, 1) := by decide +kernel
theorem dX3_init_34 : decode cX3_init 34 = .ok (.iconst 3, 1) := by decide +kernel
theorem dX3_init_35 : decode cX3_init 35 = .ok (.newarray .int, 2) := by decide +kernel
theorem dX3_init_37 : decode cX3_init 37 = .ok (.putfield 28, 3) := by decide +kernel
theorem dX3_init_40 : decode cX3_init 40 = .ok (.aload_n 0, 1) := by decide +kernel
theorem dX3_init_41 : decode cX3_init 41 = .ok (.iconst 0, 1) := by decide +kernel
theorem dX3_init_42 : decode cX3_init 42 = .ok (.putfield 31, 3) := by decide +kernel
theorem dX3_init_45 : decode cX3_init 45 = .ok (.aload_n 0, 1) := by decide +kernel
theorem dX3_init_46 : decode cX3_init 46 = .ok (.bipush 8, 2) := by decide +kernel
theorem dX3_init_48 : decode cX3_init 48 = .ok (.newarray .int, 2) := by decide +kernel
theorem dX3_init_50 : decode cX3_init 50 = .ok (.putfield 34, 3) := by decide +kernel
theorem dX3_init_53 : decode cX3_init 53 = .ok (.aload_n 0, 1) := by decide +kernel
theorem dX3_init_54 : decode cX3_init 54 = .ok (.iconst 0, 1) := by decide +kernel
theorem dX3_init_55 : decode cX3_init 55 = .ok (.putfield 37, 3) := by decide +kernel
theorem dX3_init_58 : decode cX3_init 58 = .ok (.aload_n 0, 1) := by decide +kernel
theorem dX3_init_59 : decode cX3_init 59 = .ok (.iconst 4, 1) := by decide +kernel
theorem dX3_init_60 : decode cX3_init 60 = .ok (.newarray .int, 2) := by decide +kernel
theorem dX3_init_62 : decode cX3_init 62 = .ok (.putfield 40, 3) := by decide +kernel
theorem dX3_init_65 : decode cX3_init 65 = .ok (.aload_n 0, 1) := by decide +kernel
theorem dX3_init_66 : decode cX3_init 66 = .ok (.iconst 4, 1) := by decide +kernel
theorem dX3_init_67 : decode cX3_init 67 = .ok (.newarray .int, 2) := by decide +kernel
theorem dX3_init_69 : decode cX3_init 69 = .ok (.putfield 43, 3) := by decide +kernel
theorem dX3_init_72 : decode cX3_init 72 = .ok (.aload_n 0, 1) := by decide +kernel
theorem dX3_init_73 : decode cX3_init 73 = .ok (.iconst 0, 1) := by decide +kernel
theorem dX3_init_74 : decode cX3_init 74 = .ok (.putfield 46, 3) := by decide +kernel
theorem dX3_init_77 : decode cX3_init 77 = .ok (.aload_n 0, 1) := by decide +kernel
theorem dX3_init_78 : decode cX3_init 78 = .ok (.iconst 4, 1) := by decide +kernel
theorem dX3_init_79 : decode cX3_init 79 = .ok (.newarray .int, 2) := by decide +kernel
theorem dX3_init_81 : decode cX3_init 81 = .ok (.putfield 49, 3) := by decide +kernel
theorem dX3_init_84 : decode cX3_init 84 = .ok (.aload_n 0, 1) := by decide +kernel
theorem dX3_init_85 : decode cX3_init 85 = .ok (.iconst 4, 1) := by decide +kernel
theorem dX3_init_86 : decode cX3_init 86 = .ok (.newarray .int, 2) := by decide +kernel
theorem dX3_init_88 : decode cX3_init 88 = .ok (.putfield 52, 3) := by decide +kernel
theorem dX3_init_91 : decode cX3_init 91 = .ok (.aload_n 0, 1) := by decide +kernel
theorem dX3_init_92 : decode cX3_init 92 = .ok (.iconst 4, 1) := by decide +kernel
theorem dX3_init_93 : decode cX3_init 93 = .ok (.newarray .int, 2) := by decide +kernel
theorem dX3_init_95 : decode cX3_init 95 = .ok (.putfield 55, 3) := by decide +kernel
theorem dX3_init_98 : decode cX3_init 98 = .ok (.aload_n 0, 1) := by decide +kernel
theorem dX3_init_99 : decode cX3_init 99 = .ok (.iconst 4, 1) := by decide +kernel
theorem dX3_init_100 : decode cX3_init 100 = .ok (.newarray .int, 2) := by decide +kernel
theorem dX3_init_102 : decode cX3_init 102 = .ok (.putfield 58, 3) := by decide +kernel
theorem dX3_init_105 : decode cX3_init 105 = .ok (.aload_n 0, 1) := by decide +kernel
theorem dX3_init_106 : decode cX3_init 106 = .ok (.new 61, 3) := by decide +kernel
theorem dX3_init_109 : decode cX3_init 109 = .ok (.dup, 1) := by decide +kernel
theorem dX3_init_110 : decode cX3_init 110 = .ok (.invokespecial 63, 3) := by decide +kernel
theorem dX3_init_113 : decode cX3_init 113 = .ok (.putfield 64, 3) := by decide +kernel
theorem dX3_init_116 : decode cX3_init 116 = .ok (.return_, 1) := by decide +kernel
theorem dX3_clear_0 : decode cX3_clear 0 = .ok (.aload_n 0, 1) := by decide +kernel
theorem dX3_clear_1 : decode cX3_clear 1 = .ok (.iconst 0, 1) := by decide +kernel
theorem dX3_clear_2 : decode cX3_clear 2 = .ok (.putfield 31, 3) := by decide +kernel
theorem dX3_clear_5 : decode cX3_clear 5 = .ok (.aload_n 0, 1) := by decide +kernel
theorem dX3_clear_6 : decode cX3_clear 6 = .ok (.iconst 0, 1) := by decide +kernel
theorem dX3_clear_7 : decode cX3_clear 7 = .ok (.putfield 37, 3) := by decide +kernel
theorem dX3_clear_10 : decode cX3_clear 10 = .ok (.aload_n 0, 1) := by decide +kernel
theorem dX3_clear_11 : decode cX3_clear 11 = .ok (.iconst 0, 1) := by decide +kernel
theorem dX3_clear_12 : decode cX3_clear 12 = .ok (.putfield 46, 3) := by decide +kernel
theorem dX3_clear_15 : decode cX3_clear 15 = .ok (.aload_n 0, 1) := by decide +kernel
theorem dX3_clear_16 : decode cX3_clear 16 = .ok (.getfield 64, 3) := by decide +kernel
theorem dX3_clear_19 : decode cX3_clear 19 = .ok (.iconst 0, 1) := by decide +kernel
theorem dX3_clear_20 : decode cX3_clear 20 = .ok (.putfield 68, 3) := by decide +kernel
theorem dX3_clear_23 : decode cX3_clear 23 = .ok (.aload_n 0, 1) := by decide +kernel
theorem dX3_clear_24 : decode cX3_clear 24 = .ok (.getfield 64, 3) := by decide +kernel
theorem dX3_clear_27 : decode cX3_clear 27 = .ok (.iconst 0, 1) := by decide +kernel
theorem dX3_clear_28 : decode cX3_clear 28 = .ok (.putfield 71, 3) := by decide +kernel
theorem dX3_clear_31 : decode cX3_clear 31 = .ok (.return_, 1) := by decide +kernel
theorem dX3_laneOn_0 : decode cX3_laneOn 0 = .ok (.iconst 0, 1) := by decide +kernel
theorem dX3_laneOn_1 : decode cX3_laneOn 1 = .ok (.istore_n 2, 1) := by decide +kernel
theorem dX3_laneOn_2 : decode cX3_laneOn 2 = .ok (.iload_n 2, 1) := by decide +kernel
theorem dX3_laneOn_3 : decode cX3_laneOn 3 = .ok (.aload_n 0, 1) := by decide +kernel
theorem dX3_laneOn_4 : decode cX3_laneOn 4 = .ok (.getfield 37, 3) := by decide +kernel
theorem dX3_laneOn_7 : decode cX3_laneOn 7 = .ok (.if_icmp .ge 23, 3) := by decide +kernel
theorem dX3_laneOn_10 : decode cX3_laneOn 10 = .ok (.aload_n 0, 1) := by decide +kernel
theorem dX3_laneOn_11 : decode cX3_laneOn 11 = .ok (.getfield 40, 3) := by decide +kernel
theorem dX3_laneOn_14 : decode cX3_laneOn 14 = .ok (.iload_n 2, 1) := by decide +kernel
theorem dX3_laneOn_15 : decode cX3_laneOn 15 = .ok (.invokestatic 74, 3) := by decide +kernel
theorem dX3_laneOn_18 : decode cX3_laneOn 18 = .ok (.iload_n 1, 1) := by decide +kernel
theorem dX3_laneOn_19 : decode cX3_laneOn 19 = .ok (.if_icmp .ne 5, 3) := by decide +kernel
theorem dX3_laneOn_22 : decode cX3_laneOn 22 = .ok (.iload_n 2, 1) := by decide +kernel
theorem dX3_laneOn_23 : decode cX3_laneOn 23 = .ok (.ireturn, 1) := by decide +kernel
theorem dX3_laneOn_24 : decode cX3_laneOn 24 = .ok (.iinc 2 1, 3) := by decide +kernel
theorem dX3_laneOn_27 : decode cX3_laneOn 27 = .ok (.goto (-25), 3) := by decide +kernel
theorem dX3_laneOn_30 : decode cX3_laneOn 30 = .ok (.iconst (-1), 1) := by decide +kernel
theorem dX3_laneOn_31 : decode cX3_laneOn 31 = .ok (.ireturn, 1) := by decide +kernel
theorem dX3_isOffShift_0 : decode cX3_isOffShift 0 = .ok (.iconst 0, 1) := by decide +kernel
theorem dX3_isOffShift_1 : decode cX3_isOffShift 1 = .ok (.istore 4, 2) := by decide +kernel
theorem dX3_isOffShift_3 : decode cX3_isOffShift 3 = .ok (.iload 4, 2) := by decide +kernel
theorem dX3_isOffShift_5 : decode cX3_isOffShift 5 = .ok (.aload_n 0, 1) := by decide +kernel
theorem dX3_isOffShift_6 : decode cX3_isOffShift 6 = .ok (.getfield 46, 3) := by decide +kernel
theorem dX3_isOffShift_9 : decode cX3_isOffShift 9 = .ok (.if_icmp .ge 63, 3) := by decide +kernel
theorem dX3_isOffShift_12 : decode cX3_isOffShift 12 = .ok (.aload_n 0, 1) := by decide +kernel
theorem dX3_isOffShift_13 : decode cX3_isOffShift 13 = .ok (.getfield 49, 3) := by decide +kernel
theorem dX3_isOffShift_16 : decode cX3_isOffShift 16 = .ok (.iload 4, 2) := by decide +kernel
theorem dX3_isOffShift_18 : decode cX3_isOffShift 18 = .ok (.invokestatic 74, 3) := by decide +kernel
theorem dX3_isOffShift_21 : decode cX3_isOffShift 21 = .ok (.iload_n 1, 1) := by decide +kernel
theorem dX3_isOffShift_22 : decode cX3_isOffShift 22 = .ok (.if_icmp .ne 44, 3) := by decide +kernel
theorem dX3_isOffShift_25 : decode cX3_isOffShift 25 = .ok (.iload_n 2, 1) := by decide +kernel
theorem dX3_isOffShift_26 : decode cX3_isOffShift 26 = .ok (.aload_n 0, 1) := by decide +kernel
theorem dX3_isOffShift_27 : decode cX3_isOffShift 27 = .ok (.getfield 52, 3) := by decide +kernel
theorem dX3_isOffShift_30 : decode cX3_isOffShift 30 = .ok (.iload 4, 2) := by decide +kernel
theorem dX3_isOffShift_32 : decode cX3_isOffShift 32 = .ok (.invokestatic 74, 3) := by decide +kernel
theorem dX3_isOffShift_35 : decode cX3_isOffShift 35 = .ok (.if_icmp .lt 31, 3) := by decide +kernel
theorem dX3_isOffShift_38 : decode cX3_isOffShift 38 = .ok (.iload_n 3, 1) := by decide +kernel
theorem dX3_isOffShift_39 : decode cX3_isOffShift 39 = .ok (.aload_n 0, 1) := by decide +kernel
theorem dX3_isOffShift_40 : decode cX3_isOffShift 40 = .ok (.getfield 55, 3) := by decide +kernel
theorem dX3_isOffShift_43 : decode cX3_isOffShift 43 = .ok (.iload 4, 2) := by decide +kernel
theorem dX3_isOffShift_45 : decode cX3_isOffShift 45 = .ok (.invokestatic 74, 3) := by decide +kernel
theorem dX3_isOffShift_48 : decode cX3_isOffShift 48 = .ok (.if_icmp .lt 18, 3) := by decide +kernel
theorem dX3_isOffShift_51 : decode cX3_isOffShift 51 = .ok (.iload_n 3, 1) := by decide +kernel
theorem dX3_isOffShift_52 : decode cX3_isOffShift 52 = .ok (.aload_n 0, 1) := by decide +kernel
theorem dX3_isOffShift_53 : decode cX3_isOffShift 53 = .ok (.getfield 58, 3) := by decide +kernel
theorem dX3_isOffShift_56 : decode cX3_isOffShift 56 = .ok (.iload 4, 2) := by decide +kernel
theorem dX3_isOffShift_58 : decode cX3_isOffShift 58 = .ok (.invokestatic 74, 3) := by decide +kernel
theorem dX3_isOffShift_61 : decode cX3_isOffShift 61 = .ok (.if_icmp .gt 5, 3) := by decide +kernel
theorem dX3_isOffShift_64 : decode cX3_isOffShift 64 = .ok (.iconst 1, 1) := by decide +kernel
theorem dX3_isOffShift_65 : decode cX3_isOffShift 65 = .ok (.ireturn, 1) := by decide +kernel
theorem dX3_isOffShift_66 : decode cX3_isOffShift 66 = .ok (.iinc 4 1, 3) := by decide +kernel
theorem dX3_isOffShift_69 : decode cX3_isOffShift 69 = .ok (.goto (-66), 3) := by decide +kernel
theorem dX3_isOffShift_72 : decode cX3_isOffShift 72 = .ok (.iconst 0, 1) := by decide +kernel
theorem dX3_isOffShift_73 : decode cX3_isOffShift 73 = .ok (.ireturn, 1) := by decide +kernel
theorem dX4_init_0 : decode cX4_init 0 = .ok (.aload_n 0, 1) := by decide +kernel
theorem dX4_init_1 : decode cX4_init 1 = .ok (.invokespecial 3, 3) := by decide +kernel
theorem dX4_init_4 : decode cX4_init 4 = .ok (.aload_n 0, 1) := by decide +kernel
theorem dX4_init_5 : decode cX4_init 5 = .ok (.iconst 0, 1) := by decide +kernel
theorem dX4_init_6 : decode cX4_init 6 = .ok (.putfield 9, 3) := by decide +kernel
theorem dX4_init_9 : decode cX4_init 9 = .ok (.aload_n 0, 1) := by decide +kernel
theorem dX4_init_10 : decode cX4_init 10 = .ok (.lconst 0, 1) := by decide +kernel
theorem dX4_init_11 : decode cX4_init 11 = .ok (.putfield 15, 3) := by decide +kernel
theorem dX4_init_14 : decode cX4_init 14 = .ok (.aload_n 0, 1) := by decide +kernel
theorem dX4_init_15 : decode cX4_init 15 = .ok (.iconst 0, 1) := by decide +kernel
theorem dX4_init_16 : decode cX4_init 16 = .ok (.putfield 19, 3) := by decide +kernel
theorem dX4_init_19 : decode cX4_init 19 = .ok (.aload_n 0, 1) := by decide +kernel
theorem dX4_init_20 : decode cX4_init 20 = .ok (.iconst 0, 1) := by decide +kernel
theorem dX4_init_21 : decode cX4_init 21 = .ok (.putfield 22, 3) := by decide +kernel
theorem dX4_init_24 : decode cX4_init 24 = .ok (.aload_n 0, 1) := by decide +kernel
theorem dX4_init_25 : decode cX4_init 25 = .ok (.new 25, 3) := by decide +kernel
theorem dX4_init_28 : decode cX4_init 28 = .ok (.dup, 1) := by decide +kernel
theorem dX4_init_29 : decode cX4_init 29 = .ok (.invokespecial 27, 3) := by decide +kernel
theorem dX4_init_32 : decode cX4_init 32 = .ok (.putfield 28, 3) := by decide +kernel
theorem dX4_init_35 : decode cX4_init 35 = .ok (.aload_n 0, 1) := by decide +kernel
theorem dX4_init_36 : decode cX4_init 36 = .ok (.bipush 8, 2) := by decide +kernel
theorem dX4_init_38 : decode cX4_init 38 = .ok (.newarray .int, 2) := by decide +kernel
theorem dX4_init_40 : decode cX4_init 40 = .ok (.putfield 32, 3) := by decide +kernel
theorem dX4_init_43 : decode cX4_init 43 = .ok (.aload_n 0, 1) := by decide +kernel
theorem dX4_init_44 : decode cX4_init 44 = .ok (.bipush 8, 2) := by decide +kernel
theorem dX4_init_46 : decode cX4_init 46 = .ok (.newarray .int, 2) := by decide +kernel
theorem dX4_init_48 : decode cX4_init 48 = .ok (.putfield 36, 3) := by decide +kernel
theorem dX4_init_51 : decode cX4_init 51 = .ok (.aload_n 0, 1) := by decide +kernel
theorem dX4_init_52 : decode cX4_init 52 = .ok (.iconst 4, 1) := by decide +kernel
theorem dX4_init_53 : decode cX4_init 53 = .ok (.newarray .int, 2) := by decide +kernel
theorem dX4_init_55 : decode cX4_init 55 = .ok (.putfield 39, 3) := by decide +kernel
theorem dX4_init_58 : decode cX4_init 58 = .ok (.aload_n 0, 1) := by decide +kernel
theorem dX4_init_59 : decode cX4_init 59 = .ok (.iconst 4, 1) := by decide +kernel
theorem dX4_init_60 : decode cX4_init 60 = .ok (.newarray .int, 2) := by decide +kernel
theorem dX4_init_62 : decode cX4_init 62 = .ok (.putfield 42, 3) := by decide +kernel
theorem dX4_init_65 : decode cX4_init 65 = .ok (.aload_n 0, 1) := by decide +kernel
theorem dX4_init_66 : decode cX4_init 66 = .ok (.bipush 80, 2) := by decide +kernel
theorem dX4_init_68 : decode cX4_init 68 = .ok (.newarray .int, 2) := by decide +kernel
theorem dX4_init_70 : decode cX4_init 70 = .ok (.putfield 45, 3) := by decide +kernel
theorem dX4_init_73 : decode cX4_init 73 = .ok (.aload_n 0, 1) := by decide +kernel
theorem dX4_init_74 : decode cX4_init 74 = .ok (.bipush 40, 2) := by decide +kernel
theorem dX4_init_76 : decode cX4_init 76 = .ok (.newarray .int, 2) := by decide +kernel
theorem dX4_init_78 : decode cX4_init 78 = .ok (.putfield 48, 3) := by decide +kernel
theorem dX4_init_81 : decode cX4_init 81 = .ok (.aload_n 0, 1) := by decide +kernel
theorem dX4_init_82 : decode cX4_init 82 = .ok (.bipush 12, 2) := by decide +kernel
theorem dX4_init_84 : decode cX4_init 84 = .ok (.newarray .int, 2) := by decide +kernel
theorem dX4_init_86 : decode cX4_init 86 = .ok (.putfield 51, 3) := by decide +kernel
theorem dX4_init_89 : decode cX4_init 89 = .ok (.aload_n 0, 1) := by decide +kernel
theorem dX4_init_90 : decode cX4_init 90 = .ok (.bipush 12, 2) := by decide +kernel
theorem dX4_init_92 : decode cX4_init 92 = .ok (.newarray .int, 2) := by decide +kernel
theorem dX4_init_94 : decode cX4_init 94 = .ok (.putfield 54, 3) := by decide +kernel
theorem dX4_init_97 : decode cX4_init 97 = .ok (.aload_n 0, 1) := by decide +kernel
theorem dX4_init_98 : decode cX4_init 98 = .ok (.bipush 12, 2) := by decide +kernel
theorem dX4_init_100 : decode cX4_init 100 = .ok (.newarray .int, 2) := by decide +kernel
theorem dX4_init_102 : decode cX4_init 102 = .ok (.putfield 57, 3) := by decide +kernel
theorem dX4_init_105 : decode cX4_init 105 = .ok (.aload_n 0, 1) := by decide +kernel
theorem dX4_init_106 : decode cX4_init 106 = .ok (.iconst 0, 1) := by decide +kernel
theorem dX4_init_107 : decode cX4_init 107 = .ok (.putfield 60, 3) := by decide +kernel
theorem dX4_init_110 : decode cX4_init 110 = .ok (.aload_n 0, 1) := by decide +kernel
theorem dX4_init_111 : decode cX4_init 111 = .ok (.sipush 300, 3) := by decide +kernel
theorem dX4_init_114 : decode cX4_init 114 = .ok (.newarray .int, 2) := by decide +kernel
theorem dX4_init_116 : decode cX4_init 116 = .ok (.putfield 63, 3) := by decide +kernel
theorem dX4_init_119 : decode cX4_init 119 = .ok (.return_, 1) := by decide +kernel
theorem dX4_clear_0 : decode cX4_clear 0 = .ok (.aload_n 0, 1) := by decide +kernel
theorem dX4_clear_1 : decode cX4_clear 1 = .ok (.iconst 0, 1) := by decide +kernel
theorem dX4_clear_2 : decode cX4_clear 2 = .ok (.putfield 9, 3) := by decide +kernel
theorem dX4_clear_5 : decode cX4_clear 5 = .ok (.aload_n 0, 1) := by decide +kernel
theorem dX4_clear_6 : decode cX4_clear 6 = .ok (.iconst 0, 1) := by decide +kernel
theorem dX4_clear_7 : decode cX4_clear 7 = .ok (.putfield 22, 3) := by decide +kernel
theorem dX4_clear_10 : decode cX4_clear 10 = .ok (.aload_n 0, 1) := by decide +kernel
theorem dX4_clear_11 : decode cX4_clear 11 = .ok (.getfield 28, 3) := by decide +kernel
theorem dX4_clear_14 : decode cX4_clear 14 = .ok (.invokevirtual 66, 3) := by decide +kernel
theorem dX4_clear_17 : decode cX4_clear 17 = .ok (.aload_n 0, 1) := by decide +kernel
theorem dX4_clear_18 : decode cX4_clear 18 = .ok (.getfield 39, 3) := by decide +kernel
theorem dX4_clear_21 : decode cX4_clear 21 = .ok (.iconst 0, 1) := by decide +kernel
theorem dX4_clear_22 : decode cX4_clear 22 = .ok (.invokestatic 69, 3) := by decide +kernel
theorem dX4_clear_25 : decode cX4_clear 25 = .ok (.aload_n 0, 1) := by decide +kernel
theorem dX4_clear_26 : decode cX4_clear 26 = .ok (.getfield 42, 3) := by decide +kernel
theorem dX4_clear_29 : decode cX4_clear 29 = .ok (.iconst 0, 1) := by decide +kernel
theorem dX4_clear_30 : decode cX4_clear 30 = .ok (.invokestatic 69, 3) := by decide +kernel
theorem dX4_clear_33 : decode cX4_clear 33 = .ok (.aload_n 0, 1) := by decide +kernel
theorem dX4_clear_34 : decode cX4_clear 34 = .ok (.getfield 48, 3) := by decide +kernel
theorem dX4_clear_37 : decode cX4_clear 37 = .ok (.iconst (-1), 1) := by decide +kernel
theorem dX4_clear_38 : decode cX4_clear 38 = .ok (.invokestatic 69, 3) := by decide +kernel
theorem dX4_clear_41 : decode cX4_clear 41 = .ok (.aload_n 0, 1) := by decide +kernel
theorem dX4_clear_42 : decode cX4_clear 42 = .ok (.getfield 51, 3) := by decide +kernel
theorem dX4_clear_45 : decode cX4_clear 45 = .ok (.iconst (-1), 1) := by decide +kernel
theorem dX4_clear_46 : decode cX4_clear 46 = .ok (.invokestatic 69, 3) := by decide +kernel
theorem dX4_clear_49 : decode cX4_clear 49 = .ok (.aload_n 0, 1) := by decide +kernel
theorem dX4_clear_50 : decode cX4_clear 50 = .ok (.getfield 57, 3) := by decide +kernel
theorem dX4_clear_53 : decode cX4_clear 53 = .ok (.iconst 0, 1) := by decide +kernel
theorem dX4_clear_54 : decode cX4_clear 54 = .ok (.invokestatic 69, 3) := by decide +kernel
theorem dX4_clear_57 : decode cX4_clear 57 = .ok (.aload_n 0, 1) := by decide +kernel
theorem dX4_clear_58 : decode cX4_clear 58 = .ok (.iconst 0, 1) := by decide +kernel
theorem dX4_clear_59 : decode cX4_clear 59 = .ok (.putfield 60, 3) := by decide +kernel
theorem dX4_clear_62 : decode cX4_clear 62 = .ok (.return_, 1) := by decide +kernel
theorem dX4_copyFrom_0 : decode cX4_copyFrom 0 = .ok (.aload_n 0, 1) := by decide +kernel
theorem dX4_copyFrom_1 : decode cX4_copyFrom 1 = .ok (.aload_n 1, 1) := by decide +kernel
theorem dX4_copyFrom_2 : decode cX4_copyFrom 2 = .ok (.getfield 9, 3) := by decide +kernel
theorem dX4_copyFrom_5 : decode cX4_copyFrom 5 = .ok (.putfield 9, 3) := by decide +kernel
theorem dX4_copyFrom_8 : decode cX4_copyFrom 8 = .ok (.aload_n 0, 1) := by decide +kernel
theorem dX4_copyFrom_9 : decode cX4_copyFrom 9 = .ok (.aload_n 1, 1) := by decide +kernel
theorem dX4_copyFrom_10 : decode cX4_copyFrom 10 = .ok (.getfield 15, 3) := by decide +kernel
theorem dX4_copyFrom_13 : decode cX4_copyFrom 13 = .ok (.putfield 15, 3) := by decide +kernel
theorem dX4_copyFrom_16 : decode cX4_copyFrom 16 = .ok (.aload_n 0, 1) := by decide +kernel
theorem dX4_copyFrom_17 : decode cX4_copyFrom 17 = .ok (.aload_n 1, 1) := by decide +kernel
theorem dX4_copyFrom_18 : decode cX4_copyFrom 18 = .ok (.getfield 19, 3) := by decide +kernel
theorem dX4_copyFrom_21 : decode cX4_copyFrom 21 = .ok (.putfield 19, 3) := by decide +kernel
theorem dX4_copyFrom_24 : decode cX4_copyFrom 24 = .ok (.aload_n 0, 1) := by decide +kernel
theorem dX4_copyFrom_25 : decode cX4_copyFrom 25 = .ok (.aload_n 1, 1) := by decide +kernel
theorem dX4_copyFrom_26 : decode cX4_copyFrom 26 = .ok (.getfield 22, 3) := by decide +kernel
theorem dX4_copyFrom_29 : decode cX4_copyFrom 29 = .ok (.putfield 22, 3) := by decide +kernel
theorem dX4_copyFrom_32 : decode cX4_copyFrom 32 = .ok (.aload_n 0, 1) := by decide +kernel
theorem dX4_copyFrom_33 : decode cX4_copyFrom 33 = .ok (.getfield 28, 3) := by decide +kernel
theorem dX4_copyFrom_36 : decode cX4_copyFrom 36 = .ok (.aload_n 1, 1) := by decide +kernel
theorem dX4_copyFrom_37 : decode cX4_copyFrom 37 = .ok (.getfield 28, 3) := by decide +kernel
theorem dX4_copyFrom_40 : decode cX4_copyFrom 40 = .ok (.invokevirtual 75, 3) := by decide +kernel
theorem dX4_copyFrom_43 : decode cX4_copyFrom 43 = .ok (.aload_n 1, 1) := by decide +kernel
theorem dX4_copyFrom_44 : decode cX4_copyFrom 44 = .ok (.getfield 32, 3) := by decide +kernel
theorem dX4_copyFrom_47 : decode cX4_copyFrom 47 = .ok (.aload_n 0, 1) := by decide +kernel
theorem dX4_copyFrom_48 : decode cX4_copyFrom 48 = .ok (.getfield 32, 3) := by decide +kernel
theorem dX4_copyFrom_51 : decode cX4_copyFrom 51 = .ok (.invokestatic 79, 3) := by decide +kernel
theorem dX4_copyFrom_54 : decode cX4_copyFrom 54 = .ok (.aload_n 1, 1) := by decide +kernel
theorem dX4_copyFrom_55 : decode cX4_copyFrom 55 = .ok (.getfield 36, 3) := by decide +kernel
theorem dX4_copyFrom_58 : decode cX4_copyFrom 58 = .ok (.aload_n 0, 1) := by decide +kernel
theorem dX4_copyFrom_59 : decode cX4_copyFrom 59 = .ok (.getfield 36, 3) := by decide +kernel
theorem dX4_copyFrom_62 : decode cX4_copyFrom 62 = .ok (.invokestatic 79, 3) := by decide +kernel
theorem dX4_copyFrom_65 : decode cX4_copyFrom 65 = .ok (.aload_n 1, 1) := by decide +kernel
theorem dX4_copyFrom_66 : decode cX4_copyFrom 66 = .ok (.getfield 39, 3) := by decide +kernel
theorem dX4_copyFrom_69 : decode cX4_copyFrom 69 = .ok (.aload_n 0, 1) := by decide +kernel
theorem dX4_copyFrom_70 : decode cX4_copyFrom 70 = .ok (.getfield 39, 3) := by decide +kernel
theorem dX4_copyFrom_73 : decode cX4_copyFrom 73 = .ok (.invokestatic 79, 3) := by decide +kernel
theorem dX4_copyFrom_76 : decode cX4_copyFrom 76 = .ok (.aload_n 1, 1) := by decide +kernel
theorem dX4_copyFrom_77 : decode cX4_copyFrom 77 = .ok (.getfield 42, 3) := by decide +kernel
theorem dX4_copyFrom_80 : decode cX4_copyFrom 80 = .ok (.aload_n 0, 1) := by decide +kernel
theorem dX4_copyFrom_81 : decode cX4_copyFrom 81 = .ok (.getfield 42, 3) := by decide +kernel
theorem dX4_copyFrom_84 : decode cX4_copyFrom 84 = .ok (.invokestatic 79, 3) := by decide +kernel
theorem dX4_copyFrom_87 : decode cX4_copyFrom 87 = .ok (.aload_n 1, 1) := by decide +kernel
theorem dX4_copyFrom_88 : decode cX4_copyFrom 88 = .ok (.getfield 45, 3) := by decide +kernel
theorem dX4_copyFrom_91 : decode cX4_copyFrom 91 = .ok (.aload_n 0, 1) := by decide +kernel
theorem dX4_copyFrom_92 : decode cX4_copyFrom 92 = .ok (.getfield 45, 3) := by decide +kernel
theorem dX4_copyFrom_95 : decode cX4_copyFrom 95 = .ok (.invokestatic 79, 3) := by decide +kernel
theorem dX4_copyFrom_98 : decode cX4_copyFrom 98 = .ok (.aload_n 1, 1) := by decide +kernel
theorem dX4_copyFrom_99 : decode cX4_copyFrom 99 = .ok (.getfield 48, 3) := by decide +kernel
theorem dX4_copyFrom_102 : decode cX4_copyFrom 102 = .ok (.aload_n 0, 1) := by decide +kernel
theorem dX4_copyFrom_103 : decode cX4_copyFrom 103 = .ok (.getfield 48, 3) := by decide +kernel
theorem dX4_copyFrom_106 : decode cX4_copyFrom 106 = .ok (.invokestatic 79, 3) := by decide +kernel
theorem dX4_copyFrom_109 : decode cX4_copyFrom 109 = .ok (.aload_n 1, 1) := by decide +kernel
theorem dX4_copyFrom_110 : decode cX4_copyFrom 110 = .ok (.getfield 51, 3) := by decide +kernel
theorem dX4_copyFrom_113 : decode cX4_copyFrom 113 = .ok (.aload_n 0, 1) := by decide +kernel
theorem dX4_copyFrom_114 : decode cX4_copyFrom 114 = .ok (.getfield 51, 3) := by decide +kernel
theorem dX4_copyFrom_117 : decode cX4_copyFrom 117 = .ok (.invokestatic 79, 3) := by decide +kernel
theorem dX4_copyFrom_120 : decode cX4_copyFrom 120 = .ok (.aload_n 1, 1) := by decide +kernel
theorem dX4_copyFrom_121 : decode cX4_copyFrom 121 = .ok (.getfield 54, 3) := by decide +kernel
theorem dX4_copyFrom_124 : decode cX4_copyFrom 124 = .ok (.aload_n 0, 1) := by decide +kernel
theorem dX4_copyFrom_125 : decode cX4_copyFrom 125 = .ok (.getfield 54, 3) := by decide +kernel
theorem dX4_copyFrom_128 : decode cX4_copyFrom 128 = .ok (.invokestatic 79, 3) := by decide +kernel
theorem dX4_copyFrom_131 : decode cX4_copyFrom 131 = .ok (.aload_n 1, 1) := by decide +kernel
theorem dX4_copyFrom_132 : decode cX4_copyFrom 132 = .ok (.getfield 57, 3) := by decide +kernel
theorem dX4_copyFrom_135 : decode cX4_copyFrom 135 = .ok (.aload_n 0, 1) := by decide +kernel
theorem dX4_copyFrom_136 : decode cX4_copyFrom 136 = .ok (.getfield 57, 3) := by decide +kernel
theorem dX4_copyFrom_139 : decode cX4_copyFrom 139 = .ok (.invokestatic 79, 3) := by decide +kernel
theorem dX4_copyFrom_142 : decode cX4_copyFrom 142 = .ok (.aload_n 0, 1) := by decide +kernel
theorem dX4_copyFrom_143 : decode cX4_copyFrom 143 = .ok (.aload_n 1, 1) := by decide +kernel
theorem dX4_copyFrom_144 : decode cX4_copyFrom 144 = .ok (.getfield 60, 3) := by decide +kernel
theorem dX4_copyFrom_147 : decode cX4_copyFrom 147 = .ok (.putfield 60, 3) := by decide +kernel
theorem dX4_copyFrom_150 : decode cX4_copyFrom 150 = .ok (.aload_n 1, 1) := by decide +kernel
theorem dX4_copyFrom_151 : decode cX4_copyFrom 151 = .ok (.getfield 63, 3) := by decide +kernel
theorem dX4_copyFrom_154 : decode cX4_copyFrom 154 = .ok (.aload_n 0, 1) := by decide +kernel
theorem dX4_copyFrom_155 : decode cX4_copyFrom 155 = .ok (.getfield 63, 3) := by decide +kernel
theorem dX4_copyFrom_158 : decode cX4_copyFrom 158 = .ok (.invokestatic 79, 3) := by decide +kernel
theorem dX4_copyFrom_161 : decode cX4_copyFrom 161 = .ok (.return_, 1) := by decide +kernel
theorem dX4_draw_0 : decode cX4_draw 0 = .ok (.aload_n 0, 1) := by decide +kernel
theorem dX4_draw_1 : decode cX4_draw 1 = .ok (.aload_n 0, 1) := by decide +kernel
theorem dX4_draw_2 : decode cX4_draw 2 = .ok (.getfield 15, 3) := by decide +kernel
theorem dX4_draw_5 : decode cX4_draw 5 = .ok (.ldc2_w 83, 3) := by decide +kernel
theorem dX4_draw_8 : decode cX4_draw 8 = .ok (.lmul, 1) := by decide +kernel
theorem dX4_draw_9 : decode cX4_draw 9 = .ok (.ldc2_w 85, 3) := by decide +kernel
theorem dX4_draw_12 : decode cX4_draw 12 = .ok (.ladd, 1) := by decide +kernel
theorem dX4_draw_13 : decode cX4_draw 13 = .ok (.ldc2_w 87, 3) := by decide +kernel
theorem dX4_draw_16 : decode cX4_draw 16 = .ok (.land, 1) := by decide +kernel
theorem dX4_draw_17 : decode cX4_draw 17 = .ok (.putfield 15, 3) := by decide +kernel
theorem dX4_draw_20 : decode cX4_draw 20 = .ok (.aload_n 0, 1) := by decide +kernel
theorem dX4_draw_21 : decode cX4_draw 21 = .ok (.getfield 15, 3) := by decide +kernel
theorem dX4_draw_24 : decode cX4_draw 24 = .ok (.ldc2_w 89, 3) := by decide +kernel
theorem dX4_draw_27 : decode cX4_draw 27 = .ok (.ldiv, 1) := by decide +kernel
theorem dX4_draw_28 : decode cX4_draw 28 = .ok (.ldc2_w 91, 3) := by decide +kernel
theorem dX4_draw_31 : decode cX4_draw 31 = .ok (.lrem, 1) := by decide +kernel
theorem dX4_draw_32 : decode cX4_draw 32 = .ok (.l2i, 1) := by decide +kernel
theorem dX4_draw_33 : decode cX4_draw 33 = .ok (.ireturn, 1) := by decide +kernel
theorem dX4_phase_0 : decode cX4_phase 0 = .ok (.aload_n 0, 1) := by decide +kernel
theorem dX4_phase_1 : decode cX4_phase 1 = .ok (.getfield 9, 3) := by decide +kernel
theorem dX4_phase_4 : decode cX4_phase 4 = .ok (.aload_n 0, 1) := by decide +kernel
theorem dX4_phase_5 : decode cX4_phase 5 = .ok (.getfield 32, 3) := by decide +kernel
theorem dX4_phase_8 : decode cX4_phase 8 = .ok (.iload_n 1, 1) := by decide +kernel
theorem dX4_phase_9 : decode cX4_phase 9 = .ok (.invokestatic 93, 3) := by decide +kernel
theorem dX4_phase_12 : decode cX4_phase 12 = .ok (.if_icmp .ge 5, 3) := by decide +kernel
theorem dX4_phase_15 : decode cX4_phase 15 = .ok (.iconst 0, 1) := by decide +kernel
theorem dX4_phase_16 : decode cX4_phase 16 = .ok (.ireturn, 1) := by decide +kernel
theorem dX4_phase_17 : decode cX4_phase 17 = .ok (.aload_n 0, 1) := by decide +kernel
theorem dX4_phase_18 : decode cX4_phase 18 = .ok (.getfield 9, 3) := by decide +kernel
theorem dX4_phase_21 : decode cX4_phase 21 = .ok (.aload_n 0, 1) := by decide +kernel
theorem dX4_phase_22 : decode cX4_phase 22 = .ok (.getfield 36, 3) := by decide +kernel
theorem dX4_phase_25 : decode cX4_phase 25 = .ok (.iload_n 1, 1) := by decide +kernel
theorem dX4_phase_26 : decode cX4_phase 26 = .ok (.invokestatic 93, 3) := by decide +kernel
theorem dX4_phase_29 : decode cX4_phase 29 = .ok (.if_icmp .ge 7, 3) := by decide +kernel
theorem dX4_phase_32 : decode cX4_phase 32 = .ok (.iconst 1, 1) := by decide +kernel
theorem dX4_phase_33 : decode cX4_phase 33 = .ok (.goto 4, 3) := by decide +kernel
theorem dX4_phase_36 : decode cX4_phase 36 = .ok (.iconst 2, 1) := by decide +kernel
theorem dX4_phase_37 : decode cX4_phase 37 = .ok (.ireturn, 1) := by decide +kernel
theorem dX4_phaseOfBag_0 : decode cX4_phaseOfBag 0 = .ok (.aload_n 0, 1) := by decide +kernel
theorem dX4_phaseOfBag_1 : decode cX4_phaseOfBag 1 = .ok (.aload_n 0, 1) := by decide +kernel
theorem dX4_phaseOfBag_2 : decode cX4_phaseOfBag 2 = .ok (.getfield 28, 3) := by decide +kernel
theorem dX4_phaseOfBag_5 : decode cX4_phaseOfBag 5 = .ok (.getfield 97, 3) := by decide +kernel
theorem dX4_phaseOfBag_8 : decode cX4_phaseOfBag 8 = .ok (.iload_n 1, 1) := by decide +kernel
theorem dX4_phaseOfBag_9 : decode cX4_phaseOfBag 9 = .ok (.invokestatic 93, 3) := by decide +kernel
theorem dX4_phaseOfBag_12 : decode cX4_phaseOfBag 12 = .ok (.invokevirtual 100, 3) := by decide +kernel
theorem dX4_phaseOfBag_15 : decode cX4_phaseOfBag 15 = .ok (.ireturn, 1) := by decide +kernel
theorem dX4_delayFlight_0 : decode cX4_delayFlight 0 = .ok (.aload_n 0, 1) := by decide +kernel
theorem dX4_delayFlight_1 : decode cX4_delayFlight 1 = .ok (.iload_n 1, 1) := by decide +kernel
theorem dX4_delayFlight_2 : decode cX4_delayFlight 2 = .ok (.invokevirtual 100, 3) := by decide +kernel
theorem dX4_delayFlight_5 : decode cX4_delayFlight 5 = .ok (.ifCond .ne 21, 3) := by decide +kernel
theorem dX4_delayFlight_8 : decode cX4_delayFlight 8 = .ok (.aload_n 0, 1) := by decide +kernel
theorem dX4_delayFlight_9 : decode cX4_delayFlight 9 = .ok (.getfield 32, 3) := by decide +kernel
theorem dX4_delayFlight_12 : decode cX4_delayFlight 12 = .ok (.iload_n 1, 1) := by decide +kernel
theorem dX4_delayFlight_13 : decode cX4_delayFlight 13 = .ok (.aload_n 0, 1) := by decide +kernel
theorem dX4_delayFlight_14 : decode cX4_delayFlight 14 = .ok (.getfield 32, 3) := by decide +kernel
theorem dX4_delayFlight_17 : decode cX4_delayFlight 17 = .ok (.iload_n 1, 1) := by decide +kernel
theorem dX4_delayFlight_18 : decode cX4_delayFlight 18 = .ok (.invokestatic 93, 3) := by decide +kernel
theorem dX4_delayFlight_21 : decode cX4_delayFlight 21 = .ok (.iload_n 2, 1) := by decide +kernel
theorem dX4_delayFlight_22 : decode cX4_delayFlight 22 = .ok (.iadd, 1) := by decide +kernel
theorem dX4_delayFlight_23 : decode cX4_delayFlight 23 = .ok (.invokestatic 104, 3) := by decide +kernel
theorem dX4_delayFlight_26 : decode cX4_delayFlight 26 = .ok (.aload_n 0, 1) := by decide +kernel
theorem dX4_delayFlight_27 : decode cX4_delayFlight 27 = .ok (.getfield 36, 3) := by decide +kernel
theorem dX4_delayFlight_30 : decode cX4_delayFlight 30 = .ok (.iload_n 1, 1) := by decide +kernel
theorem dX4_delayFlight_31 : decode cX4_delayFlight 31 = .ok (.aload_n 0, 1) := by decide +kernel
theorem dX4_delayFlight_32 : decode cX4_delayFlight 32 = .ok (.getfield 36, 3) := by decide +kernel
theorem dX4_delayFlight_35 : decode cX4_delayFlight 35 = .ok (.iload_n 1, 1) := by decide +kernel
theorem dX4_delayFlight_36 : decode cX4_delayFlight 36 = .ok (.invokestatic 93, 3) := by decide +kernel
theorem dX4_delayFlight_39 : decode cX4_delayFlight 39 = .ok (.iload_n 2, 1) := by decide +kernel
theorem dX4_delayFlight_40 : decode cX4_delayFlight 40 = .ok (.iadd, 1) := by decide +kernel
theorem dX4_delayFlight_41 : decode cX4_delayFlight 41 = .ok (.invokestatic 104, 3) := by decide +kernel
theorem dX4_delayFlight_44 : decode cX4_delayFlight 44 = .ok (.return_, 1) := by decide +kernel
theorem dX4_enter_0 : decode cX4_enter 0 = .ok (.aload_n 0, 1) := by decide +kernel
theorem dX4_enter_1 : decode cX4_enter 1 = .ok (.getfield 28, 3) := by decide +kernel
theorem dX4_enter_4 : decode cX4_enter 4 = .ok (.iload_n 1, 1) := by decide +kernel
theorem dX4_enter_5 : decode cX4_enter 5 = .ok (.iload_n 2, 1) := by decide +kernel
theorem dX4_enter_6 : decode cX4_enter 6 = .ok (.invokevirtual 108, 3) := by decide +kernel
theorem dX4_enter_9 : decode cX4_enter 9 = .ok (.iload_n 2, 1) := by decide +kernel
theorem dX4_enter_10 : decode cX4_enter 10 = .ok (.invokestatic 112, 3) := by decide +kernel
theorem dX4_enter_13 : decode cX4_enter 13 = .ok (.ifCond .eq 18, 3) := by decide +kernel
theorem dX4_enter_16 : decode cX4_enter 16 = .ok (.aload_n 0, 1) := by decide +kernel
theorem dX4_enter_17 : decode cX4_enter 17 = .ok (.getfield 28, 3) := by decide +kernel
theorem dX4_enter_20 : decode cX4_enter 20 = .ok (.getfield 116, 3) := by decide +kernel
theorem dX4_enter_23 : decode cX4_enter 23 = .ok (.iload_n 1, 1) := by decide +kernel
theorem dX4_enter_24 : decode cX4_enter 24 = .ok (.aload_n 0, 1) := by decide +kernel
theorem dX4_enter_25 : decode cX4_enter 25 = .ok (.getfield 9, 3) := by decide +kernel
theorem dX4_enter_28 : decode cX4_enter 28 = .ok (.invokestatic 104, 3) := by decide +kernel
theorem dX4_enter_31 : decode cX4_enter 31 = .ok (.iload_n 2, 1) := by decide +kernel
theorem dX4_enter_32 : decode cX4_enter 32 = .ok (.bipush 9, 2) := by decide +kernel
theorem dX4_enter_34 : decode cX4_enter 34 = .ok (.if_icmp .lt 62, 3) := by decide +kernel
theorem dX4_enter_37 : decode cX4_enter 37 = .ok (.aload_n 0, 1) := by decide +kernel
theorem dX4_enter_38 : decode cX4_enter 38 = .ok (.getfield 60, 3) := by decide +kernel
theorem dX4_enter_41 : decode cX4_enter 41 = .ok (.sipush 300, 3) := by decide +kernel
theorem dX4_enter_44 : decode cX4_enter 44 = .ok (.if_icmp .ge 52, 3) := by decide +kernel
theorem dX4_enter_47 : decode cX4_enter 47 = .ok (.aload_n 0, 1) := by decide +kernel
theorem dX4_enter_48 : decode cX4_enter 48 = .ok (.getfield 63, 3) := by decide +kernel
theorem dX4_enter_51 : decode cX4_enter 51 = .ok (.aload_n 0, 1) := by decide +kernel
theorem dX4_enter_52 : decode cX4_enter 52 = .ok (.getfield 60, 3) := by decide +kernel
theorem dX4_enter_55 : decode cX4_enter 55 = .ok (.aload_n 0, 1) := by decide +kernel
theorem dX4_enter_56 : decode cX4_enter 56 = .ok (.getfield 9, 3) := by decide +kernel
theorem dX4_enter_59 : decode cX4_enter 59 = .ok (.bipush 14, 2) := by decide +kernel
theorem dX4_enter_61 : decode cX4_enter 61 = .ok (.ishl, 1) := by decide +kernel
theorem dX4_enter_62 : decode cX4_enter 62 = .ok (.iload_n 2, 1) := by decide +kernel
theorem dX4_enter_63 : decode cX4_enter 63 = .ok (.bipush 10, 2) := by decide +kernel
theorem dX4_enter_65 : decode cX4_enter 65 = .ok (.ishl, 1) := by decide +kernel
theorem dX4_enter_66 : decode cX4_enter 66 = .ok (.ior, 1) := by decide +kernel
theorem dX4_enter_67 : decode cX4_enter 67 = .ok (.iload_n 1, 1) := by decide +kernel
theorem dX4_enter_68 : decode cX4_enter 68 = .ok (.iconst 3, 1) := by decide +kernel
theorem dX4_enter_69 : decode cX4_enter 69 = .ok (.ishl, 1) := by decide +kernel
theorem dX4_enter_70 : decode cX4_enter 70 = .ok (.ior, 1) := by decide +kernel
theorem dX4_enter_71 : decode cX4_enter 71 = .ok (.aload_n 0, 1) := by decide +kernel
theorem dX4_enter_72 : decode cX4_enter 72 = .ok (.getfield 28, 3) := by decide +kernel
theorem dX4_enter_75 : decode cX4_enter 75 = .ok (.getfield 97, 3) := by decide +kernel
theorem dX4_enter_78 : decode cX4_enter 78 = .ok (.iload_n 1, 1) := by decide +kernel
theorem dX4_enter_79 : decode cX4_enter 79 = .ok (.invokestatic 93, 3) := by decide +kernel
theorem dX4_enter_82 : decode cX4_enter 82 = .ok (.ior, 1) := by decide +kernel
theorem dX4_enter_83 : decode cX4_enter 83 = .ok (.invokestatic 104, 3) := by decide +kernel
theorem dX4_enter_86 : decode cX4_enter 86 = .ok (.aload_n 0, 1) := by decide +kernel
theorem dX4_enter_87 : decode cX4_enter 87 = .ok (.dup, 1) := by decide +kernel
theorem dX4_enter_88 : decode cX4_enter 88 = .ok (.getfield 60, 3) := by decide +kernel
theorem dX4_enter_91 : decode cX4_enter 91 = .ok (.iconst 1, 1) := by decide +kernel
theorem dX4_enter_92 : decode cX4_enter 92 = .ok (.iadd, 1) := by decide +kernel
theorem dX4_enter_93 : decode cX4_enter 93 = .ok (.putfield 60, 3) := by decide +kernel
theorem dX4_enter_96 : decode cX4_enter 96 = .ok (.return_, 1) := by decide +kernel
theorem dX4_eventPart_0 : decode cX4_eventPart 0 = .ok (.aload_n 0, 1) := by decide +kernel
theorem dX4_eventPart_1 : decode cX4_eventPart 1 = .ok (.getfield 63, 3) := by decide +kernel
theorem dX4_eventPart_4 : decode cX4_eventPart 4 = .ok (.iload_n 1, 1) := by decide +kernel
theorem dX4_eventPart_5 : decode cX4_eventPart 5 = .ok (.invokestatic 93, 3) := by decide +kernel
theorem dX4_eventPart_8 : decode cX4_eventPart 8 = .ok (.istore_n 3, 1) := by decide +kernel
theorem dX4_eventPart_9 : decode cX4_eventPart 9 = .ok (.iload_n 2, 1) := by decide +kernel
theorem dX4_eventPart_10 : decode cX4_eventPart 10 = .ok (.tableswitch 46 0 2 #[26, 31, 39], 26) := by decide +kernel
theorem dX4_eventPart_36 : decode cX4_eventPart 36 = .ok (.iload_n 3, 1) := by decide +kernel
theorem dX4_eventPart_37 : decode cX4_eventPart 37 = .ok (.bipush 14, 2) := by decide +kernel
theorem dX4_eventPart_39 : decode cX4_eventPart 39 = .ok (.ishr, 1) := by decide +kernel
theorem dX4_eventPart_40 : decode cX4_eventPart 40 = .ok (.ireturn, 1) := by decide +kernel
theorem dX4_eventPart_41 : decode cX4_eventPart 41 = .ok (.iload_n 3, 1) := by decide +kernel
theorem dX4_eventPart_42 : decode cX4_eventPart 42 = .ok (.bipush 10, 2) := by decide +kernel
theorem dX4_eventPart_44 : decode cX4_eventPart 44 = .ok (.ishr, 1) := by decide +kernel
theorem dX4_eventPart_45 : decode cX4_eventPart 45 = .ok (.bipush 15, 2) := by decide +kernel
theorem dX4_eventPart_47 : decode cX4_eventPart 47 = .ok (.iand, 1) := by decide +kernel
theorem dX4_eventPart_48 : decode cX4_eventPart 48 = .ok (.ireturn, 1) := by decide +kernel
theorem dX4_eventPart_49 : decode cX4_eventPart 49 = .ok (.iload_n 3, 1) := by decide +kernel
theorem dX4_eventPart_50 : decode cX4_eventPart 50 = .ok (.iconst 3, 1) := by decide +kernel
theorem dX4_eventPart_51 : decode cX4_eventPart 51 = .ok (.ishr, 1) := by decide +kernel
theorem dX4_eventPart_52 : decode cX4_eventPart 52 = .ok (.bipush 127, 2) := by decide +kernel
theorem dX4_eventPart_54 : decode cX4_eventPart 54 = .ok (.iand, 1) := by decide +kernel
theorem dX4_eventPart_55 : decode cX4_eventPart 55 = .ok (.ireturn, 1) := by decide +kernel
theorem dX4_eventPart_56 : decode cX4_eventPart 56 = .ok (.iload_n 3, 1) := by decide +kernel
theorem dX4_eventPart_57 : decode cX4_eventPart 57 = .ok (.bipush 7, 2) := by decide +kernel
theorem dX4_eventPart_59 : decode cX4_eventPart 59 = .ok (.iand, 1) := by decide +kernel
theorem dX4_eventPart_60 : decode cX4_eventPart 60 = .ok (.ireturn, 1) := by decide +kernel
theorem dX4_placeOnLoop_0 : decode cX4_placeOnLoop 0 = .ok (.iconst 0, 1) := by decide +kernel
theorem dX4_placeOnLoop_1 : decode cX4_placeOnLoop 1 = .ok (.istore_n 2, 1) := by decide +kernel
theorem dX4_placeOnLoop_2 : decode cX4_placeOnLoop 2 = .ok (.iload_n 2, 1) := by decide +kernel
theorem dX4_placeOnLoop_3 : decode cX4_placeOnLoop 3 = .ok (.aload_n 0, 1) := by decide +kernel
theorem dX4_placeOnLoop_4 : decode cX4_placeOnLoop 4 = .ok (.getfield 48, 3) := by decide +kernel
theorem dX4_placeOnLoop_7 : decode cX4_placeOnLoop 7 = .ok (.arraylength, 1) := by decide +kernel
theorem dX4_placeOnLoop_8 : decode cX4_placeOnLoop 8 = .ok (.if_icmp .ge 21, 3) := by decide +kernel
theorem dX4_placeOnLoop_11 : decode cX4_placeOnLoop 11 = .ok (.aload_n 0, 1) := by decide +kernel
theorem dX4_placeOnLoop_12 : decode cX4_placeOnLoop 12 = .ok (.getfield 48, 3) := by decide +kernel
theorem dX4_placeOnLoop_15 : decode cX4_placeOnLoop 15 = .ok (.iload_n 2, 1) := by decide +kernel
theorem dX4_placeOnLoop_16 : decode cX4_placeOnLoop 16 = .ok (.iaload, 1) := by decide +kernel
theorem dX4_placeOnLoop_17 : decode cX4_placeOnLoop 17 = .ok (.iload_n 1, 1) := by decide +kernel
theorem dX4_placeOnLoop_18 : decode cX4_placeOnLoop 18 = .ok (.if_icmp .ne 5, 3) := by decide +kernel
theorem dX4_placeOnLoop_21 : decode cX4_placeOnLoop 21 = .ok (.iload_n 2, 1) := by decide +kernel
theorem dX4_placeOnLoop_22 : decode cX4_placeOnLoop 22 = .ok (.ireturn, 1) := by decide +kernel
theorem dX4_placeOnLoop_23 : decode cX4_placeOnLoop 23 = .ok (.iinc 2 1, 3) := by decide +kernel
theorem dX4_placeOnLoop_26 : decode cX4_placeOnLoop 26 = .ok (.goto (-24), 3) := by decide +kernel
theorem dX4_placeOnLoop_29 : decode cX4_placeOnLoop 29 = .ok (.iconst (-1), 1) := by decide +kernel
theorem dX4_placeOnLoop_30 : decode cX4_placeOnLoop 30 = .ok (.ireturn, 1) := by decide +kernel
theorem dX4_laneWith_0 : decode cX4_laneWith 0 = .ok (.iconst 0, 1) := by decide +kernel
theorem dX4_laneWith_1 : decode cX4_laneWith 1 = .ok (.istore_n 2, 1) := by decide +kernel
theorem dX4_laneWith_2 : decode cX4_laneWith 2 = .ok (.iload_n 2, 1) := by decide +kernel
theorem dX4_laneWith_3 : decode cX4_laneWith 3 = .ok (.iconst 4, 1) := by decide +kernel
theorem dX4_laneWith_4 : decode cX4_laneWith 4 = .ok (.if_icmp .ge 48, 3) := by decide +kernel
theorem dX4_laneWith_7 : decode cX4_laneWith 7 = .ok (.iconst 0, 1) := by decide +kernel
theorem dX4_laneWith_8 : decode cX4_laneWith 8 = .ok (.istore_n 3, 1) := by decide +kernel
theorem dX4_laneWith_9 : decode cX4_laneWith 9 = .ok (.iload_n 3, 1) := by decide +kernel
theorem dX4_laneWith_10 : decode cX4_laneWith 10 = .ok (.aload_n 0, 1) := by decide +kernel
theorem dX4_laneWith_11 : decode cX4_laneWith 11 = .ok (.getfield 42, 3) := by decide +kernel
theorem dX4_laneWith_14 : decode cX4_laneWith 14 = .ok (.iload_n 2, 1) := by decide +kernel
theorem dX4_laneWith_15 : decode cX4_laneWith 15 = .ok (.invokestatic 93, 3) := by decide +kernel
theorem dX4_laneWith_18 : decode cX4_laneWith 18 = .ok (.if_icmp .ge 28, 3) := by decide +kernel
theorem dX4_laneWith_21 : decode cX4_laneWith 21 = .ok (.aload_n 0, 1) := by decide +kernel
theorem dX4_laneWith_22 : decode cX4_laneWith 22 = .ok (.getfield 45, 3) := by decide +kernel
theorem dX4_laneWith_25 : decode cX4_laneWith 25 = .ok (.iload_n 2, 1) := by decide +kernel
theorem dX4_laneWith_26 : decode cX4_laneWith 26 = .ok (.bipush 20, 2) := by decide +kernel
theorem dX4_laneWith_28 : decode cX4_laneWith 28 = .ok (.imul, 1) := by decide +kernel
theorem dX4_laneWith_29 : decode cX4_laneWith 29 = .ok (.iload_n 3, 1) := by decide +kernel
theorem dX4_laneWith_30 : decode cX4_laneWith 30 = .ok (.iadd, 1) := by decide +kernel
theorem dX4_laneWith_31 : decode cX4_laneWith 31 = .ok (.invokestatic 93, 3) := by decide +kernel
theorem dX4_laneWith_34 : decode cX4_laneWith 34 = .ok (.iload_n 1, 1) := by decide +kernel
theorem dX4_laneWith_35 : decode cX4_laneWith 35 = .ok (.if_icmp .ne 5, 3) := by decide +kernel
theorem dX4_laneWith_38 : decode cX4_laneWith 38 = .ok (.iload_n 2, 1) := by decide +kernel
theorem dX4_laneWith_39 : decode cX4_laneWith 39 = .ok (.ireturn, 1) := by decide +kernel
theorem dX4_laneWith_40 : decode cX4_laneWith 40 = .ok (.iinc 3 1, 3) := by decide +kernel
theorem dX4_laneWith_43 : decode cX4_laneWith 43 = .ok (.goto (-34), 3) := by decide +kernel
theorem dX4_laneWith_46 : decode cX4_laneWith 46 = .ok (.iinc 2 1, 3) := by decide +kernel
theorem dX4_laneWith_49 : decode cX4_laneWith 49 = .ok (.goto (-47), 3) := by decide +kernel
theorem dX4_laneWith_52 : decode cX4_laneWith 52 = .ok (.iconst (-1), 1) := by decide +kernel
theorem dX4_laneWith_53 : decode cX4_laneWith 53 = .ok (.ireturn, 1) := by decide +kernel
theorem dX4_storedOf_0 : decode cX4_storedOf 0 = .ok (.iconst 0, 1) := by decide +kernel
theorem dX4_storedOf_1 : decode cX4_storedOf 1 = .ok (.istore_n 3, 1) := by decide +kernel
theorem dX4_storedOf_2 : decode cX4_storedOf 2 = .ok (.iconst 0, 1) := by decide +kernel
theorem dX4_storedOf_3 : decode cX4_storedOf 3 = .ok (.istore 4, 2) := by decide +kernel
theorem dX4_storedOf_5 : decode cX4_storedOf 5 = .ok (.iload 4, 2) := by decide +kernel
theorem dX4_storedOf_7 : decode cX4_storedOf 7 = .ok (.aload_n 0, 1) := by decide +kernel
theorem dX4_storedOf_8 : decode cX4_storedOf 8 = .ok (.getfield 42, 3) := by decide +kernel
theorem dX4_storedOf_11 : decode cX4_storedOf 11 = .ok (.iload_n 1, 1) := by decide +kernel
theorem dX4_storedOf_12 : decode cX4_storedOf 12 = .ok (.invokestatic 93, 3) := by decide +kernel
theorem dX4_storedOf_15 : decode cX4_storedOf 15 = .ok (.if_icmp .ge 40, 3) := by decide +kernel
theorem dX4_storedOf_18 : decode cX4_storedOf 18 = .ok (.aload_n 0, 1) := by decide +kernel
theorem dX4_storedOf_19 : decode cX4_storedOf 19 = .ok (.getfield 28, 3) := by decide +kernel
theorem dX4_storedOf_22 : decode cX4_storedOf 22 = .ok (.getfield 97, 3) := by decide +kernel
theorem dX4_storedOf_25 : decode cX4_storedOf 25 = .ok (.aload_n 0, 1) := by decide +kernel
theorem dX4_storedOf_26 : decode cX4_storedOf 26 = .ok (.getfield 45, 3) := by decide +kernel
theorem dX4_storedOf_29 : decode cX4_storedOf 29 = .ok (.iload_n 1, 1) := by decide +kernel
theorem dX4_storedOf_30 : decode cX4_storedOf 30 = .ok (.bipush 20, 2) := by decide +kernel
theorem dX4_storedOf_32 : decode cX4_storedOf 32 = .ok (.imul, 1) := by decide +kernel
theorem dX4_storedOf_33 : decode cX4_storedOf 33 = .ok (.iload 4, 2) := by decide +kernel
theorem dX4_storedOf_35 : decode cX4_storedOf 35 = .ok (.iadd, 1) := by decide +kernel
theorem dX4_storedOf_36 : decode cX4_storedOf 36 = .ok (.invokestatic 93, 3) := by decide +kernel
theorem dX4_storedOf_39 : decode cX4_storedOf 39 = .ok (.invokestatic 93, 3) := by decide +kernel
theorem dX4_storedOf_42 : decode cX4_storedOf 42 = .ok (.iload_n 2, 1) := by decide +kernel
theorem dX4_storedOf_43 : decode cX4_storedOf 43 = .ok (.if_icmp .ne 6, 3) := by decide +kernel
theorem dX4_storedOf_46 : decode cX4_storedOf 46 = .ok (.iinc 3 1, 3) := by decide +kernel
theorem dX4_storedOf_49 : decode cX4_storedOf 49 = .ok (.iinc 4 1, 3) := by decide +kernel
theorem dX4_storedOf_52 : decode cX4_storedOf 52 = .ok (.goto (-47), 3) := by decide +kernel
theorem dX4_storedOf_55 : decode cX4_storedOf 55 = .ok (.iload_n 3, 1) := by decide +kernel
theorem dX4_storedOf_56 : decode cX4_storedOf 56 = .ok (.ireturn, 1) := by decide +kernel
theorem dX4_goesBefore_0 : decode cX4_goesBefore 0 = .ok (.aload_n 0, 1) := by decide +kernel
theorem dX4_goesBefore_1 : decode cX4_goesBefore 1 = .ok (.getfield 36, 3) := by decide +kernel
theorem dX4_goesBefore_4 : decode cX4_goesBefore 4 = .ok (.aload_n 0, 1) := by decide +kernel
theorem dX4_goesBefore_5 : decode cX4_goesBefore 5 = .ok (.getfield 28, 3) := by decide +kernel
theorem dX4_goesBefore_8 : decode cX4_goesBefore 8 = .ok (.getfield 97, 3) := by decide +kernel
theorem dX4_goesBefore_11 : decode cX4_goesBefore 11 = .ok (.iload_n 2, 1) := by decide +kernel
theorem dX4_goesBefore_12 : decode cX4_goesBefore 12 = .ok (.invokestatic 93, 3) := by decide +kernel
theorem dX4_goesBefore_15 : decode cX4_goesBefore 15 = .ok (.invokestatic 93, 3) := by decide +kernel
theorem dX4_goesBefore_18 : decode cX4_goesBefore 18 = .ok (.aload_n 0, 1) := by decide +kernel
theorem dX4_goesBefore_19 : decode cX4_goesBefore 19 = .ok (.getfield 36, 3) := by decide +kernel
theorem dX4_goesBefore_22 : decode cX4_goesBefore 22 = .ok (.aload_n 0, 1) := by decide +kernel
theorem dX4_goesBefore_23 : decode cX4_goesBefore 23 = .ok (.getfield 28, 3) := by decide +kernel
theorem dX4_goesBefore_26 : decode cX4_goesBefore 26 = .ok (.getfield 97, 3) := by decide +kernel
theorem dX4_goesBefore_29 : decode cX4_goesBefore 29 = .ok (.iload_n 1, 1) := by decide +kernel
theorem dX4_goesBefore_30 : decode cX4_goesBefore 30 = .ok (.invokestatic 93, 3) := by decide +kernel
theorem dX4_goesBefore_33 : decode cX4_goesBefore 33 = .ok (.invokestatic 93, 3) := by decide +kernel
theorem dX4_goesBefore_36 : decode cX4_goesBefore 36 = .ok (.isub, 1) := by decide +kernel
theorem dX4_goesBefore_37 : decode cX4_goesBefore 37 = .ok (.istore_n 3, 1) := by decide +kernel
theorem dX4_goesBefore_38 : decode cX4_goesBefore 38 = .ok (.iload_n 3, 1) := by decide +kernel
theorem dX4_goesBefore_39 : decode cX4_goesBefore 39 = .ok (.ifCond .ne 27, 3) := by decide +kernel
theorem dX4_goesBefore_42 : decode cX4_goesBefore 42 = .ok (.aload_n 0, 1) := by decide +kernel
theorem dX4_goesBefore_43 : decode cX4_goesBefore 43 = .ok (.getfield 28, 3) := by decide +kernel
theorem dX4_goesBefore_46 : decode cX4_goesBefore 46 = .ok (.getfield 119, 3) := by decide +kernel
theorem dX4_goesBefore_49 : decode cX4_goesBefore 49 = .ok (.iload_n 2, 1) := by decide +kernel
theorem dX4_goesBefore_50 : decode cX4_goesBefore 50 = .ok (.invokestatic 93, 3) := by decide +kernel
theorem dX4_goesBefore_53 : decode cX4_goesBefore 53 = .ok (.aload_n 0, 1) := by decide +kernel
theorem dX4_goesBefore_54 : decode cX4_goesBefore 54 = .ok (.getfield 28, 3) := by decide +kernel
theorem dX4_goesBefore_57 : decode cX4_goesBefore 57 = .ok (.getfield 119, 3) := by decide +kernel
theorem dX4_goesBefore_60 : decode cX4_goesBefore 60 = .ok (.iload_n 1, 1) := by decide +kernel
theorem dX4_goesBefore_61 : decode cX4_goesBefore 61 = .ok (.invokestatic 93, 3) := by decide +kernel
theorem dX4_goesBefore_64 : decode cX4_goesBefore 64 = .ok (.isub, 1) := by decide +kernel
theorem dX4_goesBefore_65 : decode cX4_goesBefore 65 = .ok (.istore_n 3, 1) := by decide +kernel
theorem dX4_goesBefore_66 : decode cX4_goesBefore 66 = .ok (.iload_n 3, 1) := by decide +kernel
theorem dX4_goesBefore_67 : decode cX4_goesBefore 67 = .ok (.ifCond .gt 12, 3) := by decide +kernel
theorem dX4_goesBefore_70 : decode cX4_goesBefore 70 = .ok (.iload_n 3, 1) := by decide +kernel
theorem dX4_goesBefore_71 : decode cX4_goesBefore 71 = .ok (.ifCond .ne 12, 3) := by decide +kernel
theorem dX4_goesBefore_74 : decode cX4_goesBefore 74 = .ok (.iload_n 1, 1) := by decide +kernel
theorem dX4_goesBefore_75 : decode cX4_goesBefore 75 = .ok (.iload_n 2, 1) := by decide +kernel
theorem dX4_goesBefore_76 : decode cX4_goesBefore 76 = .ok (.if_icmp .ge 7, 3) := by decide +kernel
theorem dX4_goesBefore_79 : decode cX4_goesBefore 79 = .ok (.iconst 1, 1) := by decide +kernel
theorem dX4_goesBefore_80 : decode cX4_goesBefore 80 = .ok (.goto 4, 3) := by decide +kernel
theorem dX4_goesBefore_83 : decode cX4_goesBefore 83 = .ok (.iconst 0, 1) := by decide +kernel
theorem dX4_goesBefore_84 : decode cX4_goesBefore 84 = .ok (.ireturn, 1) := by decide +kernel
theorem dX4_firstOfQueue_0 : decode cX4_firstOfQueue 0 = .ok (.iconst (-1), 1) := by decide +kernel
theorem dX4_firstOfQueue_1 : decode cX4_firstOfQueue 1 = .ok (.istore_n 2, 1) := by decide +kernel
theorem dX4_firstOfQueue_2 : decode cX4_firstOfQueue 2 = .ok (.aload_n 0, 1) := by decide +kernel
theorem dX4_firstOfQueue_3 : decode cX4_firstOfQueue 3 = .ok (.getfield 28, 3) := by decide +kernel
theorem dX4_firstOfQueue_6 : decode cX4_firstOfQueue 6 = .ok (.getfield 122, 3) := by decide +kernel
theorem dX4_firstOfQueue_9 : decode cX4_firstOfQueue 9 = .ok (.iload_n 1, 1) := by decide +kernel
theorem dX4_firstOfQueue_10 : decode cX4_firstOfQueue 10 = .ok (.invokestatic 93, 3) := by decide +kernel
theorem dX4_firstOfQueue_13 : decode cX4_firstOfQueue 13 = .ok (.ifCond .le 53, 3) := by decide +kernel
theorem dX4_firstOfQueue_16 : decode cX4_firstOfQueue 16 = .ok (.iconst 0, 1) := by decide +kernel
theorem dX4_firstOfQueue_17 : decode cX4_firstOfQueue 17 = .ok (.istore_n 3, 1) := by decide +kernel
theorem dX4_firstOfQueue_18 : decode cX4_firstOfQueue 18 = .ok (.iload_n 3, 1) := by decide +kernel
theorem dX4_firstOfQueue_19 : decode cX4_firstOfQueue 19 = .ok (.aload_n 0, 1) := by decide +kernel
theorem dX4_firstOfQueue_20 : decode cX4_firstOfQueue 20 = .ok (.getfield 28, 3) := by decide +kernel
theorem dX4_firstOfQueue_23 : decode cX4_firstOfQueue 23 = .ok (.getfield 125, 3) := by decide +kernel
theorem dX4_firstOfQueue_26 : decode cX4_firstOfQueue 26 = .ok (.if_icmp .ge 40, 3) := by decide +kernel
theorem dX4_firstOfQueue_29 : decode cX4_firstOfQueue 29 = .ok (.aload_n 0, 1) := by decide +kernel
theorem dX4_firstOfQueue_30 : decode cX4_firstOfQueue 30 = .ok (.getfield 28, 3) := by decide +kernel
theorem dX4_firstOfQueue_33 : decode cX4_firstOfQueue 33 = .ok (.getfield 128, 3) := by decide +kernel
theorem dX4_firstOfQueue_36 : decode cX4_firstOfQueue 36 = .ok (.iload_n 3, 1) := by decide +kernel
theorem dX4_firstOfQueue_37 : decode cX4_firstOfQueue 37 = .ok (.invokestatic 93, 3) := by decide +kernel
theorem dX4_firstOfQueue_40 : decode cX4_firstOfQueue 40 = .ok (.iload_n 1, 1) := by decide +kernel
theorem dX4_firstOfQueue_41 : decode cX4_firstOfQueue 41 = .ok (.if_icmp .ne 19, 3) := by decide +kernel
theorem dX4_firstOfQueue_44 : decode cX4_firstOfQueue 44 = .ok (.iload_n 2, 1) := by decide +kernel
theorem dX4_firstOfQueue_45 : decode cX4_firstOfQueue 45 = .ok (.iconst (-1), 1) := by decide +kernel
theorem dX4_firstOfQueue_46 : decode cX4_firstOfQueue 46 = .ok (.if_icmp .eq 12, 3) := by decide +kernel
theorem dX4_firstOfQueue_49 : decode cX4_firstOfQueue 49 = .ok (.aload_n 0, 1) := by decide +kernel
theorem dX4_firstOfQueue_50 : decode cX4_firstOfQueue 50 = .ok (.iload_n 3, 1) := by decide +kernel
theorem dX4_firstOfQueue_51 : decode cX4_firstOfQueue 51 = .ok (.iload_n 2, 1) := by decide +kernel
theorem dX4_firstOfQueue_52 : decode cX4_firstOfQueue 52 = .ok (.invokevirtual 131, 3) := by decide +kernel
theorem dX4_firstOfQueue_55 : decode cX4_firstOfQueue 55 = .ok (.ifCond .eq 5, 3) := by decide +kernel
theorem dX4_firstOfQueue_58 : decode cX4_firstOfQueue 58 = .ok (.iload_n 3, 1) := by decide +kernel
theorem dX4_firstOfQueue_59 : decode cX4_firstOfQueue 59 = .ok (.istore_n 2, 1) := by decide +kernel
theorem dX4_firstOfQueue_60 : decode cX4_firstOfQueue 60 = .ok (.iinc 3 1, 3) := by decide +kernel
theorem dX4_firstOfQueue_63 : decode cX4_firstOfQueue 63 = .ok (.goto (-45), 3) := by decide +kernel
theorem dX4_firstOfQueue_66 : decode cX4_firstOfQueue 66 = .ok (.iload_n 2, 1) := by decide +kernel
theorem dX4_firstOfQueue_67 : decode cX4_firstOfQueue 67 = .ok (.ireturn, 1) := by decide +kernel
theorem dX4_inQueue_0 : decode cX4_inQueue 0 = .ok (.iconst 0, 1) := by decide +kernel
theorem dX4_inQueue_1 : decode cX4_inQueue 1 = .ok (.istore_n 3, 1) := by decide +kernel
theorem dX4_inQueue_2 : decode cX4_inQueue 2 = .ok (.iload_n 3, 1) := by decide +kernel
theorem dX4_inQueue_3 : decode cX4_inQueue 3 = .ok (.aload_n 0, 1) := by decide +kernel
theorem dX4_inQueue_4 : decode cX4_inQueue 4 = .ok (.getfield 28, 3) := by decide +kernel
theorem dX4_inQueue_7 : decode cX4_inQueue 7 = .ok (.getfield 125, 3) := by decide +kernel
theorem dX4_inQueue_10 : decode cX4_inQueue 10 = .ok (.if_icmp .ge 35, 3) := by decide +kernel
theorem dX4_inQueue_13 : decode cX4_inQueue 13 = .ok (.aload_n 0, 1) := by decide +kernel
theorem dX4_inQueue_14 : decode cX4_inQueue 14 = .ok (.getfield 28, 3) := by decide +kernel
theorem dX4_inQueue_17 : decode cX4_inQueue 17 = .ok (.getfield 128, 3) := by decide +kernel
theorem dX4_inQueue_20 : decode cX4_inQueue 20 = .ok (.iload_n 3, 1) := by decide +kernel
theorem dX4_inQueue_21 : decode cX4_inQueue 21 = .ok (.invokestatic 93, 3) := by decide +kernel
theorem dX4_inQueue_24 : decode cX4_inQueue 24 = .ok (.iload_n 1, 1) := by decide +kernel
theorem dX4_inQueue_25 : decode cX4_inQueue 25 = .ok (.if_icmp .ne 14, 3) := by decide +kernel
theorem dX4_inQueue_28 : decode cX4_inQueue 28 = .ok (.aload_n 0, 1) := by decide +kernel
theorem dX4_inQueue_29 : decode cX4_inQueue 29 = .ok (.iload_n 3, 1) := by decide +kernel
theorem dX4_inQueue_30 : decode cX4_inQueue 30 = .ok (.invokevirtual 135, 3) := by decide +kernel
theorem dX4_inQueue_33 : decode cX4_inQueue 33 = .ok (.iload_n 2, 1) := by decide +kernel
theorem dX4_inQueue_34 : decode cX4_inQueue 34 = .ok (.if_icmp .ne 5, 3) := by decide +kernel
theorem dX4_inQueue_37 : decode cX4_inQueue 37 = .ok (.iload_n 3, 1) := by decide +kernel
theorem dX4_inQueue_38 : decode cX4_inQueue 38 = .ok (.ireturn, 1) := by decide +kernel
theorem dX4_inQueue_39 : decode cX4_inQueue 39 = .ok (.iinc 3 1, 3) := by decide +kernel
theorem dX4_inQueue_42 : decode cX4_inQueue 42 = .ok (.goto (-40), 3) := by decide +kernel
theorem dX4_inQueue_45 : decode cX4_inQueue 45 = .ok (.iconst (-1), 1) := by decide +kernel
theorem dX4_inQueue_46 : decode cX4_inQueue 46 = .ok (.ireturn, 1) := by decide +kernel
theorem dX4_placeInQueue_0 : decode cX4_placeInQueue 0 = .ok (.iconst 0, 1) := by decide +kernel
theorem dX4_placeInQueue_1 : decode cX4_placeInQueue 1 = .ok (.istore_n 2, 1) := by decide +kernel
theorem dX4_placeInQueue_2 : decode cX4_placeInQueue 2 = .ok (.iconst 0, 1) := by decide +kernel
theorem dX4_placeInQueue_3 : decode cX4_placeInQueue 3 = .ok (.istore_n 3, 1) := by decide +kernel
theorem dX4_placeInQueue_4 : decode cX4_placeInQueue 4 = .ok (.iload_n 3, 1) := by decide +kernel
theorem dX4_placeInQueue_5 : decode cX4_placeInQueue 5 = .ok (.aload_n 0, 1) := by decide +kernel
theorem dX4_placeInQueue_6 : decode cX4_placeInQueue 6 = .ok (.getfield 28, 3) := by decide +kernel
theorem dX4_placeInQueue_9 : decode cX4_placeInQueue 9 = .ok (.getfield 125, 3) := by decide +kernel
theorem dX4_placeInQueue_12 : decode cX4_placeInQueue 12 = .ok (.if_icmp .ge 46, 3) := by decide +kernel
theorem dX4_placeInQueue_15 : decode cX4_placeInQueue 15 = .ok (.aload_n 0, 1) := by decide +kernel
theorem dX4_placeInQueue_16 : decode cX4_placeInQueue 16 = .ok (.getfield 28, 3) := by decide +kernel
theorem dX4_placeInQueue_19 : decode cX4_placeInQueue 19 = .ok (.getfield 128, 3) := by decide +kernel
theorem dX4_placeInQueue_22 : decode cX4_placeInQueue 22 = .ok (.iload_n 3, 1) := by decide +kernel
theorem dX4_placeInQueue_23 : decode cX4_placeInQueue 23 = .ok (.invokestatic 93, 3) := by decide +kernel
theorem dX4_placeInQueue_26 : decode cX4_placeInQueue 26 = .ok (.aload_n 0, 1) := by decide +kernel
theorem dX4_placeInQueue_27 : decode cX4_placeInQueue 27 = .ok (.getfield 28, 3) := by decide +kernel
theorem dX4_placeInQueue_30 : decode cX4_placeInQueue 30 = .ok (.getfield 128, 3) := by decide +kernel
theorem dX4_placeInQueue_33 : decode cX4_placeInQueue 33 = .ok (.iload_n 1, 1) := by decide +kernel
theorem dX4_placeInQueue_34 : decode cX4_placeInQueue 34 = .ok (.invokestatic 93, 3) := by decide +kernel
theorem dX4_placeInQueue_37 : decode cX4_placeInQueue 37 = .ok (.if_icmp .ne 15, 3) := by decide +kernel
theorem dX4_placeInQueue_40 : decode cX4_placeInQueue 40 = .ok (.aload_n 0, 1) := by decide +kernel
theorem dX4_placeInQueue_41 : decode cX4_placeInQueue 41 = .ok (.iload_n 3, 1) := by decide +kernel
theorem dX4_placeInQueue_42 : decode cX4_placeInQueue 42 = .ok (.iload_n 1, 1) := by decide +kernel
theorem dX4_placeInQueue_43 : decode cX4_placeInQueue 43 = .ok (.invokevirtual 131, 3) := by decide +kernel
theorem dX4_placeInQueue_46 : decode cX4_placeInQueue 46 = .ok (.ifCond .eq 6, 3) := by decide +kernel
theorem dX4_placeInQueue_49 : decode cX4_placeInQueue 49 = .ok (.iinc 2 1, 3) := by decide +kernel
theorem dX4_placeInQueue_52 : decode cX4_placeInQueue 52 = .ok (.iinc 3 1, 3) := by decide +kernel
theorem dX4_placeInQueue_55 : decode cX4_placeInQueue 55 = .ok (.goto (-51), 3) := by decide +kernel
theorem dX4_placeInQueue_58 : decode cX4_placeInQueue 58 = .ok (.iload_n 2, 1) := by decide +kernel
theorem dX4_placeInQueue_59 : decode cX4_placeInQueue 59 = .ok (.ireturn, 1) := by decide +kernel
theorem dX5_init_0 : decode cX5_init 0 = .ok (.aload_n 0, 1) := by decide +kernel
theorem dX5_init_1 : decode cX5_init 1 = .ok (.invokespecial 3, 3) := by decide +kernel
theorem dX5_init_4 : decode cX5_init 4 = .ok (.aload_n 0, 1) := by decide +kernel
theorem dX5_init_5 : decode cX5_init 5 = .ok (.iconst 0, 1) := by decide +kernel
theorem dX5_init_6 : decode cX5_init 6 = .ok (.putfield 9, 3) := by decide +kernel
theorem dX5_init_9 : decode cX5_init 9 = .ok (.aload_n 0, 1) := by decide +kernel
theorem dX5_init_10 : decode cX5_init 10 = .ok (.iconst 0, 1) := by decide +kernel
theorem dX5_init_11 : decode cX5_init 11 = .ok (.putfield 15, 3) := by decide +kernel
theorem dX5_init_14 : decode cX5_init 14 = .ok (.aload_n 0, 1) := by decide +kernel
theorem dX5_init_15 : decode cX5_init 15 = .ok (.iconst 3, 1) := by decide +kernel
theorem dX5_init_16 : decode cX5_init 16 = .ok (.newarray .int, 2) := by decide +kernel
theorem dX5_init_18 : decode cX5_init 18 = .ok (.putfield 18, 3) := by decide +kernel
theorem dX5_init_21 : decode cX5_init 21 = .ok (.aload_n 0, 1) := by decide +kernel
theorem dX5_init_22 : decode cX5_init 22 = .ok (.sipush 600, 3) := by decide +kernel
theorem dX5_init_25 : decode cX5_init 25 = .ok (.newarray .int, 2) := by decide +kernel
theorem dX5_init_27 : decode cX5_init 27 = .ok (.putfield 22, 3) := by decide +kernel
theorem dX5_init_30 : decode cX5_init 30 = .ok (.aload_n 0, 1) := by decide +kernel
theorem dX5_init_31 : decode cX5_init 31 = .ok (.sipush 600, 3) := by decide +kernel
theorem dX5_init_34 : decode cX5_init 34 = .ok (.newarray .int, 2) := by decide +kernel
theorem dX5_init_36 : decode cX5_init 36 = .ok (.putfield 25, 3) := by decide +kernel
theorem dX5_init_39 : decode cX5_init 39 = .ok (.aload_n 0, 1) := by decide +kernel
theorem dX5_init_40 : decode cX5_init 40 = .ok (.iconst 5, 1) := by decide +kernel
theorem dX5_init_41 : decode cX5_init 41 = .ok (.newarray .int, 2) := by decide +kernel
theorem dX5_init_43 : decode cX5_init 43 = .ok (.putfield 28, 3) := by decide +kernel
theorem dX5_init_46 : decode cX5_init 46 = .ok (.return_, 1) := by decide +kernel
theorem dX5_addPart_0 : decode cX5_addPart 0 = .ok (.aload_n 0, 1) := by decide +kernel
theorem dX5_addPart_1 : decode cX5_addPart 1 = .ok (.getfield 22, 3) := by decide +kernel
theorem dX5_addPart_4 : decode cX5_addPart 4 = .ok (.aload_n 0, 1) := by decide +kernel
theorem dX5_addPart_5 : decode cX5_addPart 5 = .ok (.getfield 15, 3) := by decide +kernel
theorem dX5_addPart_8 : decode cX5_addPart 8 = .ok (.iload_n 1, 1) := by decide +kernel
theorem dX5_addPart_9 : decode cX5_addPart 9 = .ok (.invokestatic 31, 3) := by decide +kernel
theorem dX5_addPart_12 : decode cX5_addPart 12 = .ok (.aload_n 0, 1) := by decide +kernel
theorem dX5_addPart_13 : decode cX5_addPart 13 = .ok (.getfield 25, 3) := by decide +kernel
theorem dX5_addPart_16 : decode cX5_addPart 16 = .ok (.aload_n 0, 1) := by decide +kernel
theorem dX5_addPart_17 : decode cX5_addPart 17 = .ok (.getfield 15, 3) := by decide +kernel
theorem dX5_addPart_20 : decode cX5_addPart 20 = .ok (.iload_n 2, 1) := by decide +kernel
theorem dX5_addPart_21 : decode cX5_addPart 21 = .ok (.invokestatic 31, 3) := by decide +kernel
theorem dX5_addPart_24 : decode cX5_addPart 24 = .ok (.aload_n 0, 1) := by decide +kernel
theorem dX5_addPart_25 : decode cX5_addPart 25 = .ok (.dup, 1) := by decide +kernel
theorem dX5_addPart_26 : decode cX5_addPart 26 = .ok (.getfield 15, 3) := by decide +kernel
theorem dX5_addPart_29 : decode cX5_addPart 29 = .ok (.iconst 1, 1) := by decide +kernel
theorem dX5_addPart_30 : decode cX5_addPart 30 = .ok (.iadd, 1) := by decide +kernel
theorem dX5_addPart_31 : decode cX5_addPart 31 = .ok (.putfield 15, 3) := by decide +kernel
theorem dX5_addPart_34 : decode cX5_addPart 34 = .ok (.return_, 1) := by decide +kernel
theorem dX5_endTest_0 : decode cX5_endTest 0 = .ok (.aload_n 0, 1) := by decide +kernel
theorem dX5_endTest_1 : decode cX5_endTest 1 = .ok (.getfield 18, 3) := by decide +kernel
theorem dX5_endTest_4 : decode cX5_endTest 4 = .ok (.aload_n 0, 1) := by decide +kernel
theorem dX5_endTest_5 : decode cX5_endTest 5 = .ok (.getfield 9, 3) := by decide +kernel
theorem dX5_endTest_8 : decode cX5_endTest 8 = .ok (.aload_n 0, 1) := by decide +kernel
theorem dX5_endTest_9 : decode cX5_endTest 9 = .ok (.getfield 15, 3) := by decide +kernel
theorem dX5_endTest_12 : decode cX5_endTest 12 = .ok (.invokestatic 31, 3) := by decide +kernel
theorem dX5_endTest_15 : decode cX5_endTest 15 = .ok (.aload_n 0, 1) := by decide +kernel
theorem dX5_endTest_16 : decode cX5_endTest 16 = .ok (.dup, 1) := by decide +kernel
theorem dX5_endTest_17 : decode cX5_endTest 17 = .ok (.getfield 9, 3) := by decide +kernel
theorem dX5_endTest_20 : decode cX5_endTest 20 = .ok (.iconst 1, 1) := by decide +kernel
theorem dX5_endTest_21 : decode cX5_endTest 21 = .ok (.iadd, 1) := by decide +kernel
theorem dX5_endTest_22 : decode cX5_endTest 22 = .ok (.putfield 9, 3) := by decide +kernel
theorem dX5_endTest_25 : decode cX5_endTest 25 = .ok (.return_, 1) := by decide +kernel
theorem dX5_holds_0 : decode cX5_holds 0 = .ok (.iload_n 1, 1) := by decide +kernel
theorem dX5_holds_1 : decode cX5_holds 1 = .ok (.ifCond .ne 7, 3) := by decide +kernel
theorem dX5_holds_4 : decode cX5_holds 4 = .ok (.iconst 0, 1) := by decide +kernel
theorem dX5_holds_5 : decode cX5_holds 5 = .ok (.goto 13, 3) := by decide +kernel
theorem dX5_holds_8 : decode cX5_holds 8 = .ok (.aload_n 0, 1) := by decide +kernel
theorem dX5_holds_9 : decode cX5_holds 9 = .ok (.getfield 18, 3) := by decide +kernel
theorem dX5_holds_12 : decode cX5_holds 12 = .ok (.iload_n 1, 1) := by decide +kernel
theorem dX5_holds_13 : decode cX5_holds 13 = .ok (.iconst 1, 1) := by decide +kernel
theorem dX5_holds_14 : decode cX5_holds 14 = .ok (.isub, 1) := by decide +kernel
theorem dX5_holds_15 : decode cX5_holds 15 = .ok (.invokestatic 35, 3) := by decide +kernel
theorem dX5_holds_18 : decode cX5_holds 18 = .ok (.istore_n 2, 1) := by decide +kernel
theorem dX5_holds_19 : decode cX5_holds 19 = .ok (.aload_n 0, 1) := by decide +kernel
theorem dX5_holds_20 : decode cX5_holds 20 = .ok (.getfield 18, 3) := by decide +kernel
theorem dX5_holds_23 : decode cX5_holds 23 = .ok (.iload_n 1, 1) := by decide +kernel
theorem dX5_holds_24 : decode cX5_holds 24 = .ok (.invokestatic 35, 3) := by decide +kernel
theorem dX5_holds_27 : decode cX5_holds 27 = .ok (.istore_n 3, 1) := by decide +kernel
theorem dX5_holds_28 : decode cX5_holds 28 = .ok (.iconst 0, 1) := by decide +kernel
theorem dX5_holds_29 : decode cX5_holds 29 = .ok (.istore 4, 2) := by decide +kernel
theorem dX5_holds_31 : decode cX5_holds 31 = .ok (.iload_n 2, 1) := by decide +kernel
theorem dX5_holds_32 : decode cX5_holds 32 = .ok (.istore 5, 2) := by decide +kernel
theorem dX5_holds_34 : decode cX5_holds 34 = .ok (.iload 5, 2) := by decide +kernel
theorem dX5_holds_36 : decode cX5_holds 36 = .ok (.iload_n 3, 1) := by decide +kernel
theorem dX5_holds_37 : decode cX5_holds 37 = .ok (.if_icmp .ge 105, 3) := by decide +kernel
theorem dX5_holds_40 : decode cX5_holds 40 = .ok (.aload_n 0, 1) := by decide +kernel
theorem dX5_holds_41 : decode cX5_holds 41 = .ok (.getfield 22, 3) := by decide +kernel
theorem dX5_holds_44 : decode cX5_holds 44 = .ok (.iload 5, 2) := by decide +kernel
theorem dX5_holds_46 : decode cX5_holds 46 = .ok (.invokestatic 35, 3) := by decide +kernel
theorem dX5_holds_49 : decode cX5_holds 49 = .ok (.istore 6, 2) := by decide +kernel
theorem dX5_holds_51 : decode cX5_holds 51 = .ok (.iload 4, 2) := by decide +kernel
theorem dX5_holds_53 : decode cX5_holds 53 = .ok (.iconst 1, 1) := by decide +kernel
theorem dX5_holds_54 : decode cX5_holds 54 = .ok (.iand, 1) := by decide +kernel
theorem dX5_holds_55 : decode cX5_holds 55 = .ok (.istore 7, 2) := by decide +kernel
theorem dX5_holds_57 : decode cX5_holds 57 = .ok (.iload 6, 2) := by decide +kernel
theorem dX5_holds_59 : decode cX5_holds 59 = .ok (.bipush 15, 2) := by decide +kernel
theorem dX5_holds_61 : decode cX5_holds 61 = .ok (.if_icmp .ne 12, 3) := by decide +kernel
theorem dX5_holds_64 : decode cX5_holds 64 = .ok (.iload 4, 2) := by decide +kernel
theorem dX5_holds_66 : decode cX5_holds 66 = .ok (.iconst 1, 1) := by decide +kernel
theorem dX5_holds_67 : decode cX5_holds 67 = .ok (.ixor, 1) := by decide +kernel
theorem dX5_holds_68 : decode cX5_holds 68 = .ok (.istore 4, 2) := by decide +kernel
theorem dX5_holds_70 : decode cX5_holds 70 = .ok (.goto 66, 3) := by decide +kernel
theorem dX5_holds_73 : decode cX5_holds 73 = .ok (.iload 6, 2) := by decide +kernel
theorem dX5_holds_75 : decode cX5_holds 75 = .ok (.bipush 16, 2) := by decide +kernel
theorem dX5_holds_77 : decode cX5_holds 77 = .ok (.if_icmp .ne 18, 3) := by decide +kernel
theorem dX5_holds_80 : decode cX5_holds 80 = .ok (.iload 4, 2) := by decide +kernel
theorem dX5_holds_82 : decode cX5_holds 82 = .ok (.iconst 1, 1) := by decide +kernel
theorem dX5_holds_83 : decode cX5_holds 83 = .ok (.ishr, 1) := by decide +kernel
theorem dX5_holds_84 : decode cX5_holds 84 = .ok (.iload 7, 2) := by decide +kernel
theorem dX5_holds_86 : decode cX5_holds 86 = .ok (.bipush (-2), 2) := by decide +kernel
theorem dX5_holds_88 : decode cX5_holds 88 = .ok (.ior, 1) := by decide +kernel
theorem dX5_holds_89 : decode cX5_holds 89 = .ok (.iand, 1) := by decide +kernel
theorem dX5_holds_90 : decode cX5_holds 90 = .ok (.istore 4, 2) := by decide +kernel
theorem dX5_holds_92 : decode cX5_holds 92 = .ok (.goto 44, 3) := by decide +kernel
theorem dX5_holds_95 : decode cX5_holds 95 = .ok (.iload 6, 2) := by decide +kernel
theorem dX5_holds_97 : decode cX5_holds 97 = .ok (.bipush 17, 2) := by decide +kernel
theorem dX5_holds_99 : decode cX5_holds 99 = .ok (.if_icmp .ne 15, 3) := by decide +kernel
theorem dX5_holds_102 : decode cX5_holds 102 = .ok (.iload 4, 2) := by decide +kernel
theorem dX5_holds_104 : decode cX5_holds 104 = .ok (.iconst 1, 1) := by decide +kernel
theorem dX5_holds_105 : decode cX5_holds 105 = .ok (.ishr, 1) := by decide +kernel
theorem dX5_holds_106 : decode cX5_holds 106 = .ok (.iload 7, 2) := by decide +kernel
theorem dX5_holds_108 : decode cX5_holds 108 = .ok (.ior, 1) := by decide +kernel
theorem dX5_holds_109 : decode cX5_holds 109 = .ok (.istore 4, 2) := by decide +kernel
theorem dX5_holds_111 : decode cX5_holds 111 = .ok (.goto 25, 3) := by decide +kernel
theorem dX5_holds_114 : decode cX5_holds 114 = .ok (.iload 4, 2) := by decide +kernel
theorem dX5_holds_116 : decode cX5_holds 116 = .ok (.iconst 1, 1) := by decide +kernel
theorem dX5_holds_117 : decode cX5_holds 117 = .ok (.ishl, 1) := by decide +kernel
theorem dX5_holds_118 : decode cX5_holds 118 = .ok (.aload_n 0, 1) := by decide +kernel
theorem dX5_holds_119 : decode cX5_holds 119 = .ok (.iload 6, 2) := by decide +kernel
theorem dX5_holds_121 : decode cX5_holds 121 = .ok (.aload_n 0, 1) := by decide +kernel
theorem dX5_holds_122 : decode cX5_holds 122 = .ok (.getfield 25, 3) := by decide +kernel
theorem dX5_holds_125 : decode cX5_holds 125 = .ok (.iload 5, 2) := by decide +kernel
theorem dX5_holds_127 : decode cX5_holds 127 = .ok (.invokestatic 35, 3) := by decide +kernel
theorem dX5_holds_130 : decode cX5_holds 130 = .ok (.invokevirtual 39, 3) := by decide +kernel
theorem dX5_holds_133 : decode cX5_holds 133 = .ok (.ior, 1) := by decide +kernel
theorem dX5_holds_134 : decode cX5_holds 134 = .ok (.istore 4, 2) := by decide +kernel
theorem dX5_holds_136 : decode cX5_holds 136 = .ok (.iinc 5 1, 3) := by decide +kernel
theorem dX5_holds_139 : decode cX5_holds 139 = .ok (.goto (-105), 3) := by decide +kernel
theorem dX5_holds_142 : decode cX5_holds 142 = .ok (.iload 4, 2) := by decide +kernel
theorem dX5_holds_144 : decode cX5_holds 144 = .ok (.iconst 1, 1) := by decide +kernel
theorem dX5_holds_145 : decode cX5_holds 145 = .ok (.iand, 1) := by decide +kernel
theorem dX5_holds_146 : decode cX5_holds 146 = .ok (.iconst 1, 1) := by decide +kernel
theorem dX5_holds_147 : decode cX5_holds 147 = .ok (.if_icmp .ne 7, 3) := by decide +kernel
theorem dX5_holds_150 : decode cX5_holds 150 = .ok (.iconst 1, 1) := by decide +kernel
theorem dX5_holds_151 : decode cX5_holds 151 = .ok (.goto 4, 3) := by decide +kernel
theorem dX5_holds_154 : decode cX5_holds 154 = .ok (.iconst 0, 1) := by decide +kernel
theorem dX5_holds_155 : decode cX5_holds 155 = .ok (.ireturn, 1) := by decide +kernel
theorem dX5_compare_0 : decode cX5_compare 0 = .ok (.iload_n 1, 1) := by decide +kernel
theorem dX5_compare_1 : decode cX5_compare 1 = .ok (.iconst 3, 1) := by decide +kernel
theorem dX5_compare_2 : decode cX5_compare 2 = .ok (.idiv, 1) := by decide +kernel
theorem dX5_compare_3 : decode cX5_compare 3 = .ok (.istore_n 3, 1) := by decide +kernel
theorem dX5_compare_4 : decode cX5_compare 4 = .ok (.iload_n 3, 1) := by decide +kernel
theorem dX5_compare_5 : decode cX5_compare 5 = .ok (.ifCond .lt 21, 3) := by decide +kernel
theorem dX5_compare_8 : decode cX5_compare 8 = .ok (.iload_n 3, 1) := by decide +kernel
theorem dX5_compare_9 : decode cX5_compare 9 = .ok (.aload_n 0, 1) := by decide +kernel
theorem dX5_compare_10 : decode cX5_compare 10 = .ok (.getfield 28, 3) := by decide +kernel
theorem dX5_compare_13 : decode cX5_compare 13 = .ok (.arraylength, 1) := by decide +kernel
theorem dX5_compare_14 : decode cX5_compare 14 = .ok (.if_icmp .ge 12, 3) := by decide +kernel
theorem dX5_compare_17 : decode cX5_compare 17 = .ok (.aload_n 0, 1) := by decide +kernel
theorem dX5_compare_18 : decode cX5_compare 18 = .ok (.getfield 28, 3) := by decide +kernel
theorem dX5_compare_21 : decode cX5_compare 21 = .ok (.iload_n 3, 1) := by decide +kernel
theorem dX5_compare_22 : decode cX5_compare 22 = .ok (.iaload, 1) := by decide +kernel
theorem dX5_compare_23 : decode cX5_compare 23 = .ok (.goto 4, 3) := by decide +kernel
theorem dX5_compare_26 : decode cX5_compare 26 = .ok (.iconst 0, 1) := by decide +kernel
theorem dX5_compare_27 : decode cX5_compare 27 = .ok (.istore 4, 2) := by decide +kernel
theorem dX5_compare_29 : decode cX5_compare 29 = .ok (.iload_n 1, 1) := by decide +kernel
theorem dX5_compare_30 : decode cX5_compare 30 = .ok (.iconst 3, 1) := by decide +kernel
theorem dX5_compare_31 : decode cX5_compare 31 = .ok (.irem, 1) := by decide +kernel
theorem dX5_compare_32 : decode cX5_compare 32 = .ok (.istore 5, 2) := by decide +kernel
theorem dX5_compare_34 : decode cX5_compare 34 = .ok (.iload 5, 2) := by decide +kernel
theorem dX5_compare_36 : decode cX5_compare 36 = .ok (.ifCond .ne 17, 3) := by decide +kernel
theorem dX5_compare_39 : decode cX5_compare 39 = .ok (.iload 4, 2) := by decide +kernel
theorem dX5_compare_41 : decode cX5_compare 41 = .ok (.iload_n 2, 1) := by decide +kernel
theorem dX5_compare_42 : decode cX5_compare 42 = .ok (.if_icmp .ge 7, 3) := by decide +kernel
theorem dX5_compare_45 : decode cX5_compare 45 = .ok (.iconst 1, 1) := by decide +kernel
theorem dX5_compare_46 : decode cX5_compare 46 = .ok (.goto 38, 3) := by decide +kernel
theorem dX5_compare_49 : decode cX5_compare 49 = .ok (.iconst 0, 1) := by decide +kernel
theorem dX5_compare_50 : decode cX5_compare 50 = .ok (.goto 34, 3) := by decide +kernel
theorem dX5_compare_53 : decode cX5_compare 53 = .ok (.iload 5, 2) := by decide +kernel
theorem dX5_compare_55 : decode cX5_compare 55 = .ok (.iconst 1, 1) := by decide +kernel
theorem dX5_compare_56 : decode cX5_compare 56 = .ok (.if_icmp .ne 17, 3) := by decide +kernel
theorem dX5_compare_59 : decode cX5_compare 59 = .ok (.iload 4, 2) := by decide +kernel
theorem dX5_compare_61 : decode cX5_compare 61 = .ok (.iload_n 2, 1) := by decide +kernel
theorem dX5_compare_62 : decode cX5_compare 62 = .ok (.if_icmp .le 7, 3) := by decide +kernel
theorem dX5_compare_65 : decode cX5_compare 65 = .ok (.iconst 1, 1) := by decide +kernel
theorem dX5_compare_66 : decode cX5_compare 66 = .ok (.goto 18, 3) := by decide +kernel
theorem dX5_compare_69 : decode cX5_compare 69 = .ok (.iconst 0, 1) := by decide +kernel
theorem dX5_compare_70 : decode cX5_compare 70 = .ok (.goto 14, 3) := by decide +kernel
theorem dX5_compare_73 : decode cX5_compare 73 = .ok (.iload 4, 2) := by decide +kernel
theorem dX5_compare_75 : decode cX5_compare 75 = .ok (.iload_n 2, 1) := by decide +kernel
theorem dX5_compare_76 : decode cX5_compare 76 = .ok (.if_icmp .ne 7, 3) := by decide +kernel
theorem dX5_compare_79 : decode cX5_compare 79 = .ok (.iconst 1, 1) := by decide +kernel
theorem dX5_compare_80 : decode cX5_compare 80 = .ok (.goto 4, 3) := by decide +kernel
theorem dX5_compare_83 : decode cX5_compare 83 = .ok (.iconst 0, 1) := by decide +kernel
theorem dX5_compare_84 : decode cX5_compare 84 = .ok (.istore 6, 2) := by decide +kernel
theorem dX5_compare_86 : decode cX5_compare 86 = .ok (.iload 6, 2) := by decide +kernel
theorem dX5_compare_88 : decode cX5_compare 88 = .ok (.ifCond .eq 7, 3) := by decide +kernel
theorem dX5_compare_91 : decode cX5_compare 91 = .ok (.iconst 1, 1) := by decide +kernel
theorem dX5_compare_92 : decode cX5_compare 92 = .ok (.goto 4, 3) := by decide +kernel
theorem dX5_compare_95 : decode cX5_compare 95 = .ok (.iconst 0, 1) := by decide +kernel
theorem dX5_compare_96 : decode cX5_compare 96 = .ok (.ireturn, 1) := by decide +kernel
theorem dX6_init_0 : decode cX6_init 0 = .ok (.aload_n 0, 1) := by decide +kernel
theorem dX6_init_1 : decode cX6_init 1 = .ok (.invokespecial 3, 3) := by decide +kernel
theorem dX6_init_4 : decode cX6_init 4 = .ok (.aload_n 0, 1) := by decide +kernel
theorem dX6_init_5 : decode cX6_init 5 = .ok (.iconst 0, 1) := by decide +kernel
theorem dX6_init_6 : decode cX6_init 6 = .ok (.putfield 9, 3) := by decide +kernel
theorem dX6_init_9 : decode cX6_init 9 = .ok (.aload_n 0, 1) := by decide +kernel
theorem dX6_init_10 : decode cX6_init 10 = .ok (.iload_n 1, 1) := by decide +kernel
theorem dX6_init_11 : decode cX6_init 11 = .ok (.iconst 0, 1) := by decide +kernel
theorem dX6_init_12 : decode cX6_init 12 = .ok (.invokestatic 15, 3) := by decide +kernel
theorem dX6_init_15 : decode cX6_init 15 = .ok (.newarray .byte, 2) := by decide +kernel
theorem dX6_init_17 : decode cX6_init 17 = .ok (.putfield 21, 3) := by decide +kernel
theorem dX6_init_20 : decode cX6_init 20 = .ok (.return_, 1) := by decide +kernel
theorem dX6_byteAt_0 : decode cX6_byteAt 0 = .ok (.iload_n 1, 1) := by decide +kernel
theorem dX6_byteAt_1 : decode cX6_byteAt 1 = .ok (.ifCond .lt 33, 3) := by decide +kernel
theorem dX6_byteAt_4 : decode cX6_byteAt 4 = .ok (.iload_n 1, 1) := by decide +kernel
theorem dX6_byteAt_5 : decode cX6_byteAt 5 = .ok (.aload_n 0, 1) := by decide +kernel
theorem dX6_byteAt_6 : decode cX6_byteAt 6 = .ok (.getfield 9, 3) := by decide +kernel
theorem dX6_byteAt_9 : decode cX6_byteAt 9 = .ok (.if_icmp .ge 25, 3) := by decide +kernel
theorem dX6_byteAt_12 : decode cX6_byteAt 12 = .ok (.iload_n 1, 1) := by decide +kernel
theorem dX6_byteAt_13 : decode cX6_byteAt 13 = .ok (.aload_n 0, 1) := by decide +kernel
theorem dX6_byteAt_14 : decode cX6_byteAt 14 = .ok (.getfield 21, 3) := by decide +kernel
theorem dX6_byteAt_17 : decode cX6_byteAt 17 = .ok (.arraylength, 1) := by decide +kernel
theorem dX6_byteAt_18 : decode cX6_byteAt 18 = .ok (.if_icmp .ge 16, 3) := by decide +kernel
theorem dX6_byteAt_21 : decode cX6_byteAt 21 = .ok (.aload_n 0, 1) := by decide +kernel
theorem dX6_byteAt_22 : decode cX6_byteAt 22 = .ok (.getfield 21, 3) := by decide +kernel
theorem dX6_byteAt_25 : decode cX6_byteAt 25 = .ok (.iload_n 1, 1) := by decide +kernel
theorem dX6_byteAt_26 : decode cX6_byteAt 26 = .ok (.baload, 1) := by decide +kernel
theorem dX6_byteAt_27 : decode cX6_byteAt 27 = .ok (.sipush 255, 3) := by decide +kernel
theorem dX6_byteAt_30 : decode cX6_byteAt 30 = .ok (.iand, 1) := by decide +kernel
theorem dX6_byteAt_31 : decode cX6_byteAt 31 = .ok (.goto 4, 3) := by decide +kernel
theorem dX6_byteAt_34 : decode cX6_byteAt 34 = .ok (.iconst (-1), 1) := by decide +kernel
theorem dX6_byteAt_35 : decode cX6_byteAt 35 = .ok (.ireturn, 1) := by decide +kernel
theorem dX6_putByte_0 : decode cX6_putByte 0 = .ok (.aload_n 0, 1) := by decide +kernel
theorem dX6_putByte_1 : decode cX6_putByte 1 = .ok (.getfield 9, 3) := by decide +kernel
theorem dX6_putByte_4 : decode cX6_putByte 4 = .ok (.ifCond .lt 36, 3) := by decide +kernel
theorem dX6_putByte_7 : decode cX6_putByte 7 = .ok (.aload_n 0, 1) := by decide +kernel
theorem dX6_putByte_8 : decode cX6_putByte 8 = .ok (.getfield 9, 3) := by decide +kernel
theorem dX6_putByte_11 : decode cX6_putByte 11 = .ok (.aload_n 0, 1) := by decide +kernel
theorem dX6_putByte_12 : decode cX6_putByte 12 = .ok (.getfield 21, 3) := by decide +kernel
theorem dX6_putByte_15 : decode cX6_putByte 15 = .ok (.arraylength, 1) := by decide +kernel
theorem dX6_putByte_16 : decode cX6_putByte 16 = .ok (.if_icmp .ge 24, 3) := by decide +kernel
theorem dX6_putByte_19 : decode cX6_putByte 19 = .ok (.aload_n 0, 1) := by decide +kernel
theorem dX6_putByte_20 : decode cX6_putByte 20 = .ok (.getfield 21, 3) := by decide +kernel
theorem dX6_putByte_23 : decode cX6_putByte 23 = .ok (.aload_n 0, 1) := by decide +kernel
theorem dX6_putByte_24 : decode cX6_putByte 24 = .ok (.getfield 9, 3) := by decide +kernel
theorem dX6_putByte_27 : decode cX6_putByte 27 = .ok (.iload_n 1, 1) := by decide +kernel
theorem dX6_putByte_28 : decode cX6_putByte 28 = .ok (.i2b, 1) := by decide +kernel
theorem dX6_putByte_29 : decode cX6_putByte 29 = .ok (.bastore, 1) := by decide +kernel
theorem dX6_putByte_30 : decode cX6_putByte 30 = .ok (.aload_n 0, 1) := by decide +kernel
theorem dX6_putByte_31 : decode cX6_putByte 31 = .ok (.dup, 1) := by decide +kernel
theorem dX6_putByte_32 : decode cX6_putByte 32 = .ok (.getfield 9, 3) := by decide +kernel
theorem dX6_putByte_35 : decode cX6_putByte 35 = .ok (.iconst 1, 1) := by decide +kernel
theorem dX6_putByte_36 : decode cX6_putByte 36 = .ok (.iadd, 1) := by decide +kernel
theorem dX6_putByte_37 : decode cX6_putByte 37 = .ok (.putfield 9, 3) := by decide +kernel
theorem dX6_putByte_40 : decode cX6_putByte 40 = .ok (.return_, 1) := by decide +kernel
theorem dX6_separate_0 : decode cX6_separate 0 = .ok (.iload_n 1, 1) := by decide +kernel
theorem dX6_separate_1 : decode cX6_separate 1 = .ok (.ifCond .le 9, 3) := by decide +kernel
theorem dX6_separate_4 : decode cX6_separate 4 = .ok (.aload_n 0, 1) := by decide +kernel
theorem dX6_separate_5 : decode cX6_separate 5 = .ok (.bipush 59, 2) := by decide +kernel
theorem dX6_separate_7 : decode cX6_separate 7 = .ok (.invokevirtual 25, 3) := by decide +kernel
theorem dX6_separate_10 : decode cX6_separate 10 = .ok (.return_, 1) := by decide +kernel
theorem dX6_putNumber_0 : decode cX6_putNumber 0 = .ok (.ldc 29, 2) := by decide +kernel
theorem dX6_putNumber_2 : decode cX6_putNumber 2 = .ok (.istore_n 2, 1) := by decide +kernel
theorem dX6_putNumber_3 : decode cX6_putNumber 3 = .ok (.iload_n 2, 1) := by decide +kernel
theorem dX6_putNumber_4 : decode cX6_putNumber 4 = .ok (.ifCond .le 34, 3) := by decide +kernel
theorem dX6_putNumber_7 : decode cX6_putNumber 7 = .ok (.iload_n 1, 1) := by decide +kernel
theorem dX6_putNumber_8 : decode cX6_putNumber 8 = .ok (.iload_n 2, 1) := by decide +kernel
theorem dX6_putNumber_9 : decode cX6_putNumber 9 = .ok (.if_icmp .ge 8, 3) := by decide +kernel
theorem dX6_putNumber_12 : decode cX6_putNumber 12 = .ok (.iload_n 2, 1) := by decide +kernel
theorem dX6_putNumber_13 : decode cX6_putNumber 13 = .ok (.iconst 1, 1) := by decide +kernel
theorem dX6_putNumber_14 : decode cX6_putNumber 14 = .ok (.if_icmp .ne 16, 3) := by decide +kernel
theorem dX6_putNumber_17 : decode cX6_putNumber 17 = .ok (.aload_n 0, 1) := by decide +kernel
theorem dX6_putNumber_18 : decode cX6_putNumber 18 = .ok (.bipush 48, 2) := by decide +kernel
theorem dX6_putNumber_20 : decode cX6_putNumber 20 = .ok (.iload_n 1, 1) := by decide +kernel
theorem dX6_putNumber_21 : decode cX6_putNumber 21 = .ok (.iload_n 2, 1) := by decide +kernel
theorem dX6_putNumber_22 : decode cX6_putNumber 22 = .ok (.idiv, 1) := by decide +kernel
theorem dX6_putNumber_23 : decode cX6_putNumber 23 = .ok (.bipush 10, 2) := by decide +kernel
theorem dX6_putNumber_25 : decode cX6_putNumber 25 = .ok (.irem, 1) := by decide +kernel
theorem dX6_putNumber_26 : decode cX6_putNumber 26 = .ok (.iadd, 1) := by decide +kernel
theorem dX6_putNumber_27 : decode cX6_putNumber 27 = .ok (.invokevirtual 25, 3) := by decide +kernel
theorem dX6_putNumber_30 : decode cX6_putNumber 30 = .ok (.iload_n 2, 1) := by decide +kernel
theorem dX6_putNumber_31 : decode cX6_putNumber 31 = .ok (.bipush 10, 2) := by decide +kernel
theorem dX6_putNumber_33 : decode cX6_putNumber 33 = .ok (.idiv, 1) := by decide +kernel
theorem dX6_putNumber_34 : decode cX6_putNumber 34 = .ok (.istore_n 2, 1) := by decide +kernel
theorem dX6_putNumber_35 : decode cX6_putNumber 35 = .ok (.goto (-32), 3) := by decide +kernel
theorem dX6_putNumber_38 : decode cX6_putNumber 38 = .ok (.return_, 1) := by decide +kernel
theorem dX7_run_0 : decode cX7_run 0 = .ok (.aload_n 1, 1) := by decide +kernel
theorem dX7_run_1 : decode cX7_run 1 = .ok (.getfield 9, 3) := by decide +kernel
theorem dX7_run_4 : decode cX7_run 4 = .ok (.getfield 15, 3) := by decide +kernel
theorem dX7_run_7 : decode cX7_run 7 = .ok (.iload_n 3, 1) := by decide +kernel
theorem dX7_run_8 : decode cX7_run 8 = .ok (.invokestatic 21, 3) := by decide +kernel
theorem dX7_run_11 : decode cX7_run 11 = .ok (.istore 4, 2) := by decide +kernel
theorem dX7_run_13 : decode cX7_run 13 = .ok (.iconst 0, 1) := by decide +kernel
theorem dX7_run_14 : decode cX7_run 14 = .ok (.istore 5, 2) := by decide +kernel
theorem dX7_run_16 : decode cX7_run 16 = .ok (.iload 5, 2) := by decide +kernel
theorem dX7_run_18 : decode cX7_run 18 = .ok (.iload_n 2, 1) := by decide +kernel
theorem dX7_run_19 : decode cX7_run 19 = .ok (.if_icmp .ge 14, 3) := by decide +kernel
theorem dX7_run_22 : decode cX7_run 22 = .ok (.aload_n 0, 1) := by decide +kernel
theorem dX7_run_23 : decode cX7_run 23 = .ok (.aload_n 1, 1) := by decide +kernel
theorem dX7_run_24 : decode cX7_run 24 = .ok (.invokestatic 25, 3) := by decide +kernel
theorem dX7_run_27 : decode cX7_run 27 = .ok (.iinc 5 1, 3) := by decide +kernel
theorem dX7_run_30 : decode cX7_run 30 = .ok (.goto (-14), 3) := by decide +kernel
theorem dX7_run_33 : decode cX7_run 33 = .ok (.aload_n 1, 1) := by decide +kernel
theorem dX7_run_34 : decode cX7_run 34 = .ok (.getfield 9, 3) := by decide +kernel
theorem dX7_run_37 : decode cX7_run 37 = .ok (.getfield 15, 3) := by decide +kernel
theorem dX7_run_40 : decode cX7_run 40 = .ok (.iload_n 3, 1) := by decide +kernel
theorem dX7_run_41 : decode cX7_run 41 = .ok (.invokestatic 21, 3) := by decide +kernel
theorem dX7_run_44 : decode cX7_run 44 = .ok (.iload 4, 2) := by decide +kernel
theorem dX7_run_46 : decode cX7_run 46 = .ok (.isub, 1) := by decide +kernel
theorem dX7_run_47 : decode cX7_run 47 = .ok (.ireturn, 1) := by decide +kernel
theorem dX7_tick_0 : decode cX7_tick 0 = .ok (.aload_n 1, 1) := by decide +kernel
theorem dX7_tick_1 : decode cX7_tick 1 = .ok (.dup, 1) := by decide +kernel
theorem dX7_tick_2 : decode cX7_tick 2 = .ok (.getfield 31, 3) := by decide +kernel
theorem dX7_tick_5 : decode cX7_tick 5 = .ok (.iconst 1, 1) := by decide +kernel
theorem dX7_tick_6 : decode cX7_tick 6 = .ok (.iadd, 1) := by decide +kernel
theorem dX7_tick_7 : decode cX7_tick 7 = .ok (.putfield 31, 3) := by decide +kernel
theorem dX7_tick_10 : decode cX7_tick 10 = .ok (.aload_n 1, 1) := by decide +kernel
theorem dX7_tick_11 : decode cX7_tick 11 = .ok (.getfield 9, 3) := by decide +kernel
theorem dX7_tick_14 : decode cX7_tick 14 = .ok (.invokevirtual 35, 3) := by decide +kernel
theorem dX7_tick_17 : decode cX7_tick 17 = .ok (.ifCond .eq 4, 3) := by decide +kernel
theorem dX7_tick_20 : decode cX7_tick 20 = .ok (.return_, 1) := by decide +kernel
theorem dX7_tick_21 : decode cX7_tick 21 = .ok (.aload_n 1, 1) := by decide +kernel
theorem dX7_tick_22 : decode cX7_tick 22 = .ok (.invokestatic 39, 3) := by decide +kernel
theorem dX7_tick_25 : decode cX7_tick 25 = .ok (.aload_n 1, 1) := by decide +kernel
theorem dX7_tick_26 : decode cX7_tick 26 = .ok (.getfield 31, 3) := by decide +kernel
theorem dX7_tick_29 : decode cX7_tick 29 = .ok (.aload_n 1, 1) := by decide +kernel
theorem dX7_tick_30 : decode cX7_tick 30 = .ok (.getfield 43, 3) := by decide +kernel
theorem dX7_tick_33 : decode cX7_tick 33 = .ok (.if_icmp .le 8, 3) := by decide +kernel
theorem dX7_tick_36 : decode cX7_tick 36 = .ok (.aload_n 0, 1) := by decide +kernel
theorem dX7_tick_37 : decode cX7_tick 37 = .ok (.aload_n 1, 1) := by decide +kernel
theorem dX7_tick_38 : decode cX7_tick 38 = .ok (.invokestatic 46, 3) := by decide +kernel
theorem dX7_tick_41 : decode cX7_tick 41 = .ok (.aload_n 0, 1) := by decide +kernel
theorem dX7_tick_42 : decode cX7_tick 42 = .ok (.aload_n 1, 1) := by decide +kernel
theorem dX7_tick_43 : decode cX7_tick 43 = .ok (.invokestatic 49, 3) := by decide +kernel
theorem dX7_tick_46 : decode cX7_tick 46 = .ok (.aload_n 0, 1) := by decide +kernel
theorem dX7_tick_47 : decode cX7_tick 47 = .ok (.aload_n 1, 1) := by decide +kernel
theorem dX7_tick_48 : decode cX7_tick 48 = .ok (.invokestatic 52, 3) := by decide +kernel
theorem dX7_tick_51 : decode cX7_tick 51 = .ok (.iconst 3, 1) := by decide +kernel
theorem dX7_tick_52 : decode cX7_tick 52 = .ok (.istore_n 2, 1) := by decide +kernel
theorem dX7_tick_53 : decode cX7_tick 53 = .ok (.iload_n 2, 1) := by decide +kernel
theorem dX7_tick_54 : decode cX7_tick 54 = .ok (.iconst 1, 1) := by decide +kernel
theorem dX7_tick_55 : decode cX7_tick 55 = .ok (.if_icmp .lt 15, 3) := by decide +kernel
theorem dX7_tick_58 : decode cX7_tick 58 = .ok (.aload_n 0, 1) := by decide +kernel
theorem dX7_tick_59 : decode cX7_tick 59 = .ok (.aload_n 1, 1) := by decide +kernel
theorem dX7_tick_60 : decode cX7_tick 60 = .ok (.iload_n 2, 1) := by decide +kernel
theorem dX7_tick_61 : decode cX7_tick 61 = .ok (.invokestatic 55, 3) := by decide +kernel
theorem dX7_tick_64 : decode cX7_tick 64 = .ok (.iinc 2 (-1), 3) := by decide +kernel
theorem dX7_tick_67 : decode cX7_tick 67 = .ok (.goto (-14), 3) := by decide +kernel
theorem dX7_tick_70 : decode cX7_tick 70 = .ok (.iconst 3, 1) := by decide +kernel
theorem dX7_tick_71 : decode cX7_tick 71 = .ok (.istore_n 2, 1) := by decide +kernel
theorem dX7_tick_72 : decode cX7_tick 72 = .ok (.iload_n 2, 1) := by decide +kernel
theorem dX7_tick_73 : decode cX7_tick 73 = .ok (.iconst 1, 1) := by decide +kernel
theorem dX7_tick_74 : decode cX7_tick 74 = .ok (.if_icmp .lt 15, 3) := by decide +kernel
theorem dX7_tick_77 : decode cX7_tick 77 = .ok (.aload_n 0, 1) := by decide +kernel
theorem dX7_tick_78 : decode cX7_tick 78 = .ok (.aload_n 1, 1) := by decide +kernel
theorem dX7_tick_79 : decode cX7_tick 79 = .ok (.iload_n 2, 1) := by decide +kernel
theorem dX7_tick_80 : decode cX7_tick 80 = .ok (.invokestatic 59, 3) := by decide +kernel
theorem dX7_tick_83 : decode cX7_tick 83 = .ok (.iinc 2 (-1), 3) := by decide +kernel
theorem dX7_tick_86 : decode cX7_tick 86 = .ok (.goto (-14), 3) := by decide +kernel
theorem dX7_tick_89 : decode cX7_tick 89 = .ok (.aload_n 0, 1) := by decide +kernel
theorem dX7_tick_90 : decode cX7_tick 90 = .ok (.aload_n 1, 1) := by decide +kernel
theorem dX7_tick_91 : decode cX7_tick 91 = .ok (.invokestatic 62, 3) := by decide +kernel
theorem dX7_tick_94 : decode cX7_tick 94 = .ok (.return_, 1) := by decide +kernel
theorem dX7_admitArrivals_0 : decode cX7_admitArrivals 0 = .ok (.aload_n 0, 1) := by decide +kernel
theorem dX7_admitArrivals_1 : decode cX7_admitArrivals 1 = .ok (.getfield 9, 3) := by decide +kernel
theorem dX7_admitArrivals_4 : decode cX7_admitArrivals 4 = .ok (.getfield 15, 3) := by decide +kernel
theorem dX7_admitArrivals_7 : decode cX7_admitArrivals 7 = .ok (.iconst 0, 1) := by decide +kernel
theorem dX7_admitArrivals_8 : decode cX7_admitArrivals 8 = .ok (.invokestatic 21, 3) := by decide +kernel
theorem dX7_admitArrivals_11 : decode cX7_admitArrivals 11 = .ok (.ifCond .ne 4, 3) := by decide +kernel
theorem dX7_admitArrivals_14 : decode cX7_admitArrivals 14 = .ok (.return_, 1) := by decide +kernel
theorem dX7_admitArrivals_15 : decode cX7_admitArrivals 15 = .ok (.iconst 0, 1) := by decide +kernel
theorem dX7_admitArrivals_16 : decode cX7_admitArrivals 16 = .ok (.istore_n 1, 1) := by decide +kernel
theorem dX7_admitArrivals_17 : decode cX7_admitArrivals 17 = .ok (.iload_n 1, 1) := by decide +kernel
theorem dX7_admitArrivals_18 : decode cX7_admitArrivals 18 = .ok (.aload_n 0, 1) := by decide +kernel
theorem dX7_admitArrivals_19 : decode cX7_admitArrivals 19 = .ok (.getfield 9, 3) := by decide +kernel
theorem dX7_admitArrivals_22 : decode cX7_admitArrivals 22 = .ok (.getfield 65, 3) := by decide +kernel
theorem dX7_admitArrivals_25 : decode cX7_admitArrivals 25 = .ok (.if_icmp .ge 50, 3) := by decide +kernel
theorem dX7_admitArrivals_28 : decode cX7_admitArrivals 28 = .ok (.aload_n 0, 1) := by decide +kernel
theorem dX7_admitArrivals_29 : decode cX7_admitArrivals 29 = .ok (.getfield 9, 3) := by decide +kernel
theorem dX7_admitArrivals_32 : decode cX7_admitArrivals 32 = .ok (.getfield 68, 3) := by decide +kernel
theorem dX7_admitArrivals_35 : decode cX7_admitArrivals 35 = .ok (.iload_n 1, 1) := by decide +kernel
theorem dX7_admitArrivals_36 : decode cX7_admitArrivals 36 = .ok (.invokestatic 21, 3) := by decide +kernel
theorem dX7_admitArrivals_39 : decode cX7_admitArrivals 39 = .ok (.ifCond .ne 30, 3) := by decide +kernel
theorem dX7_admitArrivals_42 : decode cX7_admitArrivals 42 = .ok (.aload_n 0, 1) := by decide +kernel
theorem dX7_admitArrivals_43 : decode cX7_admitArrivals 43 = .ok (.getfield 9, 3) := by decide +kernel
theorem dX7_admitArrivals_46 : decode cX7_admitArrivals 46 = .ok (.getfield 71, 3) := by decide +kernel
theorem dX7_admitArrivals_49 : decode cX7_admitArrivals 49 = .ok (.iload_n 1, 1) := by decide +kernel
theorem dX7_admitArrivals_50 : decode cX7_admitArrivals 50 = .ok (.invokestatic 21, 3) := by decide +kernel
theorem dX7_admitArrivals_53 : decode cX7_admitArrivals 53 = .ok (.aload_n 0, 1) := by decide +kernel
theorem dX7_admitArrivals_54 : decode cX7_admitArrivals 54 = .ok (.getfield 31, 3) := by decide +kernel
theorem dX7_admitArrivals_57 : decode cX7_admitArrivals 57 = .ok (.if_icmp .ne 12, 3) := by decide +kernel
theorem dX7_admitArrivals_60 : decode cX7_admitArrivals 60 = .ok (.aload_n 0, 1) := by decide +kernel
theorem dX7_admitArrivals_61 : decode cX7_admitArrivals 61 = .ok (.iload_n 1, 1) := by decide +kernel
theorem dX7_admitArrivals_62 : decode cX7_admitArrivals 62 = .ok (.iconst 1, 1) := by decide +kernel
theorem dX7_admitArrivals_63 : decode cX7_admitArrivals 63 = .ok (.invokestatic 74, 3) := by decide +kernel
theorem dX7_admitArrivals_66 : decode cX7_admitArrivals 66 = .ok (.invokevirtual 78, 3) := by decide +kernel
theorem dX7_admitArrivals_69 : decode cX7_admitArrivals 69 = .ok (.iinc 1 1, 3) := by decide +kernel
theorem dX7_admitArrivals_72 : decode cX7_admitArrivals 72 = .ok (.goto (-55), 3) := by decide +kernel
theorem dX7_admitArrivals_75 : decode cX7_admitArrivals 75 = .ok (.return_, 1) := by decide +kernel
theorem dX7_moveLoop_0 : decode cX7_moveLoop 0 = .ok (.aload_n 0, 1) := by decide +kernel
theorem dX7_moveLoop_1 : decode cX7_moveLoop 1 = .ok (.getfield 82, 3) := by decide +kernel
theorem dX7_moveLoop_4 : decode cX7_moveLoop 4 = .ok (.istore_n 2, 1) := by decide +kernel
theorem dX7_moveLoop_5 : decode cX7_moveLoop 5 = .ok (.aload_n 1, 1) := by decide +kernel
theorem dX7_moveLoop_6 : decode cX7_moveLoop 6 = .ok (.getfield 9, 3) := by decide +kernel
theorem dX7_moveLoop_9 : decode cX7_moveLoop 9 = .ok (.getfield 15, 3) := by decide +kernel
theorem dX7_moveLoop_12 : decode cX7_moveLoop 12 = .ok (.bipush 8, 2) := by decide +kernel
theorem dX7_moveLoop_14 : decode cX7_moveLoop 14 = .ok (.invokestatic 21, 3) := by decide +kernel
theorem dX7_moveLoop_17 : decode cX7_moveLoop 17 = .ok (.ifCond .eq 17, 3) := by decide +kernel
theorem dX7_moveLoop_20 : decode cX7_moveLoop 20 = .ok (.iload_n 2, 1) := by decide +kernel
theorem dX7_moveLoop_21 : decode cX7_moveLoop 21 = .ok (.iconst 1, 1) := by decide +kernel
theorem dX7_moveLoop_22 : decode cX7_moveLoop 22 = .ok (.if_icmp .lt 12, 3) := by decide +kernel
theorem dX7_moveLoop_25 : decode cX7_moveLoop 25 = .ok (.iload_n 2, 1) := by decide +kernel
theorem dX7_moveLoop_26 : decode cX7_moveLoop 26 = .ok (.aload_n 1, 1) := by decide +kernel
theorem dX7_moveLoop_27 : decode cX7_moveLoop 27 = .ok (.getfield 87, 3) := by decide +kernel
theorem dX7_moveLoop_30 : decode cX7_moveLoop 30 = .ok (.arraylength, 1) := by decide +kernel
theorem dX7_moveLoop_31 : decode cX7_moveLoop 31 = .ok (.if_icmp .le 4, 3) := by decide +kernel
theorem dX7_moveLoop_34 : decode cX7_moveLoop 34 = .ok (.return_, 1) := by decide +kernel
theorem dX7_moveLoop_35 : decode cX7_moveLoop 35 = .ok (.aload_n 1, 1) := by decide +kernel
theorem dX7_moveLoop_36 : decode cX7_moveLoop 36 = .ok (.getfield 87, 3) := by decide +kernel
theorem dX7_moveLoop_39 : decode cX7_moveLoop 39 = .ok (.iload_n 2, 1) := by decide +kernel
theorem dX7_moveLoop_40 : decode cX7_moveLoop 40 = .ok (.iconst 1, 1) := by decide +kernel
theorem dX7_moveLoop_41 : decode cX7_moveLoop 41 = .ok (.isub, 1) := by decide +kernel
theorem dX7_moveLoop_42 : decode cX7_moveLoop 42 = .ok (.iaload, 1) := by decide +kernel
theorem dX7_moveLoop_43 : decode cX7_moveLoop 43 = .ok (.istore_n 3, 1) := by decide +kernel
theorem dX7_moveLoop_44 : decode cX7_moveLoop 44 = .ok (.iload_n 2, 1) := by decide +kernel
theorem dX7_moveLoop_45 : decode cX7_moveLoop 45 = .ok (.iconst 1, 1) := by decide +kernel
theorem dX7_moveLoop_46 : decode cX7_moveLoop 46 = .ok (.isub, 1) := by decide +kernel
theorem dX7_moveLoop_47 : decode cX7_moveLoop 47 = .ok (.istore 4, 2) := by decide +kernel
theorem dX7_moveLoop_49 : decode cX7_moveLoop 49 = .ok (.iload 4, 2) := by decide +kernel
theorem dX7_moveLoop_51 : decode cX7_moveLoop 51 = .ok (.ifCond .le 25, 3) := by decide +kernel
theorem dX7_moveLoop_54 : decode cX7_moveLoop 54 = .ok (.aload_n 1, 1) := by decide +kernel
theorem dX7_moveLoop_55 : decode cX7_moveLoop 55 = .ok (.getfield 87, 3) := by decide +kernel
theorem dX7_moveLoop_58 : decode cX7_moveLoop 58 = .ok (.iload 4, 2) := by decide +kernel
theorem dX7_moveLoop_60 : decode cX7_moveLoop 60 = .ok (.aload_n 1, 1) := by decide +kernel
theorem dX7_moveLoop_61 : decode cX7_moveLoop 61 = .ok (.getfield 87, 3) := by decide +kernel
theorem dX7_moveLoop_64 : decode cX7_moveLoop 64 = .ok (.iload 4, 2) := by decide +kernel
theorem dX7_moveLoop_66 : decode cX7_moveLoop 66 = .ok (.iconst 1, 1) := by decide +kernel
theorem dX7_moveLoop_67 : decode cX7_moveLoop 67 = .ok (.isub, 1) := by decide +kernel
theorem dX7_moveLoop_68 : decode cX7_moveLoop 68 = .ok (.iaload, 1) := by decide +kernel
theorem dX7_moveLoop_69 : decode cX7_moveLoop 69 = .ok (.iastore, 1) := by decide +kernel
theorem dX7_moveLoop_70 : decode cX7_moveLoop 70 = .ok (.iinc 4 (-1), 3) := by decide +kernel
theorem dX7_moveLoop_73 : decode cX7_moveLoop 73 = .ok (.goto (-24), 3) := by decide +kernel
theorem dX7_moveLoop_76 : decode cX7_moveLoop 76 = .ok (.aload_n 1, 1) := by decide +kernel
theorem dX7_moveLoop_77 : decode cX7_moveLoop 77 = .ok (.getfield 87, 3) := by decide +kernel
theorem dX7_moveLoop_80 : decode cX7_moveLoop 80 = .ok (.iconst 0, 1) := by decide +kernel
theorem dX7_moveLoop_81 : decode cX7_moveLoop 81 = .ok (.iload_n 3, 1) := by decide +kernel
theorem dX7_moveLoop_82 : decode cX7_moveLoop 82 = .ok (.iastore, 1) := by decide +kernel
theorem dX7_moveLoop_83 : decode cX7_moveLoop 83 = .ok (.aload_n 1, 1) := by decide +kernel
theorem dX7_moveLoop_84 : decode cX7_moveLoop 84 = .ok (.getfield 87, 3) := by decide +kernel
theorem dX7_moveLoop_87 : decode cX7_moveLoop 87 = .ok (.aload_n 0, 1) := by decide +kernel
theorem dX7_moveLoop_88 : decode cX7_moveLoop 88 = .ok (.getfield 90, 3) := by decide +kernel
theorem dX7_moveLoop_91 : decode cX7_moveLoop 91 = .ok (.invokestatic 21, 3) := by decide +kernel
theorem dX7_moveLoop_94 : decode cX7_moveLoop 94 = .ok (.istore 4, 2) := by decide +kernel
theorem dX7_moveLoop_96 : decode cX7_moveLoop 96 = .ok (.iload 4, 2) := by decide +kernel
theorem dX7_moveLoop_98 : decode cX7_moveLoop 98 = .ok (.iconst (-1), 1) := by decide +kernel
theorem dX7_moveLoop_99 : decode cX7_moveLoop 99 = .ok (.if_icmp .eq 29, 3) := by decide +kernel
theorem dX7_moveLoop_102 : decode cX7_moveLoop 102 = .ok (.aload_n 1, 1) := by decide +kernel
theorem dX7_moveLoop_103 : decode cX7_moveLoop 103 = .ok (.getfield 9, 3) := by decide +kernel
theorem dX7_moveLoop_106 : decode cX7_moveLoop 106 = .ok (.getfield 93, 3) := by decide +kernel
theorem dX7_moveLoop_109 : decode cX7_moveLoop 109 = .ok (.iload 4, 2) := by decide +kernel
theorem dX7_moveLoop_111 : decode cX7_moveLoop 111 = .ok (.aload_n 1, 1) := by decide +kernel
theorem dX7_moveLoop_112 : decode cX7_moveLoop 112 = .ok (.getfield 9, 3) := by decide +kernel
theorem dX7_moveLoop_115 : decode cX7_moveLoop 115 = .ok (.getfield 93, 3) := by decide +kernel
theorem dX7_moveLoop_118 : decode cX7_moveLoop 118 = .ok (.iload 4, 2) := by decide +kernel
theorem dX7_moveLoop_120 : decode cX7_moveLoop 120 = .ok (.invokestatic 21, 3) := by decide +kernel
theorem dX7_moveLoop_123 : decode cX7_moveLoop 123 = .ok (.iconst 1, 1) := by decide +kernel
theorem dX7_moveLoop_124 : decode cX7_moveLoop 124 = .ok (.iadd, 1) := by decide +kernel
theorem dX7_moveLoop_125 : decode cX7_moveLoop 125 = .ok (.invokestatic 96, 3) := by decide +kernel
theorem dX7_moveLoop_128 : decode cX7_moveLoop 128 = .ok (.return_, 1) := by decide +kernel
theorem dX7_takeOffLoop_0 : decode cX7_takeOffLoop 0 = .ok (.iconst 0, 1) := by decide +kernel
theorem dX7_takeOffLoop_1 : decode cX7_takeOffLoop 1 = .ok (.istore_n 2, 1) := by decide +kernel
theorem dX7_takeOffLoop_2 : decode cX7_takeOffLoop 2 = .ok (.iload_n 2, 1) := by decide +kernel
theorem dX7_takeOffLoop_3 : decode cX7_takeOffLoop 3 = .ok (.aload_n 0, 1) := by decide +kernel
theorem dX7_takeOffLoop_4 : decode cX7_takeOffLoop 4 = .ok (.getfield 82, 3) := by decide +kernel
theorem dX7_takeOffLoop_7 : decode cX7_takeOffLoop 7 = .ok (.if_icmp .ge 92, 3) := by decide +kernel
theorem dX7_takeOffLoop_10 : decode cX7_takeOffLoop 10 = .ok (.aload_n 1, 1) := by decide +kernel
theorem dX7_takeOffLoop_11 : decode cX7_takeOffLoop 11 = .ok (.getfield 9, 3) := by decide +kernel
theorem dX7_takeOffLoop_14 : decode cX7_takeOffLoop 14 = .ok (.getfield 15, 3) := by decide +kernel
theorem dX7_takeOffLoop_17 : decode cX7_takeOffLoop 17 = .ok (.bipush 8, 2) := by decide +kernel
theorem dX7_takeOffLoop_19 : decode cX7_takeOffLoop 19 = .ok (.invokestatic 21, 3) := by decide +kernel
theorem dX7_takeOffLoop_22 : decode cX7_takeOffLoop 22 = .ok (.ifCond .le 77, 3) := by decide +kernel
theorem dX7_takeOffLoop_25 : decode cX7_takeOffLoop 25 = .ok (.aload_n 1, 1) := by decide +kernel
theorem dX7_takeOffLoop_26 : decode cX7_takeOffLoop 26 = .ok (.getfield 87, 3) := by decide +kernel
theorem dX7_takeOffLoop_29 : decode cX7_takeOffLoop 29 = .ok (.iload_n 2, 1) := by decide +kernel
theorem dX7_takeOffLoop_30 : decode cX7_takeOffLoop 30 = .ok (.invokestatic 21, 3) := by decide +kernel
theorem dX7_takeOffLoop_33 : decode cX7_takeOffLoop 33 = .ok (.istore_n 3, 1) := by decide +kernel
theorem dX7_takeOffLoop_34 : decode cX7_takeOffLoop 34 = .ok (.iload_n 3, 1) := by decide +kernel
theorem dX7_takeOffLoop_35 : decode cX7_takeOffLoop 35 = .ok (.iconst (-1), 1) := by decide +kernel
theorem dX7_takeOffLoop_36 : decode cX7_takeOffLoop 36 = .ok (.if_icmp .ne 8, 3) := by decide +kernel
theorem dX7_takeOffLoop_39 : decode cX7_takeOffLoop 39 = .ok (.bipush 8, 2) := by decide +kernel
theorem dX7_takeOffLoop_41 : decode cX7_takeOffLoop 41 = .ok (.goto 10, 3) := by decide +kernel
theorem dX7_takeOffLoop_44 : decode cX7_takeOffLoop 44 = .ok (.aload_n 0, 1) := by decide +kernel
theorem dX7_takeOffLoop_45 : decode cX7_takeOffLoop 45 = .ok (.aload_n 1, 1) := by decide +kernel
theorem dX7_takeOffLoop_46 : decode cX7_takeOffLoop 46 = .ok (.iload_n 2, 1) := by decide +kernel
theorem dX7_takeOffLoop_47 : decode cX7_takeOffLoop 47 = .ok (.iload_n 3, 1) := by decide +kernel
theorem dX7_takeOffLoop_48 : decode cX7_takeOffLoop 48 = .ok (.invokestatic 100, 3) := by decide +kernel
theorem dX7_takeOffLoop_51 : decode cX7_takeOffLoop 51 = .ok (.istore 4, 2) := by decide +kernel
theorem dX7_takeOffLoop_53 : decode cX7_takeOffLoop 53 = .ok (.iload 4, 2) := by decide +kernel
theorem dX7_takeOffLoop_55 : decode cX7_takeOffLoop 55 = .ok (.bipush 8, 2) := by decide +kernel
theorem dX7_takeOffLoop_57 : decode cX7_takeOffLoop 57 = .ok (.if_icmp .eq 36, 3) := by decide +kernel
theorem dX7_takeOffLoop_60 : decode cX7_takeOffLoop 60 = .ok (.aload_n 1, 1) := by decide +kernel
theorem dX7_takeOffLoop_61 : decode cX7_takeOffLoop 61 = .ok (.getfield 87, 3) := by decide +kernel
theorem dX7_takeOffLoop_64 : decode cX7_takeOffLoop 64 = .ok (.iload_n 2, 1) := by decide +kernel
theorem dX7_takeOffLoop_65 : decode cX7_takeOffLoop 65 = .ok (.iconst (-1), 1) := by decide +kernel
theorem dX7_takeOffLoop_66 : decode cX7_takeOffLoop 66 = .ok (.invokestatic 96, 3) := by decide +kernel
theorem dX7_takeOffLoop_69 : decode cX7_takeOffLoop 69 = .ok (.aload_n 1, 1) := by decide +kernel
theorem dX7_takeOffLoop_70 : decode cX7_takeOffLoop 70 = .ok (.iload_n 3, 1) := by decide +kernel
theorem dX7_takeOffLoop_71 : decode cX7_takeOffLoop 71 = .ok (.iload 4, 2) := by decide +kernel
theorem dX7_takeOffLoop_73 : decode cX7_takeOffLoop 73 = .ok (.invokevirtual 78, 3) := by decide +kernel
theorem dX7_takeOffLoop_76 : decode cX7_takeOffLoop 76 = .ok (.iload 4, 2) := by decide +kernel
theorem dX7_takeOffLoop_78 : decode cX7_takeOffLoop 78 = .ok (.bipush 9, 2) := by decide +kernel
theorem dX7_takeOffLoop_80 : decode cX7_takeOffLoop 80 = .ok (.if_icmp .ne 13, 3) := by decide +kernel
theorem dX7_takeOffLoop_83 : decode cX7_takeOffLoop 83 = .ok (.aload_n 1, 1) := by decide +kernel
theorem dX7_takeOffLoop_84 : decode cX7_takeOffLoop 84 = .ok (.aload_n 0, 1) := by decide +kernel
theorem dX7_takeOffLoop_85 : decode cX7_takeOffLoop 85 = .ok (.iload_n 2, 1) := by decide +kernel
theorem dX7_takeOffLoop_86 : decode cX7_takeOffLoop 86 = .ok (.invokevirtual 104, 3) := by decide +kernel
theorem dX7_takeOffLoop_89 : decode cX7_takeOffLoop 89 = .ok (.iload_n 3, 1) := by decide +kernel
theorem dX7_takeOffLoop_90 : decode cX7_takeOffLoop 90 = .ok (.invokestatic 107, 3) := by decide +kernel
theorem dX7_takeOffLoop_93 : decode cX7_takeOffLoop 93 = .ok (.iinc 2 1, 3) := by decide +kernel
theorem dX7_takeOffLoop_96 : decode cX7_takeOffLoop 96 = .ok (.goto (-94), 3) := by decide +kernel
theorem dX7_takeOffLoop_99 : decode cX7_takeOffLoop 99 = .ok (.return_, 1) := by decide +kernel
theorem dX7_stateAfter_0 : decode cX7_stateAfter 0 = .ok (.aload_n 1, 1) := by decide +kernel
theorem dX7_stateAfter_1 : decode cX7_stateAfter 1 = .ok (.iload_n 3, 1) := by decide +kernel
theorem dX7_stateAfter_2 : decode cX7_stateAfter 2 = .ok (.invokevirtual 111, 3) := by decide +kernel
theorem dX7_stateAfter_5 : decode cX7_stateAfter 5 = .ok (.istore 4, 2) := by decide +kernel
theorem dX7_stateAfter_7 : decode cX7_stateAfter 7 = .ok (.iload 4, 2) := by decide +kernel
theorem dX7_stateAfter_9 : decode cX7_stateAfter 9 = .ok (.iconst 1, 1) := by decide +kernel
theorem dX7_stateAfter_10 : decode cX7_stateAfter 10 = .ok (.if_icmp .ne 33, 3) := by decide +kernel
theorem dX7_stateAfter_13 : decode cX7_stateAfter 13 = .ok (.aload_n 0, 1) := by decide +kernel
theorem dX7_stateAfter_14 : decode cX7_stateAfter 14 = .ok (.getfield 114, 3) := by decide +kernel
theorem dX7_stateAfter_17 : decode cX7_stateAfter 17 = .ok (.aload_n 1, 1) := by decide +kernel
theorem dX7_stateAfter_18 : decode cX7_stateAfter 18 = .ok (.getfield 9, 3) := by decide +kernel
theorem dX7_stateAfter_21 : decode cX7_stateAfter 21 = .ok (.getfield 117, 3) := by decide +kernel
theorem dX7_stateAfter_24 : decode cX7_stateAfter 24 = .ok (.iload_n 3, 1) := by decide +kernel
theorem dX7_stateAfter_25 : decode cX7_stateAfter 25 = .ok (.invokestatic 21, 3) := by decide +kernel
theorem dX7_stateAfter_28 : decode cX7_stateAfter 28 = .ok (.invokestatic 21, 3) := by decide +kernel
theorem dX7_stateAfter_31 : decode cX7_stateAfter 31 = .ok (.iload_n 2, 1) := by decide +kernel
theorem dX7_stateAfter_32 : decode cX7_stateAfter 32 = .ok (.if_icmp .ne 8, 3) := by decide +kernel
theorem dX7_stateAfter_35 : decode cX7_stateAfter 35 = .ok (.bipush 10, 2) := by decide +kernel
theorem dX7_stateAfter_37 : decode cX7_stateAfter 37 = .ok (.goto 5, 3) := by decide +kernel
theorem dX7_stateAfter_40 : decode cX7_stateAfter 40 = .ok (.bipush 8, 2) := by decide +kernel
theorem dX7_stateAfter_42 : decode cX7_stateAfter 42 = .ok (.ireturn, 1) := by decide +kernel
theorem dX7_stateAfter_43 : decode cX7_stateAfter 43 = .ok (.iload 4, 2) := by decide +kernel
theorem dX7_stateAfter_45 : decode cX7_stateAfter 45 = .ok (.iconst 2, 1) := by decide +kernel
theorem dX7_stateAfter_46 : decode cX7_stateAfter 46 = .ok (.if_icmp .ne 19, 3) := by decide +kernel
theorem dX7_stateAfter_49 : decode cX7_stateAfter 49 = .ok (.iload_n 2, 1) := by decide +kernel
theorem dX7_stateAfter_50 : decode cX7_stateAfter 50 = .ok (.aload_n 0, 1) := by decide +kernel
theorem dX7_stateAfter_51 : decode cX7_stateAfter 51 = .ok (.getfield 120, 3) := by decide +kernel
theorem dX7_stateAfter_54 : decode cX7_stateAfter 54 = .ok (.if_icmp .ne 8, 3) := by decide +kernel
theorem dX7_stateAfter_57 : decode cX7_stateAfter 57 = .ok (.bipush 11, 2) := by decide +kernel
theorem dX7_stateAfter_59 : decode cX7_stateAfter 59 = .ok (.goto 5, 3) := by decide +kernel
theorem dX7_stateAfter_62 : decode cX7_stateAfter 62 = .ok (.bipush 8, 2) := by decide +kernel
theorem dX7_stateAfter_64 : decode cX7_stateAfter 64 = .ok (.ireturn, 1) := by decide +kernel
theorem dX7_stateAfter_65 : decode cX7_stateAfter 65 = .ok (.aload_n 0, 1) := by decide +kernel
theorem dX7_stateAfter_66 : decode cX7_stateAfter 66 = .ok (.iload_n 2, 1) := by decide +kernel
theorem dX7_stateAfter_67 : decode cX7_stateAfter 67 = .ok (.invokevirtual 104, 3) := by decide +kernel
theorem dX7_stateAfter_70 : decode cX7_stateAfter 70 = .ok (.istore 5, 2) := by decide +kernel
theorem dX7_stateAfter_72 : decode cX7_stateAfter 72 = .ok (.iload 5, 2) := by decide +kernel
theorem dX7_stateAfter_74 : decode cX7_stateAfter 74 = .ok (.iconst (-1), 1) := by decide +kernel
theorem dX7_stateAfter_75 : decode cX7_stateAfter 75 = .ok (.if_icmp .eq 27, 3) := by decide +kernel
theorem dX7_stateAfter_78 : decode cX7_stateAfter 78 = .ok (.aload_n 0, 1) := by decide +kernel
theorem dX7_stateAfter_79 : decode cX7_stateAfter 79 = .ok (.aload_n 1, 1) := by decide +kernel
theorem dX7_stateAfter_80 : decode cX7_stateAfter 80 = .ok (.iload 5, 2) := by decide +kernel
theorem dX7_stateAfter_82 : decode cX7_stateAfter 82 = .ok (.iload_n 3, 1) := by decide +kernel
theorem dX7_stateAfter_83 : decode cX7_stateAfter 83 = .ok (.invokestatic 123, 3) := by decide +kernel
theorem dX7_stateAfter_86 : decode cX7_stateAfter 86 = .ok (.ifCond .eq 16, 3) := by decide +kernel
theorem dX7_stateAfter_89 : decode cX7_stateAfter 89 = .ok (.aload_n 0, 1) := by decide +kernel
theorem dX7_stateAfter_90 : decode cX7_stateAfter 90 = .ok (.aload_n 1, 1) := by decide +kernel
theorem dX7_stateAfter_91 : decode cX7_stateAfter 91 = .ok (.iload_n 3, 1) := by decide +kernel
theorem dX7_stateAfter_92 : decode cX7_stateAfter 92 = .ok (.invokestatic 127, 3) := by decide +kernel
theorem dX7_stateAfter_95 : decode cX7_stateAfter 95 = .ok (.ifCond .ne 7, 3) := by decide +kernel
theorem dX7_stateAfter_98 : decode cX7_stateAfter 98 = .ok (.iconst 1, 1) := by decide +kernel
theorem dX7_stateAfter_99 : decode cX7_stateAfter 99 = .ok (.goto 4, 3) := by decide +kernel
theorem dX7_stateAfter_102 : decode cX7_stateAfter 102 = .ok (.iconst 0, 1) := by decide +kernel
theorem dX7_stateAfter_103 : decode cX7_stateAfter 103 = .ok (.istore 6, 2) := by decide +kernel
theorem dX7_stateAfter_105 : decode cX7_stateAfter 105 = .ok (.iload 6, 2) := by decide +kernel
theorem dX7_stateAfter_107 : decode cX7_stateAfter 107 = .ok (.ifCond .eq 8, 3) := by decide +kernel
theorem dX7_stateAfter_110 : decode cX7_stateAfter 110 = .ok (.bipush 9, 2) := by decide +kernel
theorem dX7_stateAfter_112 : decode cX7_stateAfter 112 = .ok (.goto 5, 3) := by decide +kernel
theorem dX7_stateAfter_115 : decode cX7_stateAfter 115 = .ok (.bipush 8, 2) := by decide +kernel
theorem dX7_stateAfter_117 : decode cX7_stateAfter 117 = .ok (.ireturn, 1) := by decide +kernel
theorem dX7_laneTakes_0 : decode cX7_laneTakes 0 = .ok (.aload_n 1, 1) := by decide +kernel
theorem dX7_laneTakes_1 : decode cX7_laneTakes 1 = .ok (.getfield 131, 3) := by decide +kernel
theorem dX7_laneTakes_4 : decode cX7_laneTakes 4 = .ok (.iload_n 2, 1) := by decide +kernel
theorem dX7_laneTakes_5 : decode cX7_laneTakes 5 = .ok (.invokestatic 21, 3) := by decide +kernel
theorem dX7_laneTakes_8 : decode cX7_laneTakes 8 = .ok (.istore 4, 2) := by decide +kernel
theorem dX7_laneTakes_10 : decode cX7_laneTakes 10 = .ok (.aload_n 1, 1) := by decide +kernel
theorem dX7_laneTakes_11 : decode cX7_laneTakes 11 = .ok (.getfield 134, 3) := by decide +kernel
theorem dX7_laneTakes_14 : decode cX7_laneTakes 14 = .ok (.iload_n 2, 1) := by decide +kernel
theorem dX7_laneTakes_15 : decode cX7_laneTakes 15 = .ok (.invokestatic 21, 3) := by decide +kernel
theorem dX7_laneTakes_18 : decode cX7_laneTakes 18 = .ok (.iconst 1, 1) := by decide +kernel
theorem dX7_laneTakes_19 : decode cX7_laneTakes 19 = .ok (.if_icmp .eq 16, 3) := by decide +kernel
theorem dX7_laneTakes_22 : decode cX7_laneTakes 22 = .ok (.iload 4, 2) := by decide +kernel
theorem dX7_laneTakes_24 : decode cX7_laneTakes 24 = .ok (.aload_n 0, 1) := by decide +kernel
theorem dX7_laneTakes_25 : decode cX7_laneTakes 25 = .ok (.getfield 137, 3) := by decide +kernel
theorem dX7_laneTakes_28 : decode cX7_laneTakes 28 = .ok (.iload_n 2, 1) := by decide +kernel
theorem dX7_laneTakes_29 : decode cX7_laneTakes 29 = .ok (.invokestatic 21, 3) := by decide +kernel
theorem dX7_laneTakes_32 : decode cX7_laneTakes 32 = .ok (.if_icmp .lt 5, 3) := by decide +kernel
theorem dX7_laneTakes_35 : decode cX7_laneTakes 35 = .ok (.iconst 0, 1) := by decide +kernel
theorem dX7_laneTakes_36 : decode cX7_laneTakes 36 = .ok (.ireturn, 1) := by decide +kernel
theorem dX7_laneTakes_37 : decode cX7_laneTakes 37 = .ok (.iload 4, 2) := by decide +kernel
theorem dX7_laneTakes_39 : decode cX7_laneTakes 39 = .ok (.ifCond .ne 5, 3) := by decide +kernel
theorem dX7_laneTakes_42 : decode cX7_laneTakes 42 = .ok (.iconst 1, 1) := by decide +kernel
theorem dX7_laneTakes_43 : decode cX7_laneTakes 43 = .ok (.ireturn, 1) := by decide +kernel
theorem dX7_laneTakes_44 : decode cX7_laneTakes 44 = .ok (.aload_n 1, 1) := by decide +kernel
theorem dX7_laneTakes_45 : decode cX7_laneTakes 45 = .ok (.getfield 140, 3) := by decide +kernel
theorem dX7_laneTakes_48 : decode cX7_laneTakes 48 = .ok (.iload_n 2, 1) := by decide +kernel
theorem dX7_laneTakes_49 : decode cX7_laneTakes 49 = .ok (.bipush 20, 2) := by decide +kernel
theorem dX7_laneTakes_51 : decode cX7_laneTakes 51 = .ok (.imul, 1) := by decide +kernel
theorem dX7_laneTakes_52 : decode cX7_laneTakes 52 = .ok (.iload 4, 2) := by decide +kernel
theorem dX7_laneTakes_54 : decode cX7_laneTakes 54 = .ok (.iadd, 1) := by decide +kernel
theorem dX7_laneTakes_55 : decode cX7_laneTakes 55 = .ok (.iconst 1, 1) := by decide +kernel
theorem dX7_laneTakes_56 : decode cX7_laneTakes 56 = .ok (.isub, 1) := by decide +kernel
theorem dX7_laneTakes_57 : decode cX7_laneTakes 57 = .ok (.invokestatic 21, 3) := by decide +kernel
theorem dX7_laneTakes_60 : decode cX7_laneTakes 60 = .ok (.istore 5, 2) := by decide +kernel
theorem dX7_laneTakes_62 : decode cX7_laneTakes 62 = .ok (.aload_n 1, 1) := by decide +kernel
theorem dX7_laneTakes_63 : decode cX7_laneTakes 63 = .ok (.getfield 143, 3) := by decide +kernel
theorem dX7_laneTakes_66 : decode cX7_laneTakes 66 = .ok (.aload_n 1, 1) := by decide +kernel
theorem dX7_laneTakes_67 : decode cX7_laneTakes 67 = .ok (.getfield 9, 3) := by decide +kernel
theorem dX7_laneTakes_70 : decode cX7_laneTakes 70 = .ok (.getfield 117, 3) := by decide +kernel
theorem dX7_laneTakes_73 : decode cX7_laneTakes 73 = .ok (.iload 5, 2) := by decide +kernel
theorem dX7_laneTakes_75 : decode cX7_laneTakes 75 = .ok (.invokestatic 21, 3) := by decide +kernel
theorem dX7_laneTakes_78 : decode cX7_laneTakes 78 = .ok (.invokestatic 21, 3) := by decide +kernel
theorem dX7_laneTakes_81 : decode cX7_laneTakes 81 = .ok (.aload_n 1, 1) := by decide +kernel
theorem dX7_laneTakes_82 : decode cX7_laneTakes 82 = .ok (.getfield 143, 3) := by decide +kernel
theorem dX7_laneTakes_85 : decode cX7_laneTakes 85 = .ok (.aload_n 1, 1) := by decide +kernel
theorem dX7_laneTakes_86 : decode cX7_laneTakes 86 = .ok (.getfield 9, 3) := by decide +kernel
theorem dX7_laneTakes_89 : decode cX7_laneTakes 89 = .ok (.getfield 117, 3) := by decide +kernel
theorem dX7_laneTakes_92 : decode cX7_laneTakes 92 = .ok (.iload_n 3, 1) := by decide +kernel
theorem dX7_laneTakes_93 : decode cX7_laneTakes 93 = .ok (.invokestatic 21, 3) := by decide +kernel
theorem dX7_laneTakes_96 : decode cX7_laneTakes 96 = .ok (.invokestatic 21, 3) := by decide +kernel
theorem dX7_laneTakes_99 : decode cX7_laneTakes 99 = .ok (.if_icmp .gt 7, 3) := by decide +kernel
theorem dX7_laneTakes_102 : decode cX7_laneTakes 102 = .ok (.iconst 1, 1) := by decide +kernel
theorem dX7_laneTakes_103 : decode cX7_laneTakes 103 = .ok (.goto 4, 3) := by decide +kernel
theorem dX7_laneTakes_106 : decode cX7_laneTakes 106 = .ok (.iconst 0, 1) := by decide +kernel
theorem dX7_laneTakes_107 : decode cX7_laneTakes 107 = .ok (.ireturn, 1) := by decide +kernel
theorem dX7_addLast_0 : decode cX7_addLast 0 = .ok (.aload_n 0, 1) := by decide +kernel
theorem dX7_addLast_1 : decode cX7_addLast 1 = .ok (.getfield 131, 3) := by decide +kernel
theorem dX7_addLast_4 : decode cX7_addLast 4 = .ok (.iload_n 1, 1) := by decide +kernel
theorem dX7_addLast_5 : decode cX7_addLast 5 = .ok (.invokestatic 21, 3) := by decide +kernel
theorem dX7_addLast_8 : decode cX7_addLast 8 = .ok (.istore_n 3, 1) := by decide +kernel
theorem dX7_addLast_9 : decode cX7_addLast 9 = .ok (.aload_n 0, 1) := by decide +kernel
theorem dX7_addLast_10 : decode cX7_addLast 10 = .ok (.getfield 140, 3) := by decide +kernel
theorem dX7_addLast_13 : decode cX7_addLast 13 = .ok (.iload_n 1, 1) := by decide +kernel
theorem dX7_addLast_14 : decode cX7_addLast 14 = .ok (.bipush 20, 2) := by decide +kernel
theorem dX7_addLast_16 : decode cX7_addLast 16 = .ok (.imul, 1) := by decide +kernel
theorem dX7_addLast_17 : decode cX7_addLast 17 = .ok (.iload_n 3, 1) := by decide +kernel
theorem dX7_addLast_18 : decode cX7_addLast 18 = .ok (.iadd, 1) := by decide +kernel
theorem dX7_addLast_19 : decode cX7_addLast 19 = .ok (.iload_n 2, 1) := by decide +kernel
theorem dX7_addLast_20 : decode cX7_addLast 20 = .ok (.invokestatic 96, 3) := by decide +kernel
theorem dX7_addLast_23 : decode cX7_addLast 23 = .ok (.aload_n 0, 1) := by decide +kernel
theorem dX7_addLast_24 : decode cX7_addLast 24 = .ok (.getfield 131, 3) := by decide +kernel
theorem dX7_addLast_27 : decode cX7_addLast 27 = .ok (.iload_n 1, 1) := by decide +kernel
theorem dX7_addLast_28 : decode cX7_addLast 28 = .ok (.iload_n 3, 1) := by decide +kernel
theorem dX7_addLast_29 : decode cX7_addLast 29 = .ok (.iconst 1, 1) := by decide +kernel
theorem dX7_addLast_30 : decode cX7_addLast 30 = .ok (.iadd, 1) := by decide +kernel
theorem dX7_addLast_31 : decode cX7_addLast 31 = .ok (.invokestatic 96, 3) := by decide +kernel
theorem dX7_addLast_34 : decode cX7_addLast 34 = .ok (.return_, 1) := by decide +kernel
theorem dX7_isHeldBack_0 : decode cX7_isHeldBack 0 = .ok (.aload_n 0, 1) := by decide +kernel
theorem dX7_isHeldBack_1 : decode cX7_isHeldBack 1 = .ok (.getfield 146, 3) := by decide +kernel
theorem dX7_isHeldBack_4 : decode cX7_isHeldBack 4 = .ok (.astore_n 3, 1) := by decide +kernel
theorem dX7_isHeldBack_5 : decode cX7_isHeldBack 5 = .ok (.aload_n 3, 1) := by decide +kernel
theorem dX7_isHeldBack_6 : decode cX7_isHeldBack 6 = .ok (.getfield 150, 3) := by decide +kernel
theorem dX7_isHeldBack_9 : decode cX7_isHeldBack 9 = .ok (.ifCond .ne 5, 3) := by decide +kernel
theorem dX7_isHeldBack_12 : decode cX7_isHeldBack 12 = .ok (.iconst 0, 1) := by decide +kernel
theorem dX7_isHeldBack_13 : decode cX7_isHeldBack 13 = .ok (.ireturn, 1) := by decide +kernel
theorem dX7_isHeldBack_14 : decode cX7_isHeldBack 14 = .ok (.aload_n 3, 1) := by decide +kernel
theorem dX7_isHeldBack_15 : decode cX7_isHeldBack 15 = .ok (.getfield 153, 3) := by decide +kernel
theorem dX7_isHeldBack_18 : decode cX7_isHeldBack 18 = .ok (.iconst 0, 1) := by decide +kernel
theorem dX7_isHeldBack_19 : decode cX7_isHeldBack 19 = .ok (.iconst 0, 1) := by decide +kernel
theorem dX7_isHeldBack_20 : decode cX7_isHeldBack 20 = .ok (.aload_n 1, 1) := by decide +kernel
theorem dX7_isHeldBack_21 : decode cX7_isHeldBack 21 = .ok (.getfield 143, 3) := by decide +kernel
theorem dX7_isHeldBack_24 : decode cX7_isHeldBack 24 = .ok (.aload_n 1, 1) := by decide +kernel
theorem dX7_isHeldBack_25 : decode cX7_isHeldBack 25 = .ok (.getfield 9, 3) := by decide +kernel
theorem dX7_isHeldBack_28 : decode cX7_isHeldBack 28 = .ok (.getfield 117, 3) := by decide +kernel
theorem dX7_isHeldBack_31 : decode cX7_isHeldBack 31 = .ok (.iload_n 2, 1) := by decide +kernel
theorem dX7_isHeldBack_32 : decode cX7_isHeldBack 32 = .ok (.invokestatic 21, 3) := by decide +kernel
theorem dX7_isHeldBack_35 : decode cX7_isHeldBack 35 = .ok (.invokestatic 21, 3) := by decide +kernel
theorem dX7_isHeldBack_38 : decode cX7_isHeldBack 38 = .ok (.aload_n 1, 1) := by decide +kernel
theorem dX7_isHeldBack_39 : decode cX7_isHeldBack 39 = .ok (.getfield 31, 3) := by decide +kernel
theorem dX7_isHeldBack_42 : decode cX7_isHeldBack 42 = .ok (.isub, 1) := by decide +kernel
theorem dX7_isHeldBack_43 : decode cX7_isHeldBack 43 = .ok (.invokestatic 156, 3) := by decide +kernel
theorem dX7_isHeldBack_46 : decode cX7_isHeldBack 46 = .ok (.invokestatic 96, 3) := by decide +kernel
theorem dX7_isHeldBack_49 : decode cX7_isHeldBack 49 = .ok (.aload_n 3, 1) := by decide +kernel
theorem dX7_isHeldBack_50 : decode cX7_isHeldBack 50 = .ok (.getfield 153, 3) := by decide +kernel
theorem dX7_isHeldBack_53 : decode cX7_isHeldBack 53 = .ok (.iconst 1, 1) := by decide +kernel
theorem dX7_isHeldBack_54 : decode cX7_isHeldBack 54 = .ok (.aload_n 1, 1) := by decide +kernel
theorem dX7_isHeldBack_55 : decode cX7_isHeldBack 55 = .ok (.getfield 9, 3) := by decide +kernel
theorem dX7_isHeldBack_58 : decode cX7_isHeldBack 58 = .ok (.getfield 93, 3) := by decide +kernel
theorem dX7_isHeldBack_61 : decode cX7_isHeldBack 61 = .ok (.iload_n 2, 1) := by decide +kernel
theorem dX7_isHeldBack_62 : decode cX7_isHeldBack 62 = .ok (.invokestatic 21, 3) := by decide +kernel
theorem dX7_isHeldBack_65 : decode cX7_isHeldBack 65 = .ok (.invokestatic 96, 3) := by decide +kernel
theorem dX7_isHeldBack_68 : decode cX7_isHeldBack 68 = .ok (.aload_n 3, 1) := by decide +kernel
theorem dX7_isHeldBack_69 : decode cX7_isHeldBack 69 = .ok (.getfield 153, 3) := by decide +kernel
theorem dX7_isHeldBack_72 : decode cX7_isHeldBack 72 = .ok (.iconst 2, 1) := by decide +kernel
theorem dX7_isHeldBack_73 : decode cX7_isHeldBack 73 = .ok (.aload_n 1, 1) := by decide +kernel
theorem dX7_isHeldBack_74 : decode cX7_isHeldBack 74 = .ok (.getfield 9, 3) := by decide +kernel
theorem dX7_isHeldBack_77 : decode cX7_isHeldBack 77 = .ok (.getfield 162, 3) := by decide +kernel
theorem dX7_isHeldBack_80 : decode cX7_isHeldBack 80 = .ok (.iload_n 2, 1) := by decide +kernel
theorem dX7_isHeldBack_81 : decode cX7_isHeldBack 81 = .ok (.invokestatic 21, 3) := by decide +kernel
theorem dX7_isHeldBack_84 : decode cX7_isHeldBack 84 = .ok (.invokestatic 96, 3) := by decide +kernel
theorem dX7_isHeldBack_87 : decode cX7_isHeldBack 87 = .ok (.aload_n 3, 1) := by decide +kernel
theorem dX7_isHeldBack_88 : decode cX7_isHeldBack 88 = .ok (.getfield 153, 3) := by decide +kernel
theorem dX7_isHeldBack_91 : decode cX7_isHeldBack 91 = .ok (.iconst 3, 1) := by decide +kernel
theorem dX7_isHeldBack_92 : decode cX7_isHeldBack 92 = .ok (.aload_n 1, 1) := by decide +kernel
theorem dX7_isHeldBack_93 : decode cX7_isHeldBack 93 = .ok (.getfield 9, 3) := by decide +kernel
theorem dX7_isHeldBack_96 : decode cX7_isHeldBack 96 = .ok (.getfield 15, 3) := by decide +kernel
theorem dX7_isHeldBack_99 : decode cX7_isHeldBack 99 = .ok (.bipush 8, 2) := by decide +kernel
theorem dX7_isHeldBack_101 : decode cX7_isHeldBack 101 = .ok (.invokestatic 21, 3) := by decide +kernel
theorem dX7_isHeldBack_104 : decode cX7_isHeldBack 104 = .ok (.invokestatic 96, 3) := by decide +kernel
theorem dX7_isHeldBack_107 : decode cX7_isHeldBack 107 = .ok (.aload_n 3, 1) := by decide +kernel
theorem dX7_isHeldBack_108 : decode cX7_isHeldBack 108 = .ok (.getfield 153, 3) := by decide +kernel
theorem dX7_isHeldBack_111 : decode cX7_isHeldBack 111 = .ok (.iconst 4, 1) := by decide +kernel
theorem dX7_isHeldBack_112 : decode cX7_isHeldBack 112 = .ok (.aload_n 1, 1) := by decide +kernel
theorem dX7_isHeldBack_113 : decode cX7_isHeldBack 113 = .ok (.getfield 31, 3) := by decide +kernel
theorem dX7_isHeldBack_116 : decode cX7_isHeldBack 116 = .ok (.invokestatic 96, 3) := by decide +kernel
theorem dX7_isHeldBack_119 : decode cX7_isHeldBack 119 = .ok (.iconst 0, 1) := by decide +kernel
theorem dX7_isHeldBack_120 : decode cX7_isHeldBack 120 = .ok (.istore 4, 2) := by decide +kernel
theorem dX7_isHeldBack_122 : decode cX7_isHeldBack 122 = .ok (.iload 4, 2) := by decide +kernel
theorem dX7_isHeldBack_124 : decode cX7_isHeldBack 124 = .ok (.aload_n 3, 1) := by decide +kernel
theorem dX7_isHeldBack_125 : decode cX7_isHeldBack 125 = .ok (.getfield 150, 3) := by decide +kernel
theorem dX7_isHeldBack_128 : decode cX7_isHeldBack 128 = .ok (.if_icmp .ge 20, 3) := by decide +kernel
theorem dX7_isHeldBack_131 : decode cX7_isHeldBack 131 = .ok (.aload_n 3, 1) := by decide +kernel
theorem dX7_isHeldBack_132 : decode cX7_isHeldBack 132 = .ok (.iload 4, 2) := by decide +kernel
theorem dX7_isHeldBack_134 : decode cX7_isHeldBack 134 = .ok (.invokevirtual 165, 3) := by decide +kernel
theorem dX7_isHeldBack_137 : decode cX7_isHeldBack 137 = .ok (.ifCond .eq 5, 3) := by decide +kernel
theorem dX7_isHeldBack_140 : decode cX7_isHeldBack 140 = .ok (.iconst 1, 1) := by decide +kernel
theorem dX7_isHeldBack_141 : decode cX7_isHeldBack 141 = .ok (.ireturn, 1) := by decide +kernel
theorem dX7_isHeldBack_142 : decode cX7_isHeldBack 142 = .ok (.iinc 4 1, 3) := by decide +kernel
theorem dX7_isHeldBack_145 : decode cX7_isHeldBack 145 = .ok (.goto (-23), 3) := by decide +kernel
theorem dX7_isHeldBack_148 : decode cX7_isHeldBack 148 = .ok (.iconst 0, 1) := by decide +kernel
theorem dX7_isHeldBack_149 : decode cX7_isHeldBack 149 = .ok (.ireturn, 1) := by decide +kernel
theorem dX7_emptyLanes_0 : decode cX7_emptyLanes 0 = .ok (.iconst 0, 1) := by decide +kernel
theorem dX7_emptyLanes_1 : decode cX7_emptyLanes 1 = .ok (.istore_n 2, 1) := by decide +kernel
theorem dX7_emptyLanes_2 : decode cX7_emptyLanes 2 = .ok (.iload_n 2, 1) := by decide +kernel
theorem dX7_emptyLanes_3 : decode cX7_emptyLanes 3 = .ok (.aload_n 0, 1) := by decide +kernel
theorem dX7_emptyLanes_4 : decode cX7_emptyLanes 4 = .ok (.getfield 169, 3) := by decide +kernel
theorem dX7_emptyLanes_7 : decode cX7_emptyLanes 7 = .ok (.if_icmp .ge 86, 3) := by decide +kernel
theorem dX7_emptyLanes_10 : decode cX7_emptyLanes 10 = .ok (.aload_n 0, 1) := by decide +kernel
theorem dX7_emptyLanes_11 : decode cX7_emptyLanes 11 = .ok (.getfield 172, 3) := by decide +kernel
theorem dX7_emptyLanes_14 : decode cX7_emptyLanes 14 = .ok (.iload_n 2, 1) := by decide +kernel
theorem dX7_emptyLanes_15 : decode cX7_emptyLanes 15 = .ok (.invokestatic 21, 3) := by decide +kernel
theorem dX7_emptyLanes_18 : decode cX7_emptyLanes 18 = .ok (.istore_n 3, 1) := by decide +kernel
theorem dX7_emptyLanes_19 : decode cX7_emptyLanes 19 = .ok (.aload_n 1, 1) := by decide +kernel
theorem dX7_emptyLanes_20 : decode cX7_emptyLanes 20 = .ok (.getfield 131, 3) := by decide +kernel
theorem dX7_emptyLanes_23 : decode cX7_emptyLanes 23 = .ok (.iload_n 2, 1) := by decide +kernel
theorem dX7_emptyLanes_24 : decode cX7_emptyLanes 24 = .ok (.invokestatic 21, 3) := by decide +kernel
theorem dX7_emptyLanes_27 : decode cX7_emptyLanes 27 = .ok (.ifCond .le 60, 3) := by decide +kernel
theorem dX7_emptyLanes_30 : decode cX7_emptyLanes 30 = .ok (.aload_n 1, 1) := by decide +kernel
theorem dX7_emptyLanes_31 : decode cX7_emptyLanes 31 = .ok (.getfield 87, 3) := by decide +kernel
theorem dX7_emptyLanes_34 : decode cX7_emptyLanes 34 = .ok (.iload_n 3, 1) := by decide +kernel
theorem dX7_emptyLanes_35 : decode cX7_emptyLanes 35 = .ok (.invokestatic 21, 3) := by decide +kernel
theorem dX7_emptyLanes_38 : decode cX7_emptyLanes 38 = .ok (.iconst (-1), 1) := by decide +kernel
theorem dX7_emptyLanes_39 : decode cX7_emptyLanes 39 = .ok (.if_icmp .ne 48, 3) := by decide +kernel
theorem dX7_emptyLanes_42 : decode cX7_emptyLanes 42 = .ok (.aload_n 1, 1) := by decide +kernel
theorem dX7_emptyLanes_43 : decode cX7_emptyLanes 43 = .ok (.getfield 140, 3) := by decide +kernel
theorem dX7_emptyLanes_46 : decode cX7_emptyLanes 46 = .ok (.iload_n 2, 1) := by decide +kernel
theorem dX7_emptyLanes_47 : decode cX7_emptyLanes 47 = .ok (.bipush 20, 2) := by decide +kernel
theorem dX7_emptyLanes_49 : decode cX7_emptyLanes 49 = .ok (.imul, 1) := by decide +kernel
theorem dX7_emptyLanes_50 : decode cX7_emptyLanes 50 = .ok (.invokestatic 21, 3) := by decide +kernel
theorem dX7_emptyLanes_53 : decode cX7_emptyLanes 53 = .ok (.istore 4, 2) := by decide +kernel
theorem dX7_emptyLanes_55 : decode cX7_emptyLanes 55 = .ok (.aload_n 1, 1) := by decide +kernel
theorem dX7_emptyLanes_56 : decode cX7_emptyLanes 56 = .ok (.iload 4, 2) := by decide +kernel
theorem dX7_emptyLanes_58 : decode cX7_emptyLanes 58 = .ok (.invokevirtual 111, 3) := by decide +kernel
theorem dX7_emptyLanes_61 : decode cX7_emptyLanes 61 = .ok (.ifCond .eq 26, 3) := by decide +kernel
theorem dX7_emptyLanes_64 : decode cX7_emptyLanes 64 = .ok (.aload_n 1, 1) := by decide +kernel
theorem dX7_emptyLanes_65 : decode cX7_emptyLanes 65 = .ok (.iload_n 2, 1) := by decide +kernel
theorem dX7_emptyLanes_66 : decode cX7_emptyLanes 66 = .ok (.invokestatic 175, 3) := by decide +kernel
theorem dX7_emptyLanes_69 : decode cX7_emptyLanes 69 = .ok (.aload_n 1, 1) := by decide +kernel
theorem dX7_emptyLanes_70 : decode cX7_emptyLanes 70 = .ok (.getfield 87, 3) := by decide +kernel
theorem dX7_emptyLanes_73 : decode cX7_emptyLanes 73 = .ok (.iload_n 3, 1) := by decide +kernel
theorem dX7_emptyLanes_74 : decode cX7_emptyLanes 74 = .ok (.iload 4, 2) := by decide +kernel
theorem dX7_emptyLanes_76 : decode cX7_emptyLanes 76 = .ok (.invokestatic 96, 3) := by decide +kernel
theorem dX7_emptyLanes_79 : decode cX7_emptyLanes 79 = .ok (.aload_n 1, 1) := by decide +kernel
theorem dX7_emptyLanes_80 : decode cX7_emptyLanes 80 = .ok (.iload 4, 2) := by decide +kernel
theorem dX7_emptyLanes_82 : decode cX7_emptyLanes 82 = .ok (.bipush 8, 2) := by decide +kernel
theorem dX7_emptyLanes_84 : decode cX7_emptyLanes 84 = .ok (.invokevirtual 78, 3) := by decide +kernel
theorem dX7_emptyLanes_87 : decode cX7_emptyLanes 87 = .ok (.iinc 2 1, 3) := by decide +kernel
theorem dX7_emptyLanes_90 : decode cX7_emptyLanes 90 = .ok (.goto (-88), 3) := by decide +kernel
theorem dX7_emptyLanes_93 : decode cX7_emptyLanes 93 = .ok (.return_, 1) := by decide +kernel
theorem dX7_removeFirst_0 : decode cX7_removeFirst 0 = .ok (.aload_n 0, 1) := by decide +kernel
theorem dX7_removeFirst_1 : decode cX7_removeFirst 1 = .ok (.getfield 131, 3) := by decide +kernel
theorem dX7_removeFirst_4 : decode cX7_removeFirst 4 = .ok (.iload_n 1, 1) := by decide +kernel
theorem dX7_removeFirst_5 : decode cX7_removeFirst 5 = .ok (.invokestatic 21, 3) := by decide +kernel
theorem dX7_removeFirst_8 : decode cX7_removeFirst 8 = .ok (.istore_n 2, 1) := by decide +kernel
theorem dX7_removeFirst_9 : decode cX7_removeFirst 9 = .ok (.iload_n 1, 1) := by decide +kernel
theorem dX7_removeFirst_10 : decode cX7_removeFirst 10 = .ok (.bipush 20, 2) := by decide +kernel
theorem dX7_removeFirst_12 : decode cX7_removeFirst 12 = .ok (.imul, 1) := by decide +kernel
theorem dX7_removeFirst_13 : decode cX7_removeFirst 13 = .ok (.istore_n 3, 1) := by decide +kernel
theorem dX7_removeFirst_14 : decode cX7_removeFirst 14 = .ok (.iconst 1, 1) := by decide +kernel
theorem dX7_removeFirst_15 : decode cX7_removeFirst 15 = .ok (.istore 4, 2) := by decide +kernel
theorem dX7_removeFirst_17 : decode cX7_removeFirst 17 = .ok (.iload 4, 2) := by decide +kernel
theorem dX7_removeFirst_19 : decode cX7_removeFirst 19 = .ok (.iload_n 2, 1) := by decide +kernel
theorem dX7_removeFirst_20 : decode cX7_removeFirst 20 = .ok (.if_icmp .ge 33, 3) := by decide +kernel
theorem dX7_removeFirst_23 : decode cX7_removeFirst 23 = .ok (.aload_n 0, 1) := by decide +kernel
theorem dX7_removeFirst_24 : decode cX7_removeFirst 24 = .ok (.getfield 140, 3) := by decide +kernel
theorem dX7_removeFirst_27 : decode cX7_removeFirst 27 = .ok (.iload_n 3, 1) := by decide +kernel
theorem dX7_removeFirst_28 : decode cX7_removeFirst 28 = .ok (.iload 4, 2) := by decide +kernel
theorem dX7_removeFirst_30 : decode cX7_removeFirst 30 = .ok (.iadd, 1) := by decide +kernel
theorem dX7_removeFirst_31 : decode cX7_removeFirst 31 = .ok (.iconst 1, 1) := by decide +kernel
theorem dX7_removeFirst_32 : decode cX7_removeFirst 32 = .ok (.isub, 1) := by decide +kernel
theorem dX7_removeFirst_33 : decode cX7_removeFirst 33 = .ok (.aload_n 0, 1) := by decide +kernel
theorem dX7_removeFirst_34 : decode cX7_removeFirst 34 = .ok (.getfield 140, 3) := by decide +kernel
theorem dX7_removeFirst_37 : decode cX7_removeFirst 37 = .ok (.iload_n 3, 1) := by decide +kernel
theorem dX7_removeFirst_38 : decode cX7_removeFirst 38 = .ok (.iload 4, 2) := by decide +kernel
theorem dX7_removeFirst_40 : decode cX7_removeFirst 40 = .ok (.iadd, 1) := by decide +kernel
theorem dX7_removeFirst_41 : decode cX7_removeFirst 41 = .ok (.invokestatic 21, 3) := by decide +kernel
theorem dX7_removeFirst_44 : decode cX7_removeFirst 44 = .ok (.invokestatic 96, 3) := by decide +kernel
theorem dX7_removeFirst_47 : decode cX7_removeFirst 47 = .ok (.iinc 4 1, 3) := by decide +kernel
theorem dX7_removeFirst_50 : decode cX7_removeFirst 50 = .ok (.goto (-33), 3) := by decide +kernel
theorem dX7_removeFirst_53 : decode cX7_removeFirst 53 = .ok (.aload_n 0, 1) := by decide +kernel
theorem dX7_removeFirst_54 : decode cX7_removeFirst 54 = .ok (.getfield 131, 3) := by decide +kernel
theorem dX7_removeFirst_57 : decode cX7_removeFirst 57 = .ok (.iload_n 1, 1) := by decide +kernel
theorem dX7_removeFirst_58 : decode cX7_removeFirst 58 = .ok (.iload_n 2, 1) := by decide +kernel
theorem dX7_removeFirst_59 : decode cX7_removeFirst 59 = .ok (.iconst 1, 1) := by decide +kernel
theorem dX7_removeFirst_60 : decode cX7_removeFirst 60 = .ok (.isub, 1) := by decide +kernel
theorem dX7_removeFirst_61 : decode cX7_removeFirst 61 = .ok (.invokestatic 96, 3) := by decide +kernel
theorem dX7_removeFirst_64 : decode cX7_removeFirst 64 = .ok (.return_, 1) := by decide +kernel
theorem dX7_workMachines_0 : decode cX7_workMachines 0 = .ok (.iconst 0, 1) := by decide +kernel
theorem dX7_workMachines_1 : decode cX7_workMachines 1 = .ok (.istore_n 3, 1) := by decide +kernel
theorem dX7_workMachines_2 : decode cX7_workMachines 2 = .ok (.iload_n 3, 1) := by decide +kernel
theorem dX7_workMachines_3 : decode cX7_workMachines 3 = .ok (.aload_n 0, 1) := by decide +kernel
theorem dX7_workMachines_4 : decode cX7_workMachines 4 = .ok (.getfield 179, 3) := by decide +kernel
theorem dX7_workMachines_7 : decode cX7_workMachines 7 = .ok (.iload_n 2, 1) := by decide +kernel
theorem dX7_workMachines_8 : decode cX7_workMachines 8 = .ok (.iconst 1, 1) := by decide +kernel
theorem dX7_workMachines_9 : decode cX7_workMachines 9 = .ok (.isub, 1) := by decide +kernel
theorem dX7_workMachines_10 : decode cX7_workMachines 10 = .ok (.invokestatic 21, 3) := by decide +kernel
theorem dX7_workMachines_13 : decode cX7_workMachines 13 = .ok (.if_icmp .ge 114, 3) := by decide +kernel
theorem dX7_workMachines_16 : decode cX7_workMachines 16 = .ok (.iload_n 2, 1) := by decide +kernel
theorem dX7_workMachines_17 : decode cX7_workMachines 17 = .ok (.iload_n 3, 1) := by decide +kernel
theorem dX7_workMachines_18 : decode cX7_workMachines 18 = .ok (.invokestatic 182, 3) := by decide +kernel
theorem dX7_workMachines_21 : decode cX7_workMachines 21 = .ok (.istore 4, 2) := by decide +kernel
theorem dX7_workMachines_23 : decode cX7_workMachines 23 = .ok (.aload_n 1, 1) := by decide +kernel
theorem dX7_workMachines_24 : decode cX7_workMachines 24 = .ok (.getfield 185, 3) := by decide +kernel
theorem dX7_workMachines_27 : decode cX7_workMachines 27 = .ok (.iload 4, 2) := by decide +kernel
theorem dX7_workMachines_29 : decode cX7_workMachines 29 = .ok (.invokestatic 21, 3) := by decide +kernel
theorem dX7_workMachines_32 : decode cX7_workMachines 32 = .ok (.istore 5, 2) := by decide +kernel
theorem dX7_workMachines_34 : decode cX7_workMachines 34 = .ok (.iload 5, 2) := by decide +kernel
theorem dX7_workMachines_36 : decode cX7_workMachines 36 = .ok (.iconst (-1), 1) := by decide +kernel
theorem dX7_workMachines_37 : decode cX7_workMachines 37 = .ok (.if_icmp .eq 84, 3) := by decide +kernel
theorem dX7_workMachines_40 : decode cX7_workMachines 40 = .ok (.aload_n 0, 1) := by decide +kernel
theorem dX7_workMachines_41 : decode cX7_workMachines 41 = .ok (.aload_n 1, 1) := by decide +kernel
theorem dX7_workMachines_42 : decode cX7_workMachines 42 = .ok (.iload_n 2, 1) := by decide +kernel
theorem dX7_workMachines_43 : decode cX7_workMachines 43 = .ok (.iload_n 3, 1) := by decide +kernel
theorem dX7_workMachines_44 : decode cX7_workMachines 44 = .ok (.invokestatic 188, 3) := by decide +kernel
theorem dX7_workMachines_47 : decode cX7_workMachines 47 = .ok (.ifCond .eq 74, 3) := by decide +kernel
theorem dX7_workMachines_50 : decode cX7_workMachines 50 = .ok (.aload_n 1, 1) := by decide +kernel
theorem dX7_workMachines_51 : decode cX7_workMachines 51 = .ok (.getfield 191, 3) := by decide +kernel
theorem dX7_workMachines_54 : decode cX7_workMachines 54 = .ok (.iload 4, 2) := by decide +kernel
theorem dX7_workMachines_56 : decode cX7_workMachines 56 = .ok (.invokestatic 21, 3) := by decide +kernel
theorem dX7_workMachines_59 : decode cX7_workMachines 59 = .ok (.iconst 1, 1) := by decide +kernel
theorem dX7_workMachines_60 : decode cX7_workMachines 60 = .ok (.isub, 1) := by decide +kernel
theorem dX7_workMachines_61 : decode cX7_workMachines 61 = .ok (.istore 6, 2) := by decide +kernel
theorem dX7_workMachines_63 : decode cX7_workMachines 63 = .ok (.aload_n 1, 1) := by decide +kernel
theorem dX7_workMachines_64 : decode cX7_workMachines 64 = .ok (.getfield 191, 3) := by decide +kernel
theorem dX7_workMachines_67 : decode cX7_workMachines 67 = .ok (.iload 4, 2) := by decide +kernel
theorem dX7_workMachines_69 : decode cX7_workMachines 69 = .ok (.iload 6, 2) := by decide +kernel
theorem dX7_workMachines_71 : decode cX7_workMachines 71 = .ok (.invokestatic 96, 3) := by decide +kernel
theorem dX7_workMachines_74 : decode cX7_workMachines 74 = .ok (.iload 6, 2) := by decide +kernel
theorem dX7_workMachines_76 : decode cX7_workMachines 76 = .ok (.ifCond .ne 45, 3) := by decide +kernel
theorem dX7_workMachines_79 : decode cX7_workMachines 79 = .ok (.aload_n 1, 1) := by decide +kernel
theorem dX7_workMachines_80 : decode cX7_workMachines 80 = .ok (.getfield 185, 3) := by decide +kernel
theorem dX7_workMachines_83 : decode cX7_workMachines 83 = .ok (.iload 4, 2) := by decide +kernel
theorem dX7_workMachines_85 : decode cX7_workMachines 85 = .ok (.iconst (-1), 1) := by decide +kernel
theorem dX7_workMachines_86 : decode cX7_workMachines 86 = .ok (.invokestatic 96, 3) := by decide +kernel
theorem dX7_workMachines_89 : decode cX7_workMachines 89 = .ok (.aload_n 1, 1) := by decide +kernel
theorem dX7_workMachines_90 : decode cX7_workMachines 90 = .ok (.iload 5, 2) := by decide +kernel
theorem dX7_workMachines_92 : decode cX7_workMachines 92 = .ok (.aload_n 1, 1) := by decide +kernel
theorem dX7_workMachines_93 : decode cX7_workMachines 93 = .ok (.invokevirtual 194, 3) := by decide +kernel
theorem dX7_workMachines_96 : decode cX7_workMachines 96 = .ok (.aload_n 0, 1) := by decide +kernel
theorem dX7_workMachines_97 : decode cX7_workMachines 97 = .ok (.getfield 198, 3) := by decide +kernel
theorem dX7_workMachines_100 : decode cX7_workMachines 100 = .ok (.iload_n 2, 1) := by decide +kernel
theorem dX7_workMachines_101 : decode cX7_workMachines 101 = .ok (.iconst 1, 1) := by decide +kernel
theorem dX7_workMachines_102 : decode cX7_workMachines 102 = .ok (.isub, 1) := by decide +kernel
theorem dX7_workMachines_103 : decode cX7_workMachines 103 = .ok (.invokestatic 21, 3) := by decide +kernel
theorem dX7_workMachines_106 : decode cX7_workMachines 106 = .ok (.if_icmp .ge 10, 3) := by decide +kernel
theorem dX7_workMachines_109 : decode cX7_workMachines 109 = .ok (.iload_n 2, 1) := by decide +kernel
theorem dX7_workMachines_110 : decode cX7_workMachines 110 = .ok (.invokestatic 201, 3) := by decide +kernel
theorem dX7_workMachines_113 : decode cX7_workMachines 113 = .ok (.goto 5, 3) := by decide +kernel
theorem dX7_workMachines_116 : decode cX7_workMachines 116 = .ok (.bipush 7, 2) := by decide +kernel
theorem dX7_workMachines_118 : decode cX7_workMachines 118 = .ok (.invokevirtual 78, 3) := by decide +kernel
theorem dX7_workMachines_121 : decode cX7_workMachines 121 = .ok (.iinc 3 1, 3) := by decide +kernel
theorem dX7_workMachines_124 : decode cX7_workMachines 124 = .ok (.goto (-122), 3) := by decide +kernel
theorem dX7_workMachines_127 : decode cX7_workMachines 127 = .ok (.return_, 1) := by decide +kernel
theorem dX7_afterAlarm_0 : decode cX7_afterAlarm 0 = .ok (.iload_n 0, 1) := by decide +kernel
theorem dX7_afterAlarm_1 : decode cX7_afterAlarm 1 = .ok (.iconst 3, 1) := by decide +kernel
theorem dX7_afterAlarm_2 : decode cX7_afterAlarm 2 = .ok (.if_icmp .ne 8, 3) := by decide +kernel
theorem dX7_afterAlarm_5 : decode cX7_afterAlarm 5 = .ok (.bipush 12, 2) := by decide +kernel
theorem dX7_afterAlarm_7 : decode cX7_afterAlarm 7 = .ok (.goto 9, 3) := by decide +kernel
theorem dX7_afterAlarm_10 : decode cX7_afterAlarm 10 = .ok (.iload_n 0, 1) := by decide +kernel
theorem dX7_afterAlarm_11 : decode cX7_afterAlarm 11 = .ok (.iconst 1, 1) := by decide +kernel
theorem dX7_afterAlarm_12 : decode cX7_afterAlarm 12 = .ok (.iadd, 1) := by decide +kernel
theorem dX7_afterAlarm_13 : decode cX7_afterAlarm 13 = .ok (.invokestatic 74, 3) := by decide +kernel
theorem dX7_afterAlarm_16 : decode cX7_afterAlarm 16 = .ok (.ireturn, 1) := by decide +kernel
theorem dX7_fillMachines_0 : decode cX7_fillMachines 0 = .ok (.aload_n 1, 1) := by decide +kernel
theorem dX7_fillMachines_1 : decode cX7_fillMachines 1 = .ok (.getfield 9, 3) := by decide +kernel
theorem dX7_fillMachines_4 : decode cX7_fillMachines 4 = .ok (.getfield 15, 3) := by decide +kernel
theorem dX7_fillMachines_7 : decode cX7_fillMachines 7 = .ok (.iload_n 2, 1) := by decide +kernel
theorem dX7_fillMachines_8 : decode cX7_fillMachines 8 = .ok (.invokestatic 74, 3) := by decide +kernel
theorem dX7_fillMachines_11 : decode cX7_fillMachines 11 = .ok (.invokestatic 21, 3) := by decide +kernel
theorem dX7_fillMachines_14 : decode cX7_fillMachines 14 = .ok (.ifCond .ne 4, 3) := by decide +kernel
theorem dX7_fillMachines_17 : decode cX7_fillMachines 17 = .ok (.return_, 1) := by decide +kernel
theorem dX7_fillMachines_18 : decode cX7_fillMachines 18 = .ok (.iconst 0, 1) := by decide +kernel
theorem dX7_fillMachines_19 : decode cX7_fillMachines 19 = .ok (.istore_n 3, 1) := by decide +kernel
theorem dX7_fillMachines_20 : decode cX7_fillMachines 20 = .ok (.iload_n 3, 1) := by decide +kernel
theorem dX7_fillMachines_21 : decode cX7_fillMachines 21 = .ok (.aload_n 0, 1) := by decide +kernel
theorem dX7_fillMachines_22 : decode cX7_fillMachines 22 = .ok (.getfield 179, 3) := by decide +kernel
theorem dX7_fillMachines_25 : decode cX7_fillMachines 25 = .ok (.iload_n 2, 1) := by decide +kernel
theorem dX7_fillMachines_26 : decode cX7_fillMachines 26 = .ok (.iconst 1, 1) := by decide +kernel
theorem dX7_fillMachines_27 : decode cX7_fillMachines 27 = .ok (.isub, 1) := by decide +kernel
theorem dX7_fillMachines_28 : decode cX7_fillMachines 28 = .ok (.invokestatic 21, 3) := by decide +kernel
theorem dX7_fillMachines_31 : decode cX7_fillMachines 31 = .ok (.if_icmp .ge 110, 3) := by decide +kernel
theorem dX7_fillMachines_34 : decode cX7_fillMachines 34 = .ok (.iload_n 2, 1) := by decide +kernel
theorem dX7_fillMachines_35 : decode cX7_fillMachines 35 = .ok (.iload_n 3, 1) := by decide +kernel
theorem dX7_fillMachines_36 : decode cX7_fillMachines 36 = .ok (.invokestatic 182, 3) := by decide +kernel
theorem dX7_fillMachines_39 : decode cX7_fillMachines 39 = .ok (.istore 4, 2) := by decide +kernel
theorem dX7_fillMachines_41 : decode cX7_fillMachines 41 = .ok (.aload_n 1, 1) := by decide +kernel
theorem dX7_fillMachines_42 : decode cX7_fillMachines 42 = .ok (.getfield 185, 3) := by decide +kernel
theorem dX7_fillMachines_45 : decode cX7_fillMachines 45 = .ok (.iload 4, 2) := by decide +kernel
theorem dX7_fillMachines_47 : decode cX7_fillMachines 47 = .ok (.invokestatic 21, 3) := by decide +kernel
theorem dX7_fillMachines_50 : decode cX7_fillMachines 50 = .ok (.iconst (-1), 1) := by decide +kernel
theorem dX7_fillMachines_51 : decode cX7_fillMachines 51 = .ok (.if_icmp .ne 84, 3) := by decide +kernel
theorem dX7_fillMachines_54 : decode cX7_fillMachines 54 = .ok (.aload_n 0, 1) := by decide +kernel
theorem dX7_fillMachines_55 : decode cX7_fillMachines 55 = .ok (.aload_n 1, 1) := by decide +kernel
theorem dX7_fillMachines_56 : decode cX7_fillMachines 56 = .ok (.iload_n 2, 1) := by decide +kernel
theorem dX7_fillMachines_57 : decode cX7_fillMachines 57 = .ok (.iload_n 3, 1) := by decide +kernel
theorem dX7_fillMachines_58 : decode cX7_fillMachines 58 = .ok (.invokestatic 188, 3) := by decide +kernel
theorem dX7_fillMachines_61 : decode cX7_fillMachines 61 = .ok (.ifCond .eq 74, 3) := by decide +kernel
theorem dX7_fillMachines_64 : decode cX7_fillMachines 64 = .ok (.aload_n 1, 1) := by decide +kernel
theorem dX7_fillMachines_65 : decode cX7_fillMachines 65 = .ok (.iload_n 2, 1) := by decide +kernel
theorem dX7_fillMachines_66 : decode cX7_fillMachines 66 = .ok (.invokestatic 74, 3) := by decide +kernel
theorem dX7_fillMachines_69 : decode cX7_fillMachines 69 = .ok (.invokevirtual 204, 3) := by decide +kernel
theorem dX7_fillMachines_72 : decode cX7_fillMachines 72 = .ok (.istore 5, 2) := by decide +kernel
theorem dX7_fillMachines_74 : decode cX7_fillMachines 74 = .ok (.iload 5, 2) := by decide +kernel
theorem dX7_fillMachines_76 : decode cX7_fillMachines 76 = .ok (.iconst (-1), 1) := by decide +kernel
theorem dX7_fillMachines_77 : decode cX7_fillMachines 77 = .ok (.if_icmp .eq 58, 3) := by decide +kernel
theorem dX7_fillMachines_80 : decode cX7_fillMachines 80 = .ok (.aload_n 1, 1) := by decide +kernel
theorem dX7_fillMachines_81 : decode cX7_fillMachines 81 = .ok (.getfield 185, 3) := by decide +kernel
theorem dX7_fillMachines_84 : decode cX7_fillMachines 84 = .ok (.iload 4, 2) := by decide +kernel
theorem dX7_fillMachines_86 : decode cX7_fillMachines 86 = .ok (.iload 5, 2) := by decide +kernel
theorem dX7_fillMachines_88 : decode cX7_fillMachines 88 = .ok (.invokestatic 96, 3) := by decide +kernel
theorem dX7_fillMachines_91 : decode cX7_fillMachines 91 = .ok (.aload_n 1, 1) := by decide +kernel
theorem dX7_fillMachines_92 : decode cX7_fillMachines 92 = .ok (.getfield 191, 3) := by decide +kernel
theorem dX7_fillMachines_95 : decode cX7_fillMachines 95 = .ok (.iload 4, 2) := by decide +kernel
theorem dX7_fillMachines_97 : decode cX7_fillMachines 97 = .ok (.aload_n 0, 1) := by decide +kernel
theorem dX7_fillMachines_98 : decode cX7_fillMachines 98 = .ok (.getfield 207, 3) := by decide +kernel
theorem dX7_fillMachines_101 : decode cX7_fillMachines 101 = .ok (.iload_n 2, 1) := by decide +kernel
theorem dX7_fillMachines_102 : decode cX7_fillMachines 102 = .ok (.iconst 1, 1) := by decide +kernel
theorem dX7_fillMachines_103 : decode cX7_fillMachines 103 = .ok (.isub, 1) := by decide +kernel
theorem dX7_fillMachines_104 : decode cX7_fillMachines 104 = .ok (.invokestatic 21, 3) := by decide +kernel
theorem dX7_fillMachines_107 : decode cX7_fillMachines 107 = .ok (.invokestatic 96, 3) := by decide +kernel
theorem dX7_fillMachines_110 : decode cX7_fillMachines 110 = .ok (.aload_n 1, 1) := by decide +kernel
theorem dX7_fillMachines_111 : decode cX7_fillMachines 111 = .ok (.getfield 9, 3) := by decide +kernel
theorem dX7_fillMachines_114 : decode cX7_fillMachines 114 = .ok (.getfield 162, 3) := by decide +kernel
theorem dX7_fillMachines_117 : decode cX7_fillMachines 117 = .ok (.iload 5, 2) := by decide +kernel
theorem dX7_fillMachines_119 : decode cX7_fillMachines 119 = .ok (.iload_n 2, 1) := by decide +kernel
theorem dX7_fillMachines_120 : decode cX7_fillMachines 120 = .ok (.invokestatic 96, 3) := by decide +kernel
theorem dX7_fillMachines_123 : decode cX7_fillMachines 123 = .ok (.aload_n 1, 1) := by decide +kernel
theorem dX7_fillMachines_124 : decode cX7_fillMachines 124 = .ok (.iload 5, 2) := by decide +kernel
theorem dX7_fillMachines_126 : decode cX7_fillMachines 126 = .ok (.iload_n 2, 1) := by decide +kernel
theorem dX7_fillMachines_127 : decode cX7_fillMachines 127 = .ok (.invokestatic 74, 3) := by decide +kernel
theorem dX7_fillMachines_130 : decode cX7_fillMachines 130 = .ok (.iconst 1, 1) := by decide +kernel
theorem dX7_fillMachines_131 : decode cX7_fillMachines 131 = .ok (.iadd, 1) := by decide +kernel
theorem dX7_fillMachines_132 : decode cX7_fillMachines 132 = .ok (.invokevirtual 78, 3) := by decide +kernel
theorem dX7_fillMachines_135 : decode cX7_fillMachines 135 = .ok (.iinc 3 1, 3) := by decide +kernel
theorem dX7_fillMachines_138 : decode cX7_fillMachines 138 = .ok (.goto (-118), 3) := by decide +kernel
theorem dX7_fillMachines_141 : decode cX7_fillMachines 141 = .ok (.return_, 1) := by decide +kernel
theorem dX7_works_0 : decode cX7_works 0 = .ok (.aload_n 1, 1) := by decide +kernel
theorem dX7_works_1 : decode cX7_works 1 = .ok (.getfield 31, 3) := by decide +kernel
theorem dX7_works_4 : decode cX7_works 4 = .ok (.aload_n 1, 1) := by decide +kernel
theorem dX7_works_5 : decode cX7_works 5 = .ok (.getfield 210, 3) := by decide +kernel
theorem dX7_works_8 : decode cX7_works 8 = .ok (.iload_n 2, 1) := by decide +kernel
theorem dX7_works_9 : decode cX7_works 9 = .ok (.iload_n 3, 1) := by decide +kernel
theorem dX7_works_10 : decode cX7_works 10 = .ok (.invokestatic 182, 3) := by decide +kernel
theorem dX7_works_13 : decode cX7_works 13 = .ok (.invokestatic 21, 3) := by decide +kernel
theorem dX7_works_16 : decode cX7_works 16 = .ok (.if_icmp .le 20, 3) := by decide +kernel
theorem dX7_works_19 : decode cX7_works 19 = .ok (.aload_n 0, 1) := by decide +kernel
theorem dX7_works_20 : decode cX7_works 20 = .ok (.iload_n 2, 1) := by decide +kernel
theorem dX7_works_21 : decode cX7_works 21 = .ok (.iload_n 3, 1) := by decide +kernel
theorem dX7_works_22 : decode cX7_works 22 = .ok (.aload_n 1, 1) := by decide +kernel
theorem dX7_works_23 : decode cX7_works 23 = .ok (.getfield 31, 3) := by decide +kernel
theorem dX7_works_26 : decode cX7_works 26 = .ok (.invokevirtual 213, 3) := by decide +kernel
theorem dX7_works_29 : decode cX7_works 29 = .ok (.ifCond .ne 7, 3) := by decide +kernel
theorem dX7_works_32 : decode cX7_works 32 = .ok (.iconst 1, 1) := by decide +kernel
theorem dX7_works_33 : decode cX7_works 33 = .ok (.goto 4, 3) := by decide +kernel
theorem dX7_works_36 : decode cX7_works 36 = .ok (.iconst 0, 1) := by decide +kernel
theorem dX7_works_37 : decode cX7_works 37 = .ok (.ireturn, 1) := by decide +kernel
theorem dX7_fillEntry_0 : decode cX7_fillEntry 0 = .ok (.aload_n 1, 1) := by decide +kernel
theorem dX7_fillEntry_1 : decode cX7_fillEntry 1 = .ok (.getfield 87, 3) := by decide +kernel
theorem dX7_fillEntry_4 : decode cX7_fillEntry 4 = .ok (.aload_n 0, 1) := by decide +kernel
theorem dX7_fillEntry_5 : decode cX7_fillEntry 5 = .ok (.getfield 90, 3) := by decide +kernel
theorem dX7_fillEntry_8 : decode cX7_fillEntry 8 = .ok (.invokestatic 21, 3) := by decide +kernel
theorem dX7_fillEntry_11 : decode cX7_fillEntry 11 = .ok (.iconst (-1), 1) := by decide +kernel
theorem dX7_fillEntry_12 : decode cX7_fillEntry 12 = .ok (.if_icmp .ne 46, 3) := by decide +kernel
theorem dX7_fillEntry_15 : decode cX7_fillEntry 15 = .ok (.aload_n 1, 1) := by decide +kernel
theorem dX7_fillEntry_16 : decode cX7_fillEntry 16 = .ok (.bipush 7, 2) := by decide +kernel
theorem dX7_fillEntry_18 : decode cX7_fillEntry 18 = .ok (.invokevirtual 204, 3) := by decide +kernel
theorem dX7_fillEntry_21 : decode cX7_fillEntry 21 = .ok (.istore_n 2, 1) := by decide +kernel
theorem dX7_fillEntry_22 : decode cX7_fillEntry 22 = .ok (.iload_n 2, 1) := by decide +kernel
theorem dX7_fillEntry_23 : decode cX7_fillEntry 23 = .ok (.iconst (-1), 1) := by decide +kernel
theorem dX7_fillEntry_24 : decode cX7_fillEntry 24 = .ok (.if_icmp .eq 34, 3) := by decide +kernel
theorem dX7_fillEntry_27 : decode cX7_fillEntry 27 = .ok (.aload_n 1, 1) := by decide +kernel
theorem dX7_fillEntry_28 : decode cX7_fillEntry 28 = .ok (.getfield 87, 3) := by decide +kernel
theorem dX7_fillEntry_31 : decode cX7_fillEntry 31 = .ok (.aload_n 0, 1) := by decide +kernel
theorem dX7_fillEntry_32 : decode cX7_fillEntry 32 = .ok (.getfield 90, 3) := by decide +kernel
theorem dX7_fillEntry_35 : decode cX7_fillEntry 35 = .ok (.iload_n 2, 1) := by decide +kernel
theorem dX7_fillEntry_36 : decode cX7_fillEntry 36 = .ok (.invokestatic 96, 3) := by decide +kernel
theorem dX7_fillEntry_39 : decode cX7_fillEntry 39 = .ok (.aload_n 1, 1) := by decide +kernel
theorem dX7_fillEntry_40 : decode cX7_fillEntry 40 = .ok (.getfield 9, 3) := by decide +kernel
theorem dX7_fillEntry_43 : decode cX7_fillEntry 43 = .ok (.getfield 93, 3) := by decide +kernel
theorem dX7_fillEntry_46 : decode cX7_fillEntry 46 = .ok (.iload_n 2, 1) := by decide +kernel
theorem dX7_fillEntry_47 : decode cX7_fillEntry 47 = .ok (.iconst 0, 1) := by decide +kernel
theorem dX7_fillEntry_48 : decode cX7_fillEntry 48 = .ok (.invokestatic 96, 3) := by decide +kernel
theorem dX7_fillEntry_51 : decode cX7_fillEntry 51 = .ok (.aload_n 1, 1) := by decide +kernel
theorem dX7_fillEntry_52 : decode cX7_fillEntry 52 = .ok (.iload_n 2, 1) := by decide +kernel
theorem dX7_fillEntry_53 : decode cX7_fillEntry 53 = .ok (.bipush 8, 2) := by decide +kernel
theorem dX7_fillEntry_55 : decode cX7_fillEntry 55 = .ok (.invokevirtual 78, 3) := by decide +kernel
theorem dX7_fillEntry_58 : decode cX7_fillEntry 58 = .ok (.return_, 1) := by decide +kernel
theorem dX8_init_0 : decode cX8_init 0 = .ok (.aload_n 0, 1) := by decide +kernel
theorem dX8_init_1 : decode cX8_init 1 = .ok (.invokespecial 1, 3) := by decide +kernel
theorem dX8_init_4 : decode cX8_init 4 = .ok (.aload_n 0, 1) := by decide +kernel
theorem dX8_init_5 : decode cX8_init 5 = .ok (.new 7, 3) := by decide +kernel
theorem dX8_init_8 : decode cX8_init 8 = .ok (.dup, 1) := by decide +kernel
theorem dX8_init_9 : decode cX8_init 9 = .ok (.invokespecial 9, 3) := by decide +kernel
theorem dX8_init_12 : decode cX8_init 12 = .ok (.putfield 10, 3) := by decide +kernel
theorem dX8_init_15 : decode cX8_init 15 = .ok (.aload_n 0, 1) := by decide +kernel
theorem dX8_init_16 : decode cX8_init 16 = .ok (.iconst 0, 1) := by decide +kernel
theorem dX8_init_17 : decode cX8_init 17 = .ok (.putfield 16, 3) := by decide +kernel
theorem dX8_init_20 : decode cX8_init 20 = .ok (.aload_n 0, 1) := by decide +kernel
theorem dX8_init_21 : decode cX8_init 21 = .ok (.new 20, 3) := by decide +kernel
theorem dX8_init_24 : decode cX8_init 24 = .ok (.dup, 1) := by decide +kernel
theorem dX8_init_25 : decode cX8_init 25 = .ok (.invokespecial 22, 3) := by decide +kernel
theorem dX8_init_28 : decode cX8_init 28 = .ok (.putfield 23, 3) := by decide +kernel
theorem dX8_init_31 : decode cX8_init 31 = .ok (.aload_n 0, 1) := by decide +kernel
theorem dX8_init_32 : decode cX8_init 32 = .ok (.new 20, 3) := by decide +kernel
theorem dX8_init_35 : decode cX8_init 35 = .ok (.dup, 1) := by decide +kernel
theorem dX8_init_36 : decode cX8_init 36 = .ok (.invokespecial 22, 3) := by decide +kernel
theorem dX8_init_39 : decode cX8_init 39 = .ok (.putfield 27, 3) := by decide +kernel
theorem dX8_init_42 : decode cX8_init 42 = .ok (.aload_n 0, 1) := by decide +kernel
theorem dX8_init_43 : decode cX8_init 43 = .ok (.new 30, 3) := by decide +kernel
theorem dX8_init_46 : decode cX8_init 46 = .ok (.dup, 1) := by decide +kernel
theorem dX8_init_47 : decode cX8_init 47 = .ok (.invokespecial 32, 3) := by decide +kernel
theorem dX8_init_50 : decode cX8_init 50 = .ok (.putfield 33, 3) := by decide +kernel
theorem dX8_init_53 : decode cX8_init 53 = .ok (.aload_n 0, 1) := by decide +kernel
theorem dX8_init_54 : decode cX8_init 54 = .ok (.new 30, 3) := by decide +kernel
theorem dX8_init_57 : decode cX8_init 57 = .ok (.dup, 1) := by decide +kernel
theorem dX8_init_58 : decode cX8_init 58 = .ok (.invokespecial 32, 3) := by decide +kernel
theorem dX8_init_61 : decode cX8_init 61 = .ok (.putfield 37, 3) := by decide +kernel
theorem dX8_init_64 : decode cX8_init 64 = .ok (.aload_n 0, 1) := by decide +kernel
theorem dX8_init_65 : decode cX8_init 65 = .ok (.new 40, 3) := by decide +kernel
theorem dX8_init_68 : decode cX8_init 68 = .ok (.dup, 1) := by decide +kernel
theorem dX8_init_69 : decode cX8_init 69 = .ok (.invokespecial 42, 3) := by decide +kernel
theorem dX8_init_72 : decode cX8_init 72 = .ok (.putfield 43, 3) := by decide +kernel
theorem dX8_init_75 : decode cX8_init 75 = .ok (.aload_n 0, 1) := by decide +kernel
theorem dX8_init_76 : decode cX8_init 76 = .ok (.new 30, 3) := by decide +kernel
theorem dX8_init_79 : decode cX8_init 79 = .ok (.dup, 1) := by decide +kernel
theorem dX8_init_80 : decode cX8_init 80 = .ok (.invokespecial 32, 3) := by decide +kernel
theorem dX8_init_83 : decode cX8_init 83 = .ok (.putfield 47, 3) := by decide +kernel
theorem dX8_init_86 : decode cX8_init 86 = .ok (.aload_n 0, 1) := by decide +kernel
theorem dX8_init_87 : decode cX8_init 87 = .ok (.new 30, 3) := by decide +kernel
theorem dX8_init_90 : decode cX8_init 90 = .ok (.dup, 1) := by decide +kernel
theorem dX8_init_91 : decode cX8_init 91 = .ok (.invokespecial 32, 3) := by decide +kernel
theorem dX8_init_94 : decode cX8_init 94 = .ok (.putfield 50, 3) := by decide +kernel
theorem dX8_init_97 : decode cX8_init 97 = .ok (.aload_n 0, 1) := by decide +kernel
theorem dX8_init_98 : decode cX8_init 98 = .ok (.iconst 0, 1) := by decide +kernel
theorem dX8_init_99 : decode cX8_init 99 = .ok (.putfield 53, 3) := by decide +kernel
theorem dX8_init_102 : decode cX8_init 102 = .ok (.aload_n 0, 1) := by decide +kernel
theorem dX8_init_103 : decode cX8_init 103 = .ok (.iconst 0, 1) := by decide +kernel
theorem dX8_init_104 : decode cX8_init 104 = .ok (.putfield 56, 3) := by decide +kernel
theorem dX8_init_107 : decode cX8_init 107 = .ok (.aload_n 0, 1) := by decide +kernel
theorem dX8_init_108 : decode cX8_init 108 = .ok (.new 59, 3) := by decide +kernel
theorem dX8_init_111 : decode cX8_init 111 = .ok (.dup, 1) := by decide +kernel
theorem dX8_init_112 : decode cX8_init 112 = .ok (.sipush 200, 3) := by decide +kernel
theorem dX8_init_115 : decode cX8_init 115 = .ok (.invokespecial 61, 3) := by decide +kernel
theorem dX8_init_118 : decode cX8_init 118 = .ok (.putfield 64, 3) := by decide +kernel
theorem dX8_init_121 : decode cX8_init 121 = .ok (.aload_n 0, 1) := by decide +kernel
theorem dX8_init_122 : decode cX8_init 122 = .ok (.new 59, 3) := by decide +kernel
theorem dX8_init_125 : decode cX8_init 125 = .ok (.dup, 1) := by decide +kernel
theorem dX8_init_126 : decode cX8_init 126 = .ok (.bipush 40, 2) := by decide +kernel
theorem dX8_init_128 : decode cX8_init 128 = .ok (.invokespecial 61, 3) := by decide +kernel
theorem dX8_init_131 : decode cX8_init 131 = .ok (.putfield 68, 3) := by decide +kernel
theorem dX8_init_134 : decode cX8_init 134 = .ok (.aload_n 0, 1) := by decide +kernel
theorem dX8_init_135 : decode cX8_init 135 = .ok (.new 59, 3) := by decide +kernel
theorem dX8_init_138 : decode cX8_init 138 = .ok (.dup, 1) := by decide +kernel
theorem dX8_init_139 : decode cX8_init 139 = .ok (.sipush 400, 3) := by decide +kernel
theorem dX8_init_142 : decode cX8_init 142 = .ok (.invokespecial 61, 3) := by decide +kernel
theorem dX8_init_145 : decode cX8_init 145 = .ok (.putfield 71, 3) := by decide +kernel
theorem dX8_init_148 : decode cX8_init 148 = .ok (.return_, 1) := by decide +kernel
theorem dX8_append_0 : decode cX8_append 0 = .ok (.aload_n 0, 1) := by decide +kernel
theorem dX8_append_1 : decode cX8_append 1 = .ok (.getfield 10, 3) := by decide +kernel
theorem dX8_append_4 : decode cX8_append 4 = .ok (.getfield 74, 3) := by decide +kernel
theorem dX8_append_7 : decode cX8_append 7 = .ok (.bipush 20, 2) := by decide +kernel
theorem dX8_append_9 : decode cX8_append 9 = .ok (.iadd, 1) := by decide +kernel
theorem dX8_append_10 : decode cX8_append 10 = .ok (.sipush 1200, 3) := by decide +kernel
theorem dX8_append_13 : decode cX8_append 13 = .ok (.if_icmp .le 5, 3) := by decide +kernel
theorem dX8_append_16 : decode cX8_append 16 = .ok (.iconst (-1), 1) := by decide +kernel
theorem dX8_append_17 : decode cX8_append 17 = .ok (.ireturn, 1) := by decide +kernel
theorem dX8_append_18 : decode cX8_append 18 = .ok (.aload_n 0, 1) := by decide +kernel
theorem dX8_append_19 : decode cX8_append 19 = .ok (.getfield 10, 3) := by decide +kernel
theorem dX8_append_22 : decode cX8_append 22 = .ok (.iload_n 1, 1) := by decide +kernel
theorem dX8_append_23 : decode cX8_append 23 = .ok (.invokevirtual 78, 3) := by decide +kernel
theorem dX8_append_26 : decode cX8_append 26 = .ok (.aload_n 0, 1) := by decide +kernel
theorem dX8_append_27 : decode cX8_append 27 = .ok (.getfield 10, 3) := by decide +kernel
theorem dX8_append_30 : decode cX8_append 30 = .ok (.iload_n 2, 1) := by decide +kernel
theorem dX8_append_31 : decode cX8_append 31 = .ok (.invokevirtual 78, 3) := by decide +kernel
theorem dX8_append_34 : decode cX8_append 34 = .ok (.aload_n 0, 1) := by decide +kernel
theorem dX8_append_35 : decode cX8_append 35 = .ok (.getfield 10, 3) := by decide +kernel
theorem dX8_append_38 : decode cX8_append 38 = .ok (.iload_n 3, 1) := by decide +kernel
theorem dX8_append_39 : decode cX8_append 39 = .ok (.invokevirtual 78, 3) := by decide +kernel
theorem dX8_append_42 : decode cX8_append 42 = .ok (.aload_n 0, 1) := by decide +kernel
theorem dX8_append_43 : decode cX8_append 43 = .ok (.getfield 10, 3) := by decide +kernel
theorem dX8_append_46 : decode cX8_append 46 = .ok (.iload 4, 2) := by decide +kernel
theorem dX8_append_48 : decode cX8_append 48 = .ok (.invokevirtual 78, 3) := by decide +kernel
theorem dX8_append_51 : decode cX8_append 51 = .ok (.aload_n 0, 1) := by decide +kernel
theorem dX8_append_52 : decode cX8_append 52 = .ok (.getfield 10, 3) := by decide +kernel
theorem dX8_append_55 : decode cX8_append 55 = .ok (.iload 5, 2) := by decide +kernel
theorem dX8_append_57 : decode cX8_append 57 = .ok (.invokevirtual 78, 3) := by decide +kernel
theorem dX8_append_60 : decode cX8_append 60 = .ok (.aload_n 0, 1) := by decide +kernel
theorem dX8_append_61 : decode cX8_append 61 = .ok (.getfield 10, 3) := by decide +kernel
theorem dX8_append_64 : decode cX8_append 64 = .ok (.getfield 74, 3) := by decide +kernel
theorem dX8_append_67 : decode cX8_append 67 = .ok (.ireturn, 1) := by decide +kernel
theorem dX8_load_0 : decode cX8_load 0 = .ok (.iload_n 1, 1) := by decide +kernel
theorem dX8_load_1 : decode cX8_load 1 = .ok (.ifCond .lt 14, 3) := by decide +kernel
theorem dX8_load_4 : decode cX8_load 4 = .ok (.iload_n 1, 1) := by decide +kernel
theorem dX8_load_5 : decode cX8_load 5 = .ok (.aload_n 0, 1) := by decide +kernel
theorem dX8_load_6 : decode cX8_load 6 = .ok (.getfield 10, 3) := by decide +kernel
theorem dX8_load_9 : decode cX8_load 9 = .ok (.getfield 74, 3) := by decide +kernel
theorem dX8_load_12 : decode cX8_load 12 = .ok (.if_icmp .le 13, 3) := by decide +kernel
theorem dX8_load_15 : decode cX8_load 15 = .ok (.new 81, 3) := by decide +kernel
theorem dX8_load_18 : decode cX8_load 18 = .ok (.dup, 1) := by decide +kernel
theorem dX8_load_19 : decode cX8_load 19 = .ok (.ldc 83, 2) := by decide +kernel
theorem dX8_load_21 : decode cX8_load 21 = .ok (.invokespecial 85, 3) := by decide +kernel
theorem dX8_load_24 : decode cX8_load 24 = .ok (.athrow, 1) := by decide +kernel
theorem dX8_load_25 : decode cX8_load 25 = .ok (.aload_n 0, 1) := by decide +kernel
theorem dX8_load_26 : decode cX8_load 26 = .ok (.getfield 10, 3) := by decide +kernel
theorem dX8_load_29 : decode cX8_load 29 = .ok (.iconst 0, 1) := by decide +kernel
theorem dX8_load_30 : decode cX8_load 30 = .ok (.putfield 74, 3) := by decide +kernel
theorem dX8_load_33 : decode cX8_load 33 = .ok (.aload_n 0, 1) := by decide +kernel
theorem dX8_load_34 : decode cX8_load 34 = .ok (.getfield 10, 3) := by decide +kernel
theorem dX8_load_37 : decode cX8_load 37 = .ok (.iload_n 1, 1) := by decide +kernel
theorem dX8_load_38 : decode cX8_load 38 = .ok (.aload_n 0, 1) := by decide +kernel
theorem dX8_load_39 : decode cX8_load 39 = .ok (.getfield 27, 3) := by decide +kernel
theorem dX8_load_42 : decode cX8_load 42 = .ok (.aload_n 0, 1) := by decide +kernel
theorem dX8_load_43 : decode cX8_load 43 = .ok (.getfield 37, 3) := by decide +kernel
theorem dX8_load_46 : decode cX8_load 46 = .ok (.invokevirtual 88, 3) := by decide +kernel
theorem dX8_load_49 : decode cX8_load 49 = .ok (.aload_n 0, 1) := by decide +kernel
theorem dX8_load_50 : decode cX8_load 50 = .ok (.invokevirtual 92, 3) := by decide +kernel
theorem dX8_load_53 : decode cX8_load 53 = .ok (.aload_n 0, 1) := by decide +kernel
theorem dX8_load_54 : decode cX8_load 54 = .ok (.getfield 33, 3) := by decide +kernel
theorem dX8_load_57 : decode cX8_load 57 = .ok (.getfield 95, 3) := by decide +kernel
theorem dX8_load_60 : decode cX8_load 60 = .ok (.getfield 99, 3) := by decide +kernel
theorem dX8_load_63 : decode cX8_load 63 = .ok (.ireturn, 1) := by decide +kernel
theorem dX8_parseError_0 : decode cX8_parseError 0 = .ok (.aload_n 0, 1) := by decide +kernel
theorem dX8_parseError_1 : decode cX8_parseError 1 = .ok (.getfield 10, 3) := by decide +kernel
theorem dX8_parseError_4 : decode cX8_parseError 4 = .ok (.getfield 104, 3) := by decide +kernel
theorem dX8_parseError_7 : decode cX8_parseError 7 = .ok (.ireturn, 1) := by decide +kernel
theorem dX8_errorPosition_0 : decode cX8_errorPosition 0 = .ok (.aload_n 0, 1) := by decide +kernel
theorem dX8_errorPosition_1 : decode cX8_errorPosition 1 = .ok (.getfield 10, 3) := by decide +kernel
theorem dX8_errorPosition_4 : decode cX8_errorPosition 4 = .ok (.getfield 107, 3) := by decide +kernel
theorem dX8_errorPosition_7 : decode cX8_errorPosition 7 = .ok (.ireturn, 1) := by decide +kernel
theorem dX8_buffered_0 : decode cX8_buffered 0 = .ok (.aload_n 0, 1) := by decide +kernel
theorem dX8_buffered_1 : decode cX8_buffered 1 = .ok (.getfield 10, 3) := by decide +kernel
theorem dX8_buffered_4 : decode cX8_buffered 4 = .ok (.getfield 74, 3) := by decide +kernel
theorem dX8_buffered_7 : decode cX8_buffered 7 = .ok (.ireturn, 1) := by decide +kernel
theorem dX8_time_0 : decode cX8_time 0 = .ok (.aload_n 0, 1) := by decide +kernel
theorem dX8_time_1 : decode cX8_time 1 = .ok (.getfield 33, 3) := by decide +kernel
theorem dX8_time_4 : decode cX8_time 4 = .ok (.getfield 110, 3) := by decide +kernel
theorem dX8_time_7 : decode cX8_time 7 = .ok (.ireturn, 1) := by decide +kernel
theorem dX8_bags_0 : decode cX8_bags 0 = .ok (.aload_n 0, 1) := by decide +kernel
theorem dX8_bags_1 : decode cX8_bags 1 = .ok (.getfield 33, 3) := by decide +kernel
theorem dX8_bags_4 : decode cX8_bags 4 = .ok (.getfield 95, 3) := by decide +kernel
theorem dX8_bags_7 : decode cX8_bags 7 = .ok (.getfield 99, 3) := by decide +kernel
theorem dX8_bags_10 : decode cX8_bags 10 = .ok (.ireturn, 1) := by decide +kernel
theorem dX8_stateOf_0 : decode cX8_stateOf 0 = .ok (.aload_n 0, 1) := by decide +kernel
theorem dX8_stateOf_1 : decode cX8_stateOf 1 = .ok (.iload_n 1, 1) := by decide +kernel
theorem dX8_stateOf_2 : decode cX8_stateOf 2 = .ok (.invokevirtual 113, 3) := by decide +kernel
theorem dX8_stateOf_5 : decode cX8_stateOf 5 = .ok (.aload_n 0, 1) := by decide +kernel
theorem dX8_stateOf_6 : decode cX8_stateOf 6 = .ok (.getfield 33, 3) := by decide +kernel
theorem dX8_stateOf_9 : decode cX8_stateOf 9 = .ok (.getfield 95, 3) := by decide +kernel
theorem dX8_stateOf_12 : decode cX8_stateOf 12 = .ok (.getfield 116, 3) := by decide +kernel
theorem dX8_stateOf_15 : decode cX8_stateOf 15 = .ok (.iload_n 1, 1) := by decide +kernel
theorem dX8_stateOf_16 : decode cX8_stateOf 16 = .ok (.invokestatic 120, 3) := by decide +kernel
theorem dX8_stateOf_19 : decode cX8_stateOf 19 = .ok (.ireturn, 1) := by decide +kernel
theorem dX8_flightOf_0 : decode cX8_flightOf 0 = .ok (.aload_n 0, 1) := by decide +kernel
theorem dX8_flightOf_1 : decode cX8_flightOf 1 = .ok (.iload_n 1, 1) := by decide +kernel
theorem dX8_flightOf_2 : decode cX8_flightOf 2 = .ok (.invokevirtual 113, 3) := by decide +kernel
theorem dX8_flightOf_5 : decode cX8_flightOf 5 = .ok (.aload_n 0, 1) := by decide +kernel
theorem dX8_flightOf_6 : decode cX8_flightOf 6 = .ok (.getfield 33, 3) := by decide +kernel
theorem dX8_flightOf_9 : decode cX8_flightOf 9 = .ok (.getfield 95, 3) := by decide +kernel
theorem dX8_flightOf_12 : decode cX8_flightOf 12 = .ok (.getfield 124, 3) := by decide +kernel
theorem dX8_flightOf_15 : decode cX8_flightOf 15 = .ok (.iload_n 1, 1) := by decide +kernel
theorem dX8_flightOf_16 : decode cX8_flightOf 16 = .ok (.invokestatic 120, 3) := by decide +kernel
theorem dX8_flightOf_19 : decode cX8_flightOf 19 = .ok (.ireturn, 1) := by decide +kernel
theorem dX8_arrivalOf_0 : decode cX8_arrivalOf 0 = .ok (.aload_n 0, 1) := by decide +kernel
theorem dX8_arrivalOf_1 : decode cX8_arrivalOf 1 = .ok (.iload_n 1, 1) := by decide +kernel
theorem dX8_arrivalOf_2 : decode cX8_arrivalOf 2 = .ok (.invokevirtual 113, 3) := by decide +kernel
theorem dX8_arrivalOf_5 : decode cX8_arrivalOf 5 = .ok (.aload_n 0, 1) := by decide +kernel
theorem dX8_arrivalOf_6 : decode cX8_arrivalOf 6 = .ok (.getfield 33, 3) := by decide +kernel
theorem dX8_arrivalOf_9 : decode cX8_arrivalOf 9 = .ok (.getfield 95, 3) := by decide +kernel
theorem dX8_arrivalOf_12 : decode cX8_arrivalOf 12 = .ok (.getfield 127, 3) := by decide +kernel
theorem dX8_arrivalOf_15 : decode cX8_arrivalOf 15 = .ok (.iload_n 1, 1) := by decide +kernel
theorem dX8_arrivalOf_16 : decode cX8_arrivalOf 16 = .ok (.invokestatic 120, 3) := by decide +kernel
theorem dX8_arrivalOf_19 : decode cX8_arrivalOf 19 = .ok (.ireturn, 1) := by decide +kernel
theorem dX8_positionOf_0 : decode cX8_positionOf 0 = .ok (.aload_n 0, 1) := by decide +kernel
theorem dX8_positionOf_1 : decode cX8_positionOf 1 = .ok (.iload_n 1, 1) := by decide +kernel
theorem dX8_positionOf_2 : decode cX8_positionOf 2 = .ok (.invokevirtual 113, 3) := by decide +kernel
theorem dX8_positionOf_5 : decode cX8_positionOf 5 = .ok (.aload_n 0, 1) := by decide +kernel
theorem dX8_positionOf_6 : decode cX8_positionOf 6 = .ok (.getfield 33, 3) := by decide +kernel
theorem dX8_positionOf_9 : decode cX8_positionOf 9 = .ok (.iload_n 1, 1) := by decide +kernel
theorem dX8_positionOf_10 : decode cX8_positionOf 10 = .ok (.invokevirtual 130, 3) := by decide +kernel
theorem dX8_positionOf_13 : decode cX8_positionOf 13 = .ok (.ireturn, 1) := by decide +kernel
theorem dX8_lapsOf_0 : decode cX8_lapsOf 0 = .ok (.aload_n 0, 1) := by decide +kernel
theorem dX8_lapsOf_1 : decode cX8_lapsOf 1 = .ok (.iload_n 1, 1) := by decide +kernel
theorem dX8_lapsOf_2 : decode cX8_lapsOf 2 = .ok (.invokevirtual 113, 3) := by decide +kernel
theorem dX8_lapsOf_5 : decode cX8_lapsOf 5 = .ok (.aload_n 0, 1) := by decide +kernel
theorem dX8_lapsOf_6 : decode cX8_lapsOf 6 = .ok (.getfield 33, 3) := by decide +kernel
theorem dX8_lapsOf_9 : decode cX8_lapsOf 9 = .ok (.getfield 95, 3) := by decide +kernel
theorem dX8_lapsOf_12 : decode cX8_lapsOf 12 = .ok (.getfield 134, 3) := by decide +kernel
theorem dX8_lapsOf_15 : decode cX8_lapsOf 15 = .ok (.iload_n 1, 1) := by decide +kernel
theorem dX8_lapsOf_16 : decode cX8_lapsOf 16 = .ok (.invokestatic 120, 3) := by decide +kernel
theorem dX8_lapsOf_19 : decode cX8_lapsOf 19 = .ok (.ireturn, 1) := by decide +kernel
theorem dX8_levelOf_0 : decode cX8_levelOf 0 = .ok (.aload_n 0, 1) := by decide +kernel
theorem dX8_levelOf_1 : decode cX8_levelOf 1 = .ok (.iload_n 1, 1) := by decide +kernel
theorem dX8_levelOf_2 : decode cX8_levelOf 2 = .ok (.invokevirtual 113, 3) := by decide +kernel
theorem dX8_levelOf_5 : decode cX8_levelOf 5 = .ok (.aload_n 0, 1) := by decide +kernel
theorem dX8_levelOf_6 : decode cX8_levelOf 6 = .ok (.getfield 33, 3) := by decide +kernel
theorem dX8_levelOf_9 : decode cX8_levelOf 9 = .ok (.getfield 95, 3) := by decide +kernel
theorem dX8_levelOf_12 : decode cX8_levelOf 12 = .ok (.getfield 137, 3) := by decide +kernel
theorem dX8_levelOf_15 : decode cX8_levelOf 15 = .ok (.iload_n 1, 1) := by decide +kernel
theorem dX8_levelOf_16 : decode cX8_levelOf 16 = .ok (.invokestatic 120, 3) := by decide +kernel
theorem dX8_levelOf_19 : decode cX8_levelOf 19 = .ok (.ireturn, 1) := by decide +kernel
theorem dX8_laneOf_0 : decode cX8_laneOf 0 = .ok (.aload_n 0, 1) := by decide +kernel
theorem dX8_laneOf_1 : decode cX8_laneOf 1 = .ok (.iload_n 1, 1) := by decide +kernel
theorem dX8_laneOf_2 : decode cX8_laneOf 2 = .ok (.invokevirtual 113, 3) := by decide +kernel
theorem dX8_laneOf_5 : decode cX8_laneOf 5 = .ok (.aload_n 0, 1) := by decide +kernel
theorem dX8_laneOf_6 : decode cX8_laneOf 6 = .ok (.getfield 33, 3) := by decide +kernel
theorem dX8_laneOf_9 : decode cX8_laneOf 9 = .ok (.iload_n 1, 1) := by decide +kernel
theorem dX8_laneOf_10 : decode cX8_laneOf 10 = .ok (.invokevirtual 140, 3) := by decide +kernel
theorem dX8_laneOf_13 : decode cX8_laneOf 13 = .ok (.ireturn, 1) := by decide +kernel
theorem dX8_ticksTo_0 : decode cX8_ticksTo 0 = .ok (.aload_n 0, 1) := by decide +kernel
theorem dX8_ticksTo_1 : decode cX8_ticksTo 1 = .ok (.iload_n 1, 1) := by decide +kernel
theorem dX8_ticksTo_2 : decode cX8_ticksTo 2 = .ok (.invokevirtual 113, 3) := by decide +kernel
theorem dX8_ticksTo_5 : decode cX8_ticksTo 5 = .ok (.aload_n 0, 1) := by decide +kernel
theorem dX8_ticksTo_6 : decode cX8_ticksTo 6 = .ok (.getfield 33, 3) := by decide +kernel
theorem dX8_ticksTo_9 : decode cX8_ticksTo 9 = .ok (.iload_n 1, 1) := by decide +kernel
theorem dX8_ticksTo_10 : decode cX8_ticksTo 10 = .ok (.invokevirtual 130, 3) := by decide +kernel
theorem dX8_ticksTo_13 : decode cX8_ticksTo 13 = .ok (.istore_n 2, 1) := by decide +kernel
theorem dX8_ticksTo_14 : decode cX8_ticksTo 14 = .ok (.iload_n 2, 1) := by decide +kernel
theorem dX8_ticksTo_15 : decode cX8_ticksTo 15 = .ok (.iconst (-1), 1) := by decide +kernel
theorem dX8_ticksTo_16 : decode cX8_ticksTo 16 = .ok (.if_icmp .ne 5, 3) := by decide +kernel
theorem dX8_ticksTo_19 : decode cX8_ticksTo 19 = .ok (.iconst (-1), 1) := by decide +kernel
theorem dX8_ticksTo_20 : decode cX8_ticksTo 20 = .ok (.ireturn, 1) := by decide +kernel
theorem dX8_ticksTo_21 : decode cX8_ticksTo 21 = .ok (.aload_n 0, 1) := by decide +kernel
theorem dX8_ticksTo_22 : decode cX8_ticksTo 22 = .ok (.getfield 23, 3) := by decide +kernel
theorem dX8_ticksTo_25 : decode cX8_ticksTo 25 = .ok (.getfield 143, 3) := by decide +kernel
theorem dX8_ticksTo_28 : decode cX8_ticksTo 28 = .ok (.aload_n 0, 1) := by decide +kernel
theorem dX8_ticksTo_29 : decode cX8_ticksTo 29 = .ok (.getfield 33, 3) := by decide +kernel
theorem dX8_ticksTo_32 : decode cX8_ticksTo 32 = .ok (.getfield 95, 3) := by decide +kernel
theorem dX8_ticksTo_35 : decode cX8_ticksTo 35 = .ok (.getfield 124, 3) := by decide +kernel
theorem dX8_ticksTo_38 : decode cX8_ticksTo 38 = .ok (.iload_n 1, 1) := by decide +kernel
theorem dX8_ticksTo_39 : decode cX8_ticksTo 39 = .ok (.invokestatic 120, 3) := by decide +kernel
theorem dX8_ticksTo_42 : decode cX8_ticksTo 42 = .ok (.invokestatic 120, 3) := by decide +kernel
theorem dX8_ticksTo_45 : decode cX8_ticksTo 45 = .ok (.iload_n 2, 1) := by decide +kernel
theorem dX8_ticksTo_46 : decode cX8_ticksTo 46 = .ok (.isub, 1) := by decide +kernel
theorem dX8_ticksTo_47 : decode cX8_ticksTo 47 = .ok (.istore_n 3, 1) := by decide +kernel
theorem dX8_ticksTo_48 : decode cX8_ticksTo 48 = .ok (.iload_n 3, 1) := by decide +kernel
theorem dX8_ticksTo_49 : decode cX8_ticksTo 49 = .ok (.ifCond .ge 15, 3) := by decide +kernel
theorem dX8_ticksTo_52 : decode cX8_ticksTo 52 = .ok (.iload_n 3, 1) := by decide +kernel
theorem dX8_ticksTo_53 : decode cX8_ticksTo 53 = .ok (.aload_n 0, 1) := by decide +kernel
theorem dX8_ticksTo_54 : decode cX8_ticksTo 54 = .ok (.getfield 23, 3) := by decide +kernel
theorem dX8_ticksTo_57 : decode cX8_ticksTo 57 = .ok (.getfield 146, 3) := by decide +kernel
theorem dX8_ticksTo_60 : decode cX8_ticksTo 60 = .ok (.iadd, 1) := by decide +kernel
theorem dX8_ticksTo_61 : decode cX8_ticksTo 61 = .ok (.goto 4, 3) := by decide +kernel
theorem dX8_ticksTo_64 : decode cX8_ticksTo 64 = .ok (.iload_n 3, 1) := by decide +kernel
theorem dX8_ticksTo_65 : decode cX8_ticksTo 65 = .ok (.ireturn, 1) := by decide +kernel
theorem dX8_finishedAt_0 : decode cX8_finishedAt 0 = .ok (.aload_n 0, 1) := by decide +kernel
theorem dX8_finishedAt_1 : decode cX8_finishedAt 1 = .ok (.iload_n 1, 1) := by decide +kernel
theorem dX8_finishedAt_2 : decode cX8_finishedAt 2 = .ok (.invokevirtual 113, 3) := by decide +kernel
theorem dX8_finishedAt_5 : decode cX8_finishedAt 5 = .ok (.aload_n 0, 1) := by decide +kernel
theorem dX8_finishedAt_6 : decode cX8_finishedAt 6 = .ok (.getfield 33, 3) := by decide +kernel
theorem dX8_finishedAt_9 : decode cX8_finishedAt 9 = .ok (.getfield 95, 3) := by decide +kernel
theorem dX8_finishedAt_12 : decode cX8_finishedAt 12 = .ok (.getfield 116, 3) := by decide +kernel
theorem dX8_finishedAt_15 : decode cX8_finishedAt 15 = .ok (.iload_n 1, 1) := by decide +kernel
theorem dX8_finishedAt_16 : decode cX8_finishedAt 16 = .ok (.invokestatic 120, 3) := by decide +kernel
theorem dX8_finishedAt_19 : decode cX8_finishedAt 19 = .ok (.invokestatic 149, 3) := by decide +kernel
theorem dX8_finishedAt_22 : decode cX8_finishedAt 22 = .ok (.ifCond .eq 20, 3) := by decide +kernel
theorem dX8_finishedAt_25 : decode cX8_finishedAt 25 = .ok (.aload_n 0, 1) := by decide +kernel
theorem dX8_finishedAt_26 : decode cX8_finishedAt 26 = .ok (.getfield 33, 3) := by decide +kernel
theorem dX8_finishedAt_29 : decode cX8_finishedAt 29 = .ok (.getfield 95, 3) := by decide +kernel
theorem dX8_finishedAt_32 : decode cX8_finishedAt 32 = .ok (.getfield 153, 3) := by decide +kernel
theorem dX8_finishedAt_35 : decode cX8_finishedAt 35 = .ok (.iload_n 1, 1) := by decide +kernel
theorem dX8_finishedAt_36 : decode cX8_finishedAt 36 = .ok (.invokestatic 120, 3) := by decide +kernel
theorem dX8_finishedAt_39 : decode cX8_finishedAt 39 = .ok (.goto 4, 3) := by decide +kernel
theorem dX8_finishedAt_42 : decode cX8_finishedAt 42 = .ok (.iconst (-1), 1) := by decide +kernel
theorem dX8_finishedAt_43 : decode cX8_finishedAt 43 = .ok (.ireturn, 1) := by decide +kernel
theorem dX8_isHot_0 : decode cX8_isHot 0 = .ok (.aload_n 0, 1) := by decide +kernel
theorem dX8_isHot_1 : decode cX8_isHot 1 = .ok (.iload_n 1, 1) := by decide +kernel
theorem dX8_isHot_2 : decode cX8_isHot 2 = .ok (.invokevirtual 113, 3) := by decide +kernel
theorem dX8_isHot_5 : decode cX8_isHot 5 = .ok (.aload_n 0, 1) := by decide +kernel
theorem dX8_isHot_6 : decode cX8_isHot 6 = .ok (.getfield 33, 3) := by decide +kernel
theorem dX8_isHot_9 : decode cX8_isHot 9 = .ok (.getfield 156, 3) := by decide +kernel
theorem dX8_isHot_12 : decode cX8_isHot 12 = .ok (.aload_n 0, 1) := by decide +kernel
theorem dX8_isHot_13 : decode cX8_isHot 13 = .ok (.getfield 33, 3) := by decide +kernel
theorem dX8_isHot_16 : decode cX8_isHot 16 = .ok (.getfield 95, 3) := by decide +kernel
theorem dX8_isHot_19 : decode cX8_isHot 19 = .ok (.getfield 124, 3) := by decide +kernel
theorem dX8_isHot_22 : decode cX8_isHot 22 = .ok (.iload_n 1, 1) := by decide +kernel
theorem dX8_isHot_23 : decode cX8_isHot 23 = .ok (.invokestatic 120, 3) := by decide +kernel
theorem dX8_isHot_26 : decode cX8_isHot 26 = .ok (.invokestatic 120, 3) := by decide +kernel
theorem dX8_isHot_29 : decode cX8_isHot 29 = .ok (.aload_n 0, 1) := by decide +kernel
theorem dX8_isHot_30 : decode cX8_isHot 30 = .ok (.getfield 33, 3) := by decide +kernel
theorem dX8_isHot_33 : decode cX8_isHot 33 = .ok (.getfield 110, 3) := by decide +kernel
theorem dX8_isHot_36 : decode cX8_isHot 36 = .ok (.isub, 1) := by decide +kernel
theorem dX8_isHot_37 : decode cX8_isHot 37 = .ok (.aload_n 0, 1) := by decide +kernel
theorem dX8_isHot_38 : decode cX8_isHot 38 = .ok (.getfield 33, 3) := by decide +kernel
theorem dX8_isHot_41 : decode cX8_isHot 41 = .ok (.getfield 159, 3) := by decide +kernel
theorem dX8_isHot_44 : decode cX8_isHot 44 = .ok (.if_icmp .gt 7, 3) := by decide +kernel
theorem dX8_isHot_47 : decode cX8_isHot 47 = .ok (.iconst 1, 1) := by decide +kernel
theorem dX8_isHot_48 : decode cX8_isHot 48 = .ok (.goto 4, 3) := by decide +kernel
theorem dX8_isHot_51 : decode cX8_isHot 51 = .ok (.iconst 0, 1) := by decide +kernel
theorem dX8_isHot_52 : decode cX8_isHot 52 = .ok (.ireturn, 1) := by decide +kernel
theorem dX8_isKept_0 : decode cX8_isKept 0 = .ok (.aload_n 0, 1) := by decide +kernel
theorem dX8_isKept_1 : decode cX8_isKept 1 = .ok (.iload_n 1, 1) := by decide +kernel
theorem dX8_isKept_2 : decode cX8_isKept 2 = .ok (.invokevirtual 113, 3) := by decide +kernel
theorem dX8_isKept_5 : decode cX8_isKept 5 = .ok (.aload_n 0, 1) := by decide +kernel
theorem dX8_isKept_6 : decode cX8_isKept 6 = .ok (.getfield 23, 3) := by decide +kernel
theorem dX8_isKept_9 : decode cX8_isKept 9 = .ok (.aload_n 0, 1) := by decide +kernel
theorem dX8_isKept_10 : decode cX8_isKept 10 = .ok (.getfield 33, 3) := by decide +kernel
theorem dX8_isKept_13 : decode cX8_isKept 13 = .ok (.iload_n 1, 1) := by decide +kernel
theorem dX8_isKept_14 : decode cX8_isKept 14 = .ok (.invokestatic 162, 3) := by decide +kernel
theorem dX8_isKept_17 : decode cX8_isKept 17 = .ok (.ireturn, 1) := by decide +kernel
theorem dX8_bagAt_0 : decode cX8_bagAt 0 = .ok (.aload_n 0, 1) := by decide +kernel
theorem dX8_bagAt_1 : decode cX8_bagAt 1 = .ok (.invokevirtual 168, 3) := by decide +kernel
theorem dX8_bagAt_4 : decode cX8_bagAt 4 = .ok (.iload_n 1, 1) := by decide +kernel
theorem dX8_bagAt_5 : decode cX8_bagAt 5 = .ok (.aload_n 0, 1) := by decide +kernel
theorem dX8_bagAt_6 : decode cX8_bagAt 6 = .ok (.getfield 23, 3) := by decide +kernel
theorem dX8_bagAt_9 : decode cX8_bagAt 9 = .ok (.getfield 146, 3) := by decide +kernel
theorem dX8_bagAt_12 : decode cX8_bagAt 12 = .ok (.invokestatic 171, 3) := by decide +kernel
theorem dX8_bagAt_15 : decode cX8_bagAt 15 = .ok (.aload_n 0, 1) := by decide +kernel
theorem dX8_bagAt_16 : decode cX8_bagAt 16 = .ok (.getfield 33, 3) := by decide +kernel
theorem dX8_bagAt_19 : decode cX8_bagAt 19 = .ok (.getfield 175, 3) := by decide +kernel
theorem dX8_bagAt_22 : decode cX8_bagAt 22 = .ok (.iload_n 1, 1) := by decide +kernel
theorem dX8_bagAt_23 : decode cX8_bagAt 23 = .ok (.invokestatic 120, 3) := by decide +kernel
theorem dX8_bagAt_26 : decode cX8_bagAt 26 = .ok (.ireturn, 1) := by decide +kernel
theorem dX8_loopLoad_0 : decode cX8_loopLoad 0 = .ok (.aload_n 0, 1) := by decide +kernel
theorem dX8_loopLoad_1 : decode cX8_loopLoad 1 = .ok (.getfield 33, 3) := by decide +kernel
theorem dX8_loopLoad_4 : decode cX8_loopLoad 4 = .ok (.getfield 95, 3) := by decide +kernel
theorem dX8_loopLoad_7 : decode cX8_loopLoad 7 = .ok (.getfield 178, 3) := by decide +kernel
theorem dX8_loopLoad_10 : decode cX8_loopLoad 10 = .ok (.bipush 8, 2) := by decide +kernel
theorem dX8_loopLoad_12 : decode cX8_loopLoad 12 = .ok (.invokestatic 120, 3) := by decide +kernel
theorem dX8_loopLoad_15 : decode cX8_loopLoad 15 = .ok (.ireturn, 1) := by decide +kernel
theorem dX8_waiting_0 : decode cX8_waiting 0 = .ok (.aload_n 0, 1) := by decide +kernel
theorem dX8_waiting_1 : decode cX8_waiting 1 = .ok (.invokevirtual 168, 3) := by decide +kernel
theorem dX8_waiting_4 : decode cX8_waiting 4 = .ok (.iload_n 1, 1) := by decide +kernel
theorem dX8_waiting_5 : decode cX8_waiting 5 = .ok (.iconst 1, 1) := by decide +kernel
theorem dX8_waiting_6 : decode cX8_waiting 6 = .ok (.iconst 4, 1) := by decide +kernel
theorem dX8_waiting_7 : decode cX8_waiting 7 = .ok (.invokestatic 181, 3) := by decide +kernel
theorem dX8_waiting_10 : decode cX8_waiting 10 = .ok (.aload_n 0, 1) := by decide +kernel
theorem dX8_waiting_11 : decode cX8_waiting 11 = .ok (.getfield 33, 3) := by decide +kernel
theorem dX8_waiting_14 : decode cX8_waiting 14 = .ok (.getfield 95, 3) := by decide +kernel
theorem dX8_waiting_17 : decode cX8_waiting 17 = .ok (.getfield 178, 3) := by decide +kernel
theorem dX8_waiting_20 : decode cX8_waiting 20 = .ok (.iload_n 1, 1) := by decide +kernel
theorem dX8_waiting_21 : decode cX8_waiting 21 = .ok (.invokestatic 185, 3) := by decide +kernel
theorem dX8_waiting_24 : decode cX8_waiting 24 = .ok (.invokestatic 120, 3) := by decide +kernel
theorem dX8_waiting_27 : decode cX8_waiting 27 = .ok (.ireturn, 1) := by decide +kernel
theorem dX8_queueAt_0 : decode cX8_queueAt 0 = .ok (.aload_n 0, 1) := by decide +kernel
theorem dX8_queueAt_1 : decode cX8_queueAt 1 = .ok (.invokevirtual 168, 3) := by decide +kernel
theorem dX8_queueAt_4 : decode cX8_queueAt 4 = .ok (.iload_n 1, 1) := by decide +kernel
theorem dX8_queueAt_5 : decode cX8_queueAt 5 = .ok (.iconst 1, 1) := by decide +kernel
theorem dX8_queueAt_6 : decode cX8_queueAt 6 = .ok (.isub, 1) := by decide +kernel
theorem dX8_queueAt_7 : decode cX8_queueAt 7 = .ok (.iconst 4, 1) := by decide +kernel
theorem dX8_queueAt_8 : decode cX8_queueAt 8 = .ok (.invokestatic 171, 3) := by decide +kernel
theorem dX8_queueAt_11 : decode cX8_queueAt 11 = .ok (.iload_n 2, 1) := by decide +kernel
theorem dX8_queueAt_12 : decode cX8_queueAt 12 = .ok (.aload_n 0, 1) := by decide +kernel
theorem dX8_queueAt_13 : decode cX8_queueAt 13 = .ok (.getfield 33, 3) := by decide +kernel
theorem dX8_queueAt_16 : decode cX8_queueAt 16 = .ok (.getfield 95, 3) := by decide +kernel
theorem dX8_queueAt_19 : decode cX8_queueAt 19 = .ok (.getfield 178, 3) := by decide +kernel
theorem dX8_queueAt_22 : decode cX8_queueAt 22 = .ok (.iload_n 1, 1) := by decide +kernel
theorem dX8_queueAt_23 : decode cX8_queueAt 23 = .ok (.invokestatic 185, 3) := by decide +kernel
theorem dX8_queueAt_26 : decode cX8_queueAt 26 = .ok (.invokestatic 120, 3) := by decide +kernel
theorem dX8_queueAt_29 : decode cX8_queueAt 29 = .ok (.invokestatic 171, 3) := by decide +kernel
theorem dX8_queueAt_32 : decode cX8_queueAt 32 = .ok (.aload_n 0, 1) := by decide +kernel
theorem dX8_queueAt_33 : decode cX8_queueAt 33 = .ok (.getfield 33, 3) := by decide +kernel
theorem dX8_queueAt_36 : decode cX8_queueAt 36 = .ok (.iload_n 1, 1) := by decide +kernel
theorem dX8_queueAt_37 : decode cX8_queueAt 37 = .ok (.invokestatic 185, 3) := by decide +kernel
theorem dX8_queueAt_40 : decode cX8_queueAt 40 = .ok (.iload_n 2, 1) := by decide +kernel
theorem dX8_queueAt_41 : decode cX8_queueAt 41 = .ok (.invokevirtual 188, 3) := by decide +kernel
theorem dX8_queueAt_44 : decode cX8_queueAt 44 = .ok (.ireturn, 1) := by decide +kernel
theorem dX8_machineAt_0 : decode cX8_machineAt 0 = .ok (.aload_n 0, 1) := by decide +kernel
theorem dX8_machineAt_1 : decode cX8_machineAt 1 = .ok (.iload_n 1, 1) := by decide +kernel
theorem dX8_machineAt_2 : decode cX8_machineAt 2 = .ok (.iload_n 2, 1) := by decide +kernel
theorem dX8_machineAt_3 : decode cX8_machineAt 3 = .ok (.invokevirtual 192, 3) := by decide +kernel
theorem dX8_machineAt_6 : decode cX8_machineAt 6 = .ok (.aload_n 0, 1) := by decide +kernel
theorem dX8_machineAt_7 : decode cX8_machineAt 7 = .ok (.getfield 33, 3) := by decide +kernel
theorem dX8_machineAt_10 : decode cX8_machineAt 10 = .ok (.getfield 195, 3) := by decide +kernel
theorem dX8_machineAt_13 : decode cX8_machineAt 13 = .ok (.iload_n 1, 1) := by decide +kernel
theorem dX8_machineAt_14 : decode cX8_machineAt 14 = .ok (.iload_n 2, 1) := by decide +kernel
theorem dX8_machineAt_15 : decode cX8_machineAt 15 = .ok (.invokestatic 198, 3) := by decide +kernel
theorem dX8_machineAt_18 : decode cX8_machineAt 18 = .ok (.invokestatic 120, 3) := by decide +kernel
theorem dX8_machineAt_21 : decode cX8_machineAt 21 = .ok (.ireturn, 1) := by decide +kernel
theorem dX8_brokenUntil_0 : decode cX8_brokenUntil 0 = .ok (.aload_n 0, 1) := by decide +kernel
theorem dX8_brokenUntil_1 : decode cX8_brokenUntil 1 = .ok (.iload_n 1, 1) := by decide +kernel
theorem dX8_brokenUntil_2 : decode cX8_brokenUntil 2 = .ok (.iload_n 2, 1) := by decide +kernel
theorem dX8_brokenUntil_3 : decode cX8_brokenUntil 3 = .ok (.invokevirtual 192, 3) := by decide +kernel
theorem dX8_brokenUntil_6 : decode cX8_brokenUntil 6 = .ok (.aload_n 0, 1) := by decide +kernel
theorem dX8_brokenUntil_7 : decode cX8_brokenUntil 7 = .ok (.getfield 33, 3) := by decide +kernel
theorem dX8_brokenUntil_10 : decode cX8_brokenUntil 10 = .ok (.getfield 201, 3) := by decide +kernel
theorem dX8_brokenUntil_13 : decode cX8_brokenUntil 13 = .ok (.iload_n 1, 1) := by decide +kernel
theorem dX8_brokenUntil_14 : decode cX8_brokenUntil 14 = .ok (.iload_n 2, 1) := by decide +kernel
theorem dX8_brokenUntil_15 : decode cX8_brokenUntil 15 = .ok (.invokestatic 198, 3) := by decide +kernel
theorem dX8_brokenUntil_18 : decode cX8_brokenUntil 18 = .ok (.invokestatic 120, 3) := by decide +kernel
theorem dX8_brokenUntil_21 : decode cX8_brokenUntil 21 = .ok (.ireturn, 1) := by decide +kernel
theorem dX8_stoppedUntil_0 : decode cX8_stoppedUntil 0 = .ok (.aload_n 0, 1) := by decide +kernel
theorem dX8_stoppedUntil_1 : decode cX8_stoppedUntil 1 = .ok (.getfield 33, 3) := by decide +kernel
theorem dX8_stoppedUntil_4 : decode cX8_stoppedUntil 4 = .ok (.getfield 204, 3) := by decide +kernel
theorem dX8_stoppedUntil_7 : decode cX8_stoppedUntil 7 = .ok (.ireturn, 1) := by decide +kernel
theorem dX8_lanes_0 : decode cX8_lanes 0 = .ok (.aload_n 0, 1) := by decide +kernel
theorem dX8_lanes_1 : decode cX8_lanes 1 = .ok (.getfield 23, 3) := by decide +kernel
theorem dX8_lanes_4 : decode cX8_lanes 4 = .ok (.getfield 207, 3) := by decide +kernel
theorem dX8_lanes_7 : decode cX8_lanes 7 = .ok (.ireturn, 1) := by decide +kernel
theorem dX8_laneSize_0 : decode cX8_laneSize 0 = .ok (.aload_n 0, 1) := by decide +kernel
theorem dX8_laneSize_1 : decode cX8_laneSize 1 = .ok (.iload_n 1, 1) := by decide +kernel
theorem dX8_laneSize_2 : decode cX8_laneSize 2 = .ok (.invokevirtual 210, 3) := by decide +kernel
theorem dX8_laneSize_5 : decode cX8_laneSize 5 = .ok (.aload_n 0, 1) := by decide +kernel
theorem dX8_laneSize_6 : decode cX8_laneSize 6 = .ok (.getfield 33, 3) := by decide +kernel
theorem dX8_laneSize_9 : decode cX8_laneSize 9 = .ok (.getfield 213, 3) := by decide +kernel
theorem dX8_laneSize_12 : decode cX8_laneSize 12 = .ok (.iload_n 1, 1) := by decide +kernel
theorem dX8_laneSize_13 : decode cX8_laneSize 13 = .ok (.invokestatic 120, 3) := by decide +kernel
theorem dX8_laneSize_16 : decode cX8_laneSize 16 = .ok (.ireturn, 1) := by decide +kernel
theorem dX8_laneAt_0 : decode cX8_laneAt 0 = .ok (.aload_n 0, 1) := by decide +kernel
theorem dX8_laneAt_1 : decode cX8_laneAt 1 = .ok (.iload_n 1, 1) := by decide +kernel
theorem dX8_laneAt_2 : decode cX8_laneAt 2 = .ok (.invokevirtual 210, 3) := by decide +kernel
theorem dX8_laneAt_5 : decode cX8_laneAt 5 = .ok (.iload_n 2, 1) := by decide +kernel
theorem dX8_laneAt_6 : decode cX8_laneAt 6 = .ok (.aload_n 0, 1) := by decide +kernel
theorem dX8_laneAt_7 : decode cX8_laneAt 7 = .ok (.getfield 33, 3) := by decide +kernel
theorem dX8_laneAt_10 : decode cX8_laneAt 10 = .ok (.getfield 213, 3) := by decide +kernel
theorem dX8_laneAt_13 : decode cX8_laneAt 13 = .ok (.iload_n 1, 1) := by decide +kernel
theorem dX8_laneAt_14 : decode cX8_laneAt 14 = .ok (.invokestatic 120, 3) := by decide +kernel
theorem dX8_laneAt_17 : decode cX8_laneAt 17 = .ok (.invokestatic 171, 3) := by decide +kernel
theorem dX8_laneAt_20 : decode cX8_laneAt 20 = .ok (.aload_n 0, 1) := by decide +kernel
theorem dX8_laneAt_21 : decode cX8_laneAt 21 = .ok (.getfield 33, 3) := by decide +kernel
theorem dX8_laneAt_24 : decode cX8_laneAt 24 = .ok (.getfield 216, 3) := by decide +kernel
theorem dX8_laneAt_27 : decode cX8_laneAt 27 = .ok (.iload_n 1, 1) := by decide +kernel
theorem dX8_laneAt_28 : decode cX8_laneAt 28 = .ok (.bipush 20, 2) := by decide +kernel
theorem dX8_laneAt_30 : decode cX8_laneAt 30 = .ok (.imul, 1) := by decide +kernel
theorem dX8_laneAt_31 : decode cX8_laneAt 31 = .ok (.iload_n 2, 1) := by decide +kernel
theorem dX8_laneAt_32 : decode cX8_laneAt 32 = .ok (.iadd, 1) := by decide +kernel
theorem dX8_laneAt_33 : decode cX8_laneAt 33 = .ok (.invokestatic 120, 3) := by decide +kernel
theorem dX8_laneAt_36 : decode cX8_laneAt 36 = .ok (.ireturn, 1) := by decide +kernel
theorem dX8_keeps_0 : decode cX8_keeps 0 = .ok (.aload_n 0, 1) := by decide +kernel
theorem dX8_keeps_1 : decode cX8_keeps 1 = .ok (.getfield 23, 3) := by decide +kernel
theorem dX8_keeps_4 : decode cX8_keeps 4 = .ok (.getfield 219, 3) := by decide +kernel
theorem dX8_keeps_7 : decode cX8_keeps 7 = .ok (.getfield 223, 3) := by decide +kernel
theorem dX8_keeps_10 : decode cX8_keeps 10 = .ok (.ireturn, 1) := by decide +kernel
theorem dX8_flights_0 : decode cX8_flights 0 = .ok (.aload_n 0, 1) := by decide +kernel
theorem dX8_flights_1 : decode cX8_flights 1 = .ok (.getfield 23, 3) := by decide +kernel
theorem dX8_flights_4 : decode cX8_flights 4 = .ok (.getfield 226, 3) := by decide +kernel
theorem dX8_flights_7 : decode cX8_flights 7 = .ok (.ireturn, 1) := by decide +kernel
theorem dX8_flightState_0 : decode cX8_flightState 0 = .ok (.aload_n 0, 1) := by decide +kernel
theorem dX8_flightState_1 : decode cX8_flightState 1 = .ok (.iload_n 1, 1) := by decide +kernel
theorem dX8_flightState_2 : decode cX8_flightState 2 = .ok (.invokevirtual 229, 3) := by decide +kernel
theorem dX8_flightState_5 : decode cX8_flightState 5 = .ok (.aload_n 0, 1) := by decide +kernel
theorem dX8_flightState_6 : decode cX8_flightState 6 = .ok (.getfield 33, 3) := by decide +kernel
theorem dX8_flightState_9 : decode cX8_flightState 9 = .ok (.iload_n 1, 1) := by decide +kernel
theorem dX8_flightState_10 : decode cX8_flightState 10 = .ok (.invokevirtual 232, 3) := by decide +kernel
theorem dX8_flightState_13 : decode cX8_flightState 13 = .ok (.ireturn, 1) := by decide +kernel
theorem dX8_openOf_0 : decode cX8_openOf 0 = .ok (.aload_n 0, 1) := by decide +kernel
theorem dX8_openOf_1 : decode cX8_openOf 1 = .ok (.iload_n 1, 1) := by decide +kernel
theorem dX8_openOf_2 : decode cX8_openOf 2 = .ok (.invokevirtual 229, 3) := by decide +kernel
theorem dX8_openOf_5 : decode cX8_openOf 5 = .ok (.aload_n 0, 1) := by decide +kernel
theorem dX8_openOf_6 : decode cX8_openOf 6 = .ok (.getfield 33, 3) := by decide +kernel
theorem dX8_openOf_9 : decode cX8_openOf 9 = .ok (.getfield 235, 3) := by decide +kernel
theorem dX8_openOf_12 : decode cX8_openOf 12 = .ok (.iload_n 1, 1) := by decide +kernel
theorem dX8_openOf_13 : decode cX8_openOf 13 = .ok (.invokestatic 120, 3) := by decide +kernel
theorem dX8_openOf_16 : decode cX8_openOf 16 = .ok (.ireturn, 1) := by decide +kernel
theorem dX8_closeOf_0 : decode cX8_closeOf 0 = .ok (.aload_n 0, 1) := by decide +kernel
theorem dX8_closeOf_1 : decode cX8_closeOf 1 = .ok (.iload_n 1, 1) := by decide +kernel
theorem dX8_closeOf_2 : decode cX8_closeOf 2 = .ok (.invokevirtual 229, 3) := by decide +kernel
theorem dX8_closeOf_5 : decode cX8_closeOf 5 = .ok (.aload_n 0, 1) := by decide +kernel
theorem dX8_closeOf_6 : decode cX8_closeOf 6 = .ok (.getfield 33, 3) := by decide +kernel
theorem dX8_closeOf_9 : decode cX8_closeOf 9 = .ok (.getfield 156, 3) := by decide +kernel
theorem dX8_closeOf_12 : decode cX8_closeOf 12 = .ok (.iload_n 1, 1) := by decide +kernel
theorem dX8_closeOf_13 : decode cX8_closeOf 13 = .ok (.invokestatic 120, 3) := by decide +kernel
theorem dX8_closeOf_16 : decode cX8_closeOf 16 = .ok (.ireturn, 1) := by decide +kernel
theorem dX8_countOf_0 : decode cX8_countOf 0 = .ok (.aload_n 0, 1) := by decide +kernel
theorem dX8_countOf_1 : decode cX8_countOf 1 = .ok (.iload_n 1, 1) := by decide +kernel
theorem dX8_countOf_2 : decode cX8_countOf 2 = .ok (.invokevirtual 229, 3) := by decide +kernel
theorem dX8_countOf_5 : decode cX8_countOf 5 = .ok (.iload_n 2, 1) := by decide +kernel
theorem dX8_countOf_6 : decode cX8_countOf 6 = .ok (.iconst 0, 1) := by decide +kernel
theorem dX8_countOf_7 : decode cX8_countOf 7 = .ok (.bipush 13, 2) := by decide +kernel
theorem dX8_countOf_9 : decode cX8_countOf 9 = .ok (.invokestatic 181, 3) := by decide +kernel
theorem dX8_countOf_12 : decode cX8_countOf 12 = .ok (.aload_n 0, 1) := by decide +kernel
theorem dX8_countOf_13 : decode cX8_countOf 13 = .ok (.getfield 33, 3) := by decide +kernel
theorem dX8_countOf_16 : decode cX8_countOf 16 = .ok (.getfield 95, 3) := by decide +kernel
theorem dX8_countOf_19 : decode cX8_countOf 19 = .ok (.iload_n 1, 1) := by decide +kernel
theorem dX8_countOf_20 : decode cX8_countOf 20 = .ok (.iload_n 2, 1) := by decide +kernel
theorem dX8_countOf_21 : decode cX8_countOf 21 = .ok (.iload_n 2, 1) := by decide +kernel
theorem dX8_countOf_22 : decode cX8_countOf 22 = .ok (.invokevirtual 238, 3) := by decide +kernel
theorem dX8_countOf_25 : decode cX8_countOf 25 = .ok (.ireturn, 1) := by decide +kernel
theorem dX8_missing_0 : decode cX8_missing 0 = .ok (.aload_n 0, 1) := by decide +kernel
theorem dX8_missing_1 : decode cX8_missing 1 = .ok (.iload_n 1, 1) := by decide +kernel
theorem dX8_missing_2 : decode cX8_missing 2 = .ok (.invokevirtual 229, 3) := by decide +kernel
theorem dX8_missing_5 : decode cX8_missing 5 = .ok (.aload_n 0, 1) := by decide +kernel
theorem dX8_missing_6 : decode cX8_missing 6 = .ok (.iload_n 1, 1) := by decide +kernel
theorem dX8_missing_7 : decode cX8_missing 7 = .ok (.invokevirtual 242, 3) := by decide +kernel
theorem dX8_missing_10 : decode cX8_missing 10 = .ok (.ireturn, 1) := by decide +kernel
theorem dX8_loadedShare_0 : decode cX8_loadedShare 0 = .ok (.aload_n 0, 1) := by decide +kernel
theorem dX8_loadedShare_1 : decode cX8_loadedShare 1 = .ok (.iload_n 1, 1) := by decide +kernel
theorem dX8_loadedShare_2 : decode cX8_loadedShare 2 = .ok (.invokevirtual 229, 3) := by decide +kernel
theorem dX8_loadedShare_5 : decode cX8_loadedShare 5 = .ok (.aload_n 0, 1) := by decide +kernel
theorem dX8_loadedShare_6 : decode cX8_loadedShare 6 = .ok (.getfield 33, 3) := by decide +kernel
theorem dX8_loadedShare_9 : decode cX8_loadedShare 9 = .ok (.getfield 95, 3) := by decide +kernel
theorem dX8_loadedShare_12 : decode cX8_loadedShare 12 = .ok (.iload_n 1, 1) := by decide +kernel
theorem dX8_loadedShare_13 : decode cX8_loadedShare 13 = .ok (.iconst 0, 1) := by decide +kernel
theorem dX8_loadedShare_14 : decode cX8_loadedShare 14 = .ok (.bipush 13, 2) := by decide +kernel
theorem dX8_loadedShare_16 : decode cX8_loadedShare 16 = .ok (.invokevirtual 238, 3) := by decide +kernel
theorem dX8_loadedShare_19 : decode cX8_loadedShare 19 = .ok (.istore_n 2, 1) := by decide +kernel
theorem dX8_loadedShare_20 : decode cX8_loadedShare 20 = .ok (.iload_n 2, 1) := by decide +kernel
theorem dX8_loadedShare_21 : decode cX8_loadedShare 21 = .ok (.ifCond .ne 7, 3) := by decide +kernel
theorem dX8_loadedShare_24 : decode cX8_loadedShare 24 = .ok (.fconst 0, 1) := by decide +kernel
theorem dX8_loadedShare_25 : decode cX8_loadedShare 25 = .ok (.goto 12, 3) := by decide +kernel
theorem dX8_loadedShare_28 : decode cX8_loadedShare 28 = .ok (.aload_n 0, 1) := by decide +kernel
theorem dX8_loadedShare_29 : decode cX8_loadedShare 29 = .ok (.iload_n 1, 1) := by decide +kernel
theorem dX8_loadedShare_30 : decode cX8_loadedShare 30 = .ok (.invokevirtual 245, 3) := by decide +kernel
theorem dX8_loadedShare_33 : decode cX8_loadedShare 33 = .ok (.i2f, 1) := by decide +kernel
theorem dX8_loadedShare_34 : decode cX8_loadedShare 34 = .ok (.iload_n 2, 1) := by decide +kernel
theorem dX8_loadedShare_35 : decode cX8_loadedShare 35 = .ok (.i2f, 1) := by decide +kernel
theorem dX8_loadedShare_36 : decode cX8_loadedShare 36 = .ok (.fdiv, 1) := by decide +kernel
theorem dX8_loadedShare_37 : decode cX8_loadedShare 37 = .ok (.freturn, 1) := by decide +kernel
theorem dX8_percentile_0 : decode cX8_percentile 0 = .ok (.aload_n 0, 1) := by decide +kernel
theorem dX8_percentile_1 : decode cX8_percentile 1 = .ok (.iload_n 1, 1) := by decide +kernel
theorem dX8_percentile_2 : decode cX8_percentile 2 = .ok (.invokevirtual 229, 3) := by decide +kernel
theorem dX8_percentile_5 : decode cX8_percentile 5 = .ok (.iload_n 2, 1) := by decide +kernel
theorem dX8_percentile_6 : decode cX8_percentile 6 = .ok (.iconst 1, 1) := by decide +kernel
theorem dX8_percentile_7 : decode cX8_percentile 7 = .ok (.bipush 100, 2) := by decide +kernel
theorem dX8_percentile_9 : decode cX8_percentile 9 = .ok (.invokestatic 181, 3) := by decide +kernel
theorem dX8_percentile_12 : decode cX8_percentile 12 = .ok (.aload_n 0, 1) := by decide +kernel
theorem dX8_percentile_13 : decode cX8_percentile 13 = .ok (.getfield 33, 3) := by decide +kernel
theorem dX8_percentile_16 : decode cX8_percentile 16 = .ok (.getfield 95, 3) := by decide +kernel
theorem dX8_percentile_19 : decode cX8_percentile 19 = .ok (.iload_n 1, 1) := by decide +kernel
theorem dX8_percentile_20 : decode cX8_percentile 20 = .ok (.iload_n 2, 1) := by decide +kernel
theorem dX8_percentile_21 : decode cX8_percentile 21 = .ok (.aload_n 0, 1) := by decide +kernel
theorem dX8_percentile_22 : decode cX8_percentile 22 = .ok (.iload_n 1, 1) := by decide +kernel
theorem dX8_percentile_23 : decode cX8_percentile 23 = .ok (.invokevirtual 245, 3) := by decide +kernel
theorem dX8_percentile_26 : decode cX8_percentile 26 = .ok (.imul, 1) := by decide +kernel
theorem dX8_percentile_27 : decode cX8_percentile 27 = .ok (.bipush 99, 2) := by decide +kernel
theorem dX8_percentile_29 : decode cX8_percentile 29 = .ok (.iadd, 1) := by decide +kernel
theorem dX8_percentile_30 : decode cX8_percentile 30 = .ok (.bipush 100, 2) := by decide +kernel
theorem dX8_percentile_32 : decode cX8_percentile 32 = .ok (.idiv, 1) := by decide +kernel
theorem dX8_percentile_33 : decode cX8_percentile 33 = .ok (.invokevirtual 248, 3) := by decide +kernel
theorem dX8_percentile_36 : decode cX8_percentile 36 = .ok (.ireturn, 1) := by decide +kernel
theorem dX8_worstFlight_0 : decode cX8_worstFlight 0 = .ok (.aload_n 0, 1) := by decide +kernel
theorem dX8_worstFlight_1 : decode cX8_worstFlight 1 = .ok (.iload_n 1, 1) := by decide +kernel
theorem dX8_worstFlight_2 : decode cX8_worstFlight 2 = .ok (.invokevirtual 229, 3) := by decide +kernel
theorem dX8_worstFlight_5 : decode cX8_worstFlight 5 = .ok (.iconst 0, 1) := by decide +kernel
theorem dX8_worstFlight_6 : decode cX8_worstFlight 6 = .ok (.istore_n 2, 1) := by decide +kernel
theorem dX8_worstFlight_7 : decode cX8_worstFlight 7 = .ok (.iload_n 2, 1) := by decide +kernel
theorem dX8_worstFlight_8 : decode cX8_worstFlight 8 = .ok (.aload_n 0, 1) := by decide +kernel
theorem dX8_worstFlight_9 : decode cX8_worstFlight 9 = .ok (.getfield 23, 3) := by decide +kernel
theorem dX8_worstFlight_12 : decode cX8_worstFlight 12 = .ok (.getfield 226, 3) := by decide +kernel
theorem dX8_worstFlight_15 : decode cX8_worstFlight 15 = .ok (.if_icmp .ge 20, 3) := by decide +kernel
theorem dX8_worstFlight_18 : decode cX8_worstFlight 18 = .ok (.aload_n 0, 1) := by decide +kernel
theorem dX8_worstFlight_19 : decode cX8_worstFlight 19 = .ok (.iload_n 2, 1) := by decide +kernel
theorem dX8_worstFlight_20 : decode cX8_worstFlight 20 = .ok (.invokevirtual 251, 3) := by decide +kernel
theorem dX8_worstFlight_23 : decode cX8_worstFlight 23 = .ok (.iload_n 1, 1) := by decide +kernel
theorem dX8_worstFlight_24 : decode cX8_worstFlight 24 = .ok (.if_icmp .ne 5, 3) := by decide +kernel
theorem dX8_worstFlight_27 : decode cX8_worstFlight 27 = .ok (.iload_n 2, 1) := by decide +kernel
theorem dX8_worstFlight_28 : decode cX8_worstFlight 28 = .ok (.ireturn, 1) := by decide +kernel
theorem dX8_worstFlight_29 : decode cX8_worstFlight 29 = .ok (.iinc 2 1, 3) := by decide +kernel
theorem dX8_worstFlight_32 : decode cX8_worstFlight 32 = .ok (.goto (-25), 3) := by decide +kernel
theorem dX8_worstFlight_35 : decode cX8_worstFlight 35 = .ok (.iconst (-1), 1) := by decide +kernel
theorem dX8_worstFlight_36 : decode cX8_worstFlight 36 = .ok (.ireturn, 1) := by decide +kernel
theorem dX8_events_0 : decode cX8_events 0 = .ok (.aload_n 0, 1) := by decide +kernel
theorem dX8_events_1 : decode cX8_events 1 = .ok (.getfield 33, 3) := by decide +kernel
theorem dX8_events_4 : decode cX8_events 4 = .ok (.getfield 254, 3) := by decide +kernel
theorem dX8_events_7 : decode cX8_events 7 = .ok (.ireturn, 1) := by decide +kernel
theorem dX8_event_0 : decode cX8_event 0 = .ok (.aload_n 0, 1) := by decide +kernel
theorem dX8_event_1 : decode cX8_event 1 = .ok (.invokevirtual 168, 3) := by decide +kernel
theorem dX8_event_4 : decode cX8_event 4 = .ok (.iload_n 1, 1) := by decide +kernel
theorem dX8_event_5 : decode cX8_event 5 = .ok (.aload_n 0, 1) := by decide +kernel
theorem dX8_event_6 : decode cX8_event 6 = .ok (.getfield 33, 3) := by decide +kernel
theorem dX8_event_9 : decode cX8_event 9 = .ok (.getfield 254, 3) := by decide +kernel
theorem dX8_event_12 : decode cX8_event 12 = .ok (.invokestatic 171, 3) := by decide +kernel
theorem dX8_event_15 : decode cX8_event 15 = .ok (.iload_n 2, 1) := by decide +kernel
theorem dX8_event_16 : decode cX8_event 16 = .ok (.iconst 0, 1) := by decide +kernel
theorem dX8_event_17 : decode cX8_event 17 = .ok (.iconst 3, 1) := by decide +kernel
theorem dX8_event_18 : decode cX8_event 18 = .ok (.invokestatic 181, 3) := by decide +kernel
theorem dX8_event_21 : decode cX8_event 21 = .ok (.aload_n 0, 1) := by decide +kernel
theorem dX8_event_22 : decode cX8_event 22 = .ok (.getfield 33, 3) := by decide +kernel
theorem dX8_event_25 : decode cX8_event 25 = .ok (.iload_n 1, 1) := by decide +kernel
theorem dX8_event_26 : decode cX8_event 26 = .ok (.iload_n 2, 1) := by decide +kernel
theorem dX8_event_27 : decode cX8_event 27 = .ok (.invokevirtual 257, 3) := by decide +kernel
theorem dX8_event_30 : decode cX8_event 30 = .ok (.ireturn, 1) := by decide +kernel
theorem dX8_report_0 : decode cX8_report 0 = .ok (.aload_n 0, 1) := by decide +kernel
theorem dX8_report_1 : decode cX8_report 1 = .ok (.invokevirtual 168, 3) := by decide +kernel
theorem dX8_report_4 : decode cX8_report 4 = .ok (.aload_n 0, 1) := by decide +kernel
theorem dX8_report_5 : decode cX8_report 5 = .ok (.getfield 64, 3) := by decide +kernel
theorem dX8_report_8 : decode cX8_report 8 = .ok (.iconst 0, 1) := by decide +kernel
theorem dX8_report_9 : decode cX8_report 9 = .ok (.putfield 260, 3) := by decide +kernel
theorem dX8_report_12 : decode cX8_report 12 = .ok (.iconst 0, 1) := by decide +kernel
theorem dX8_report_13 : decode cX8_report 13 = .ok (.istore_n 1, 1) := by decide +kernel
theorem dX8_report_14 : decode cX8_report 14 = .ok (.iload_n 1, 1) := by decide +kernel
theorem dX8_report_15 : decode cX8_report 15 = .ok (.aload_n 0, 1) := by decide +kernel
theorem dX8_report_16 : decode cX8_report 16 = .ok (.getfield 23, 3) := by decide +kernel
theorem dX8_report_19 : decode cX8_report 19 = .ok (.getfield 226, 3) := by decide +kernel
theorem dX8_report_22 : decode cX8_report 22 = .ok (.if_icmp .ge 88, 3) := by decide +kernel
theorem dX8_report_25 : decode cX8_report 25 = .ok (.aload_n 0, 1) := by decide +kernel
theorem dX8_report_26 : decode cX8_report 26 = .ok (.getfield 64, 3) := by decide +kernel
theorem dX8_report_29 : decode cX8_report 29 = .ok (.iload_n 1, 1) := by decide +kernel
theorem dX8_report_30 : decode cX8_report 30 = .ok (.invokevirtual 261, 3) := by decide +kernel
theorem dX8_report_33 : decode cX8_report 33 = .ok (.aload_n 0, 1) := by decide +kernel
theorem dX8_report_34 : decode cX8_report 34 = .ok (.getfield 64, 3) := by decide +kernel
theorem dX8_report_37 : decode cX8_report 37 = .ok (.aload_n 0, 1) := by decide +kernel
theorem dX8_report_38 : decode cX8_report 38 = .ok (.iload_n 1, 1) := by decide +kernel
theorem dX8_report_39 : decode cX8_report 39 = .ok (.invokevirtual 245, 3) := by decide +kernel
theorem dX8_report_42 : decode cX8_report 42 = .ok (.invokevirtual 264, 3) := by decide +kernel
theorem dX8_report_45 : decode cX8_report 45 = .ok (.aload_n 0, 1) := by decide +kernel
theorem dX8_report_46 : decode cX8_report 46 = .ok (.getfield 64, 3) := by decide +kernel
theorem dX8_report_49 : decode cX8_report 49 = .ok (.bipush 47, 2) := by decide +kernel
theorem dX8_report_51 : decode cX8_report 51 = .ok (.invokevirtual 267, 3) := by decide +kernel
theorem dX8_report_54 : decode cX8_report 54 = .ok (.aload_n 0, 1) := by decide +kernel
theorem dX8_report_55 : decode cX8_report 55 = .ok (.getfield 64, 3) := by decide +kernel
theorem dX8_report_58 : decode cX8_report 58 = .ok (.aload_n 0, 1) := by decide +kernel
theorem dX8_report_59 : decode cX8_report 59 = .ok (.getfield 33, 3) := by decide +kernel
theorem dX8_report_62 : decode cX8_report 62 = .ok (.getfield 95, 3) := by decide +kernel
theorem dX8_report_65 : decode cX8_report 65 = .ok (.iload_n 1, 1) := by decide +kernel
theorem dX8_report_66 : decode cX8_report 66 = .ok (.iconst 0, 1) := by decide +kernel
theorem dX8_report_67 : decode cX8_report 67 = .ok (.bipush 13, 2) := by decide +kernel
theorem dX8_report_69 : decode cX8_report 69 = .ok (.invokevirtual 238, 3) := by decide +kernel
theorem dX8_report_72 : decode cX8_report 72 = .ok (.invokevirtual 264, 3) := by decide +kernel
theorem dX8_report_75 : decode cX8_report 75 = .ok (.aload_n 0, 1) := by decide +kernel
theorem dX8_report_76 : decode cX8_report 76 = .ok (.iload_n 1, 1) := by decide +kernel
theorem dX8_report_77 : decode cX8_report 77 = .ok (.invokevirtual 270, 3) := by decide +kernel
theorem dX8_report_80 : decode cX8_report 80 = .ok (.ifCond .le 24, 3) := by decide +kernel
theorem dX8_report_83 : decode cX8_report 83 = .ok (.aload_n 0, 1) := by decide +kernel
theorem dX8_report_84 : decode cX8_report 84 = .ok (.getfield 64, 3) := by decide +kernel
theorem dX8_report_87 : decode cX8_report 87 = .ok (.bipush 45, 2) := by decide +kernel
theorem dX8_report_89 : decode cX8_report 89 = .ok (.invokevirtual 267, 3) := by decide +kernel
theorem dX8_report_92 : decode cX8_report 92 = .ok (.aload_n 0, 1) := by decide +kernel
theorem dX8_report_93 : decode cX8_report 93 = .ok (.getfield 64, 3) := by decide +kernel
theorem dX8_report_96 : decode cX8_report 96 = .ok (.aload_n 0, 1) := by decide +kernel
theorem dX8_report_97 : decode cX8_report 97 = .ok (.iload_n 1, 1) := by decide +kernel
theorem dX8_report_98 : decode cX8_report 98 = .ok (.invokevirtual 270, 3) := by decide +kernel
theorem dX8_report_101 : decode cX8_report 101 = .ok (.invokevirtual 264, 3) := by decide +kernel
theorem dX8_report_104 : decode cX8_report 104 = .ok (.iinc 1 1, 3) := by decide +kernel
theorem dX8_report_107 : decode cX8_report 107 = .ok (.goto (-93), 3) := by decide +kernel
theorem dX8_report_110 : decode cX8_report 110 = .ok (.aload_n 0, 1) := by decide +kernel
theorem dX8_report_111 : decode cX8_report 111 = .ok (.getfield 64, 3) := by decide +kernel
theorem dX8_report_114 : decode cX8_report 114 = .ok (.getfield 260, 3) := by decide +kernel
theorem dX8_report_117 : decode cX8_report 117 = .ok (.ireturn, 1) := by decide +kernel
theorem dX8_reportByte_0 : decode cX8_reportByte 0 = .ok (.iload_n 1, 1) := by decide +kernel
theorem dX8_reportByte_1 : decode cX8_reportByte 1 = .ok (.aload_n 0, 1) := by decide +kernel
theorem dX8_reportByte_2 : decode cX8_reportByte 2 = .ok (.getfield 64, 3) := by decide +kernel
theorem dX8_reportByte_5 : decode cX8_reportByte 5 = .ok (.getfield 260, 3) := by decide +kernel
theorem dX8_reportByte_8 : decode cX8_reportByte 8 = .ok (.invokestatic 171, 3) := by decide +kernel
theorem dX8_reportByte_11 : decode cX8_reportByte 11 = .ok (.aload_n 0, 1) := by decide +kernel
theorem dX8_reportByte_12 : decode cX8_reportByte 12 = .ok (.getfield 64, 3) := by decide +kernel
theorem dX8_reportByte_15 : decode cX8_reportByte 15 = .ok (.iload_n 1, 1) := by decide +kernel
theorem dX8_reportByte_16 : decode cX8_reportByte 16 = .ok (.invokevirtual 273, 3) := by decide +kernel
theorem dX8_reportByte_19 : decode cX8_reportByte 19 = .ok (.ireturn, 1) := by decide +kernel
theorem dX8_map_0 : decode cX8_map 0 = .ok (.aload_n 0, 1) := by decide +kernel
theorem dX8_map_1 : decode cX8_map 1 = .ok (.invokevirtual 168, 3) := by decide +kernel
theorem dX8_map_4 : decode cX8_map 4 = .ok (.aload_n 0, 1) := by decide +kernel
theorem dX8_map_5 : decode cX8_map 5 = .ok (.getfield 68, 3) := by decide +kernel
theorem dX8_map_8 : decode cX8_map 8 = .ok (.iconst 0, 1) := by decide +kernel
theorem dX8_map_9 : decode cX8_map 9 = .ok (.putfield 260, 3) := by decide +kernel
theorem dX8_map_12 : decode cX8_map 12 = .ok (.iconst 0, 1) := by decide +kernel
theorem dX8_map_13 : decode cX8_map 13 = .ok (.istore_n 1, 1) := by decide +kernel
theorem dX8_map_14 : decode cX8_map 14 = .ok (.iload_n 1, 1) := by decide +kernel
theorem dX8_map_15 : decode cX8_map 15 = .ok (.aload_n 0, 1) := by decide +kernel
theorem dX8_map_16 : decode cX8_map 16 = .ok (.getfield 23, 3) := by decide +kernel
theorem dX8_map_19 : decode cX8_map 19 = .ok (.getfield 146, 3) := by decide +kernel
theorem dX8_map_22 : decode cX8_map 22 = .ok (.if_icmp .ge 55, 3) := by decide +kernel
theorem dX8_map_25 : decode cX8_map 25 = .ok (.aload_n 0, 1) := by decide +kernel
theorem dX8_map_26 : decode cX8_map 26 = .ok (.getfield 33, 3) := by decide +kernel
theorem dX8_map_29 : decode cX8_map 29 = .ok (.getfield 175, 3) := by decide +kernel
theorem dX8_map_32 : decode cX8_map 32 = .ok (.iload_n 1, 1) := by decide +kernel
theorem dX8_map_33 : decode cX8_map 33 = .ok (.invokestatic 120, 3) := by decide +kernel
theorem dX8_map_36 : decode cX8_map 36 = .ok (.istore_n 2, 1) := by decide +kernel
theorem dX8_map_37 : decode cX8_map 37 = .ok (.aload_n 0, 1) := by decide +kernel
theorem dX8_map_38 : decode cX8_map 38 = .ok (.getfield 68, 3) := by decide +kernel
theorem dX8_map_41 : decode cX8_map 41 = .ok (.iload_n 2, 1) := by decide +kernel
theorem dX8_map_42 : decode cX8_map 42 = .ok (.iconst (-1), 1) := by decide +kernel
theorem dX8_map_43 : decode cX8_map 43 = .ok (.if_icmp .ne 8, 3) := by decide +kernel
theorem dX8_map_46 : decode cX8_map 46 = .ok (.bipush 46, 2) := by decide +kernel
theorem dX8_map_48 : decode cX8_map 48 = .ok (.goto 20, 3) := by decide +kernel
theorem dX8_map_51 : decode cX8_map 51 = .ok (.bipush 65, 2) := by decide +kernel
theorem dX8_map_53 : decode cX8_map 53 = .ok (.aload_n 0, 1) := by decide +kernel
theorem dX8_map_54 : decode cX8_map 54 = .ok (.getfield 33, 3) := by decide +kernel
theorem dX8_map_57 : decode cX8_map 57 = .ok (.getfield 95, 3) := by decide +kernel
theorem dX8_map_60 : decode cX8_map 60 = .ok (.getfield 124, 3) := by decide +kernel
theorem dX8_map_63 : decode cX8_map 63 = .ok (.iload_n 2, 1) := by decide +kernel
theorem dX8_map_64 : decode cX8_map 64 = .ok (.invokestatic 120, 3) := by decide +kernel
theorem dX8_map_67 : decode cX8_map 67 = .ok (.iadd, 1) := by decide +kernel
theorem dX8_map_68 : decode cX8_map 68 = .ok (.invokevirtual 267, 3) := by decide +kernel
theorem dX8_map_71 : decode cX8_map 71 = .ok (.iinc 1 1, 3) := by decide +kernel
theorem dX8_map_74 : decode cX8_map 74 = .ok (.goto (-60), 3) := by decide +kernel
theorem dX8_map_77 : decode cX8_map 77 = .ok (.aload_n 0, 1) := by decide +kernel
theorem dX8_map_78 : decode cX8_map 78 = .ok (.getfield 68, 3) := by decide +kernel
theorem dX8_map_81 : decode cX8_map 81 = .ok (.getfield 260, 3) := by decide +kernel
theorem dX8_map_84 : decode cX8_map 84 = .ok (.ireturn, 1) := by decide +kernel
theorem dX8_mapByte_0 : decode cX8_mapByte 0 = .ok (.iload_n 1, 1) := by decide +kernel
theorem dX8_mapByte_1 : decode cX8_mapByte 1 = .ok (.aload_n 0, 1) := by decide +kernel
theorem dX8_mapByte_2 : decode cX8_mapByte 2 = .ok (.getfield 68, 3) := by decide +kernel
theorem dX8_mapByte_5 : decode cX8_mapByte 5 = .ok (.getfield 260, 3) := by decide +kernel
theorem dX8_mapByte_8 : decode cX8_mapByte 8 = .ok (.invokestatic 171, 3) := by decide +kernel
theorem dX8_mapByte_11 : decode cX8_mapByte 11 = .ok (.aload_n 0, 1) := by decide +kernel
theorem dX8_mapByte_12 : decode cX8_mapByte 12 = .ok (.getfield 68, 3) := by decide +kernel
theorem dX8_mapByte_15 : decode cX8_mapByte 15 = .ok (.iload_n 1, 1) := by decide +kernel
theorem dX8_mapByte_16 : decode cX8_mapByte 16 = .ok (.invokevirtual 273, 3) := by decide +kernel
theorem dX8_mapByte_19 : decode cX8_mapByte 19 = .ok (.ireturn, 1) := by decide +kernel
theorem dX8_timetable_0 : decode cX8_timetable 0 = .ok (.aload_n 0, 1) := by decide +kernel
theorem dX8_timetable_1 : decode cX8_timetable 1 = .ok (.invokevirtual 168, 3) := by decide +kernel
theorem dX8_timetable_4 : decode cX8_timetable 4 = .ok (.aload_n 0, 1) := by decide +kernel
theorem dX8_timetable_5 : decode cX8_timetable 5 = .ok (.getfield 71, 3) := by decide +kernel
theorem dX8_timetable_8 : decode cX8_timetable 8 = .ok (.iconst 0, 1) := by decide +kernel
theorem dX8_timetable_9 : decode cX8_timetable 9 = .ok (.putfield 260, 3) := by decide +kernel
theorem dX8_timetable_12 : decode cX8_timetable 12 = .ok (.iconst 0, 1) := by decide +kernel
theorem dX8_timetable_13 : decode cX8_timetable 13 = .ok (.istore_n 1, 1) := by decide +kernel
theorem dX8_timetable_14 : decode cX8_timetable 14 = .ok (.iload_n 1, 1) := by decide +kernel
theorem dX8_timetable_15 : decode cX8_timetable 15 = .ok (.aload_n 0, 1) := by decide +kernel
theorem dX8_timetable_16 : decode cX8_timetable 16 = .ok (.getfield 23, 3) := by decide +kernel
theorem dX8_timetable_19 : decode cX8_timetable 19 = .ok (.getfield 226, 3) := by decide +kernel
theorem dX8_timetable_22 : decode cX8_timetable 22 = .ok (.if_icmp .ge 26, 3) := by decide +kernel
theorem dX8_timetable_25 : decode cX8_timetable 25 = .ok (.aload_n 0, 1) := by decide +kernel
theorem dX8_timetable_26 : decode cX8_timetable 26 = .ok (.getfield 71, 3) := by decide +kernel
theorem dX8_timetable_29 : decode cX8_timetable 29 = .ok (.iload_n 1, 1) := by decide +kernel
theorem dX8_timetable_30 : decode cX8_timetable 30 = .ok (.invokevirtual 261, 3) := by decide +kernel
theorem dX8_timetable_33 : decode cX8_timetable 33 = .ok (.aload_n 0, 1) := by decide +kernel
theorem dX8_timetable_34 : decode cX8_timetable 34 = .ok (.aload_n 0, 1) := by decide +kernel
theorem dX8_timetable_35 : decode cX8_timetable 35 = .ok (.iload_n 1, 1) := by decide +kernel
theorem dX8_timetable_36 : decode cX8_timetable 36 = .ok (.invokevirtual 276, 3) := by decide +kernel
theorem dX8_timetable_39 : decode cX8_timetable 39 = .ok (.invokevirtual 279, 3) := by decide +kernel
theorem dX8_timetable_42 : decode cX8_timetable 42 = .ok (.iinc 1 1, 3) := by decide +kernel
theorem dX8_timetable_45 : decode cX8_timetable 45 = .ok (.goto (-31), 3) := by decide +kernel
theorem dX8_timetable_48 : decode cX8_timetable 48 = .ok (.aload_n 0, 1) := by decide +kernel
theorem dX8_timetable_49 : decode cX8_timetable 49 = .ok (.getfield 71, 3) := by decide +kernel
theorem dX8_timetable_52 : decode cX8_timetable 52 = .ok (.getfield 260, 3) := by decide +kernel
theorem dX8_timetable_55 : decode cX8_timetable 55 = .ok (.ireturn, 1) := by decide +kernel
theorem dX8_timetableByte_0 : decode cX8_timetableByte 0 = .ok (.iload_n 1, 1) := by decide +kernel
theorem dX8_timetableByte_1 : decode cX8_timetableByte 1 = .ok (.aload_n 0, 1) := by decide +kernel
theorem dX8_timetableByte_2 : decode cX8_timetableByte 2 = .ok (.getfield 71, 3) := by decide +kernel
theorem dX8_timetableByte_5 : decode cX8_timetableByte 5 = .ok (.getfield 260, 3) := by decide +kernel
theorem dX8_timetableByte_8 : decode cX8_timetableByte 8 = .ok (.invokestatic 171, 3) := by decide +kernel
theorem dX8_timetableByte_11 : decode cX8_timetableByte 11 = .ok (.aload_n 0, 1) := by decide +kernel
theorem dX8_timetableByte_12 : decode cX8_timetableByte 12 = .ok (.getfield 71, 3) := by decide +kernel
theorem dX8_timetableByte_15 : decode cX8_timetableByte 15 = .ok (.iload_n 1, 1) := by decide +kernel
theorem dX8_timetableByte_16 : decode cX8_timetableByte 16 = .ok (.invokevirtual 273, 3) := by decide +kernel
theorem dX8_timetableByte_19 : decode cX8_timetableByte 19 = .ok (.ireturn, 1) := by decide +kernel
theorem dX8_loadedIn_0 : decode cX8_loadedIn 0 = .ok (.aload_n 0, 1) := by decide +kernel
theorem dX8_loadedIn_1 : decode cX8_loadedIn 1 = .ok (.invokevirtual 168, 3) := by decide +kernel
theorem dX8_loadedIn_4 : decode cX8_loadedIn 4 = .ok (.aload_n 0, 1) := by decide +kernel
theorem dX8_loadedIn_5 : decode cX8_loadedIn 5 = .ok (.iload_n 1, 1) := by decide +kernel
theorem dX8_loadedIn_6 : decode cX8_loadedIn 6 = .ok (.sipush 500, 3) := by decide +kernel
theorem dX8_loadedIn_9 : decode cX8_loadedIn 9 = .ok (.invokevirtual 282, 3) := by decide +kernel
theorem dX8_loadedIn_12 : decode cX8_loadedIn 12 = .ok (.aload_n 0, 1) := by decide +kernel
theorem dX8_loadedIn_13 : decode cX8_loadedIn 13 = .ok (.getfield 37, 3) := by decide +kernel
theorem dX8_loadedIn_16 : decode cX8_loadedIn 16 = .ok (.aload_n 0, 1) := by decide +kernel
theorem dX8_loadedIn_17 : decode cX8_loadedIn 17 = .ok (.getfield 33, 3) := by decide +kernel
theorem dX8_loadedIn_20 : decode cX8_loadedIn 20 = .ok (.invokevirtual 285, 3) := by decide +kernel
theorem dX8_loadedIn_23 : decode cX8_loadedIn 23 = .ok (.aload_n 0, 1) := by decide +kernel
theorem dX8_loadedIn_24 : decode cX8_loadedIn 24 = .ok (.getfield 23, 3) := by decide +kernel
theorem dX8_loadedIn_27 : decode cX8_loadedIn 27 = .ok (.aload_n 0, 1) := by decide +kernel
theorem dX8_loadedIn_28 : decode cX8_loadedIn 28 = .ok (.getfield 37, 3) := by decide +kernel
theorem dX8_loadedIn_31 : decode cX8_loadedIn 31 = .ok (.iload_n 1, 1) := by decide +kernel
theorem dX8_loadedIn_32 : decode cX8_loadedIn 32 = .ok (.bipush 10, 2) := by decide +kernel
theorem dX8_loadedIn_34 : decode cX8_loadedIn 34 = .ok (.invokestatic 289, 3) := by decide +kernel
theorem dX8_loadedIn_37 : decode cX8_loadedIn 37 = .ok (.ireturn, 1) := by decide +kernel
theorem dX8_shortIn_0 : decode cX8_shortIn 0 = .ok (.aload_n 0, 1) := by decide +kernel
theorem dX8_shortIn_1 : decode cX8_shortIn 1 = .ok (.invokevirtual 168, 3) := by decide +kernel
theorem dX8_shortIn_4 : decode cX8_shortIn 4 = .ok (.aload_n 0, 1) := by decide +kernel
theorem dX8_shortIn_5 : decode cX8_shortIn 5 = .ok (.iload_n 1, 1) := by decide +kernel
theorem dX8_shortIn_6 : decode cX8_shortIn 6 = .ok (.sipush 500, 3) := by decide +kernel
theorem dX8_shortIn_9 : decode cX8_shortIn 9 = .ok (.invokevirtual 282, 3) := by decide +kernel
theorem dX8_shortIn_12 : decode cX8_shortIn 12 = .ok (.aload_n 0, 1) := by decide +kernel
theorem dX8_shortIn_13 : decode cX8_shortIn 13 = .ok (.getfield 37, 3) := by decide +kernel
theorem dX8_shortIn_16 : decode cX8_shortIn 16 = .ok (.aload_n 0, 1) := by decide +kernel
theorem dX8_shortIn_17 : decode cX8_shortIn 17 = .ok (.getfield 33, 3) := by decide +kernel
theorem dX8_shortIn_20 : decode cX8_shortIn 20 = .ok (.invokevirtual 285, 3) := by decide +kernel
theorem dX8_shortIn_23 : decode cX8_shortIn 23 = .ok (.aload_n 0, 1) := by decide +kernel
theorem dX8_shortIn_24 : decode cX8_shortIn 24 = .ok (.getfield 23, 3) := by decide +kernel
theorem dX8_shortIn_27 : decode cX8_shortIn 27 = .ok (.aload_n 0, 1) := by decide +kernel
theorem dX8_shortIn_28 : decode cX8_shortIn 28 = .ok (.getfield 37, 3) := by decide +kernel
theorem dX8_shortIn_31 : decode cX8_shortIn 31 = .ok (.iload_n 1, 1) := by decide +kernel
theorem dX8_shortIn_32 : decode cX8_shortIn 32 = .ok (.bipush 11, 2) := by decide +kernel
theorem dX8_shortIn_34 : decode cX8_shortIn 34 = .ok (.invokestatic 289, 3) := by decide +kernel
theorem dX8_shortIn_37 : decode cX8_shortIn 37 = .ok (.ireturn, 1) := by decide +kernel
theorem dX8_timeToClear_0 : decode cX8_timeToClear 0 = .ok (.aload_n 0, 1) := by decide +kernel
theorem dX8_timeToClear_1 : decode cX8_timeToClear 1 = .ok (.invokevirtual 168, 3) := by decide +kernel
theorem dX8_timeToClear_4 : decode cX8_timeToClear 4 = .ok (.aload_n 0, 1) := by decide +kernel
theorem dX8_timeToClear_5 : decode cX8_timeToClear 5 = .ok (.iload_n 1, 1) := by decide +kernel
theorem dX8_timeToClear_6 : decode cX8_timeToClear 6 = .ok (.sipush 500, 3) := by decide +kernel
theorem dX8_timeToClear_9 : decode cX8_timeToClear 9 = .ok (.invokevirtual 282, 3) := by decide +kernel
theorem dX8_timeToClear_12 : decode cX8_timeToClear 12 = .ok (.aload_n 0, 1) := by decide +kernel
theorem dX8_timeToClear_13 : decode cX8_timeToClear 13 = .ok (.getfield 37, 3) := by decide +kernel
theorem dX8_timeToClear_16 : decode cX8_timeToClear 16 = .ok (.aload_n 0, 1) := by decide +kernel
theorem dX8_timeToClear_17 : decode cX8_timeToClear 17 = .ok (.getfield 33, 3) := by decide +kernel
theorem dX8_timeToClear_20 : decode cX8_timeToClear 20 = .ok (.invokevirtual 285, 3) := by decide +kernel
theorem dX8_timeToClear_23 : decode cX8_timeToClear 23 = .ok (.iconst 0, 1) := by decide +kernel
theorem dX8_timeToClear_24 : decode cX8_timeToClear 24 = .ok (.istore_n 2, 1) := by decide +kernel
theorem dX8_timeToClear_25 : decode cX8_timeToClear 25 = .ok (.iload_n 2, 1) := by decide +kernel
theorem dX8_timeToClear_26 : decode cX8_timeToClear 26 = .ok (.iload_n 1, 1) := by decide +kernel
theorem dX8_timeToClear_27 : decode cX8_timeToClear 27 = .ok (.if_icmp .ge 35, 3) := by decide +kernel
theorem dX8_timeToClear_30 : decode cX8_timeToClear 30 = .ok (.aload_n 0, 1) := by decide +kernel
theorem dX8_timeToClear_31 : decode cX8_timeToClear 31 = .ok (.getfield 37, 3) := by decide +kernel
theorem dX8_timeToClear_34 : decode cX8_timeToClear 34 = .ok (.getfield 95, 3) := by decide +kernel
theorem dX8_timeToClear_37 : decode cX8_timeToClear 37 = .ok (.invokevirtual 293, 3) := by decide +kernel
theorem dX8_timeToClear_40 : decode cX8_timeToClear 40 = .ok (.ifCond .eq 5, 3) := by decide +kernel
theorem dX8_timeToClear_43 : decode cX8_timeToClear 43 = .ok (.iload_n 2, 1) := by decide +kernel
theorem dX8_timeToClear_44 : decode cX8_timeToClear 44 = .ok (.ireturn, 1) := by decide +kernel
theorem dX8_timeToClear_45 : decode cX8_timeToClear 45 = .ok (.aload_n 0, 1) := by decide +kernel
theorem dX8_timeToClear_46 : decode cX8_timeToClear 46 = .ok (.getfield 23, 3) := by decide +kernel
theorem dX8_timeToClear_49 : decode cX8_timeToClear 49 = .ok (.aload_n 0, 1) := by decide +kernel
theorem dX8_timeToClear_50 : decode cX8_timeToClear 50 = .ok (.getfield 37, 3) := by decide +kernel
theorem dX8_timeToClear_53 : decode cX8_timeToClear 53 = .ok (.invokestatic 297, 3) := by decide +kernel
theorem dX8_timeToClear_56 : decode cX8_timeToClear 56 = .ok (.iinc 2 1, 3) := by decide +kernel
theorem dX8_timeToClear_59 : decode cX8_timeToClear 59 = .ok (.goto (-34), 3) := by decide +kernel
theorem dX8_timeToClear_62 : decode cX8_timeToClear 62 = .ok (.aload_n 0, 1) := by decide +kernel
theorem dX8_timeToClear_63 : decode cX8_timeToClear 63 = .ok (.getfield 37, 3) := by decide +kernel
theorem dX8_timeToClear_66 : decode cX8_timeToClear 66 = .ok (.getfield 95, 3) := by decide +kernel
theorem dX8_timeToClear_69 : decode cX8_timeToClear 69 = .ok (.invokevirtual 293, 3) := by decide +kernel
theorem dX8_timeToClear_72 : decode cX8_timeToClear 72 = .ok (.ifCond .eq 7, 3) := by decide +kernel
theorem dX8_timeToClear_75 : decode cX8_timeToClear 75 = .ok (.iload_n 1, 1) := by decide +kernel
theorem dX8_timeToClear_76 : decode cX8_timeToClear 76 = .ok (.goto 4, 3) := by decide +kernel
theorem dX8_timeToClear_79 : decode cX8_timeToClear 79 = .ok (.iconst (-1), 1) := by decide +kernel
theorem dX8_timeToClear_80 : decode cX8_timeToClear 80 = .ok (.ireturn, 1) := by decide +kernel
theorem dX8_bestDelay_0 : decode cX8_bestDelay 0 = .ok (.aload_n 0, 1) := by decide +kernel
theorem dX8_bestDelay_1 : decode cX8_bestDelay 1 = .ok (.iload_n 1, 1) := by decide +kernel
theorem dX8_bestDelay_2 : decode cX8_bestDelay 2 = .ok (.invokevirtual 229, 3) := by decide +kernel
theorem dX8_bestDelay_5 : decode cX8_bestDelay 5 = .ok (.aload_n 0, 1) := by decide +kernel
theorem dX8_bestDelay_6 : decode cX8_bestDelay 6 = .ok (.iload_n 2, 1) := by decide +kernel
theorem dX8_bestDelay_7 : decode cX8_bestDelay 7 = .ok (.sipush 200, 3) := by decide +kernel
theorem dX8_bestDelay_10 : decode cX8_bestDelay 10 = .ok (.invokevirtual 282, 3) := by decide +kernel
theorem dX8_bestDelay_13 : decode cX8_bestDelay 13 = .ok (.aload_n 0, 1) := by decide +kernel
theorem dX8_bestDelay_14 : decode cX8_bestDelay 14 = .ok (.iload_n 1, 1) := by decide +kernel
theorem dX8_bestDelay_15 : decode cX8_bestDelay 15 = .ok (.invokevirtual 301, 3) := by decide +kernel
theorem dX8_bestDelay_18 : decode cX8_bestDelay 18 = .ok (.iconst 0, 1) := by decide +kernel
theorem dX8_bestDelay_19 : decode cX8_bestDelay 19 = .ok (.istore_n 3, 1) := by decide +kernel
theorem dX8_bestDelay_20 : decode cX8_bestDelay 20 = .ok (.bipush 101, 2) := by decide +kernel
theorem dX8_bestDelay_22 : decode cX8_bestDelay 22 = .ok (.istore 4, 2) := by decide +kernel
theorem dX8_bestDelay_24 : decode cX8_bestDelay 24 = .ok (.iconst 0, 1) := by decide +kernel
theorem dX8_bestDelay_25 : decode cX8_bestDelay 25 = .ok (.istore 5, 2) := by decide +kernel
theorem dX8_bestDelay_27 : decode cX8_bestDelay 27 = .ok (.iload 5, 2) := by decide +kernel
theorem dX8_bestDelay_29 : decode cX8_bestDelay 29 = .ok (.bipush 50, 2) := by decide +kernel
theorem dX8_bestDelay_31 : decode cX8_bestDelay 31 = .ok (.if_icmp .gt 60, 3) := by decide +kernel
theorem dX8_bestDelay_34 : decode cX8_bestDelay 34 = .ok (.aload_n 0, 1) := by decide +kernel
theorem dX8_bestDelay_35 : decode cX8_bestDelay 35 = .ok (.getfield 37, 3) := by decide +kernel
theorem dX8_bestDelay_38 : decode cX8_bestDelay 38 = .ok (.aload_n 0, 1) := by decide +kernel
theorem dX8_bestDelay_39 : decode cX8_bestDelay 39 = .ok (.getfield 33, 3) := by decide +kernel
theorem dX8_bestDelay_42 : decode cX8_bestDelay 42 = .ok (.invokevirtual 285, 3) := by decide +kernel
theorem dX8_bestDelay_45 : decode cX8_bestDelay 45 = .ok (.aload_n 0, 1) := by decide +kernel
theorem dX8_bestDelay_46 : decode cX8_bestDelay 46 = .ok (.getfield 37, 3) := by decide +kernel
theorem dX8_bestDelay_49 : decode cX8_bestDelay 49 = .ok (.iload_n 1, 1) := by decide +kernel
theorem dX8_bestDelay_50 : decode cX8_bestDelay 50 = .ok (.iload 5, 2) := by decide +kernel
theorem dX8_bestDelay_52 : decode cX8_bestDelay 52 = .ok (.invokevirtual 304, 3) := by decide +kernel
theorem dX8_bestDelay_55 : decode cX8_bestDelay 55 = .ok (.aload_n 0, 1) := by decide +kernel
theorem dX8_bestDelay_56 : decode cX8_bestDelay 56 = .ok (.getfield 23, 3) := by decide +kernel
theorem dX8_bestDelay_59 : decode cX8_bestDelay 59 = .ok (.aload_n 0, 1) := by decide +kernel
theorem dX8_bestDelay_60 : decode cX8_bestDelay 60 = .ok (.getfield 37, 3) := by decide +kernel
theorem dX8_bestDelay_63 : decode cX8_bestDelay 63 = .ok (.iload_n 2, 1) := by decide +kernel
theorem dX8_bestDelay_64 : decode cX8_bestDelay 64 = .ok (.bipush 11, 2) := by decide +kernel
theorem dX8_bestDelay_66 : decode cX8_bestDelay 66 = .ok (.invokestatic 289, 3) := by decide +kernel
theorem dX8_bestDelay_69 : decode cX8_bestDelay 69 = .ok (.istore 6, 2) := by decide +kernel
theorem dX8_bestDelay_71 : decode cX8_bestDelay 71 = .ok (.iload 6, 2) := by decide +kernel
theorem dX8_bestDelay_73 : decode cX8_bestDelay 73 = .ok (.iload 4, 2) := by decide +kernel
theorem dX8_bestDelay_75 : decode cX8_bestDelay 75 = .ok (.if_icmp .ge 10, 3) := by decide +kernel
theorem dX8_bestDelay_78 : decode cX8_bestDelay 78 = .ok (.iload 6, 2) := by decide +kernel
theorem dX8_bestDelay_80 : decode cX8_bestDelay 80 = .ok (.istore 4, 2) := by decide +kernel
theorem dX8_bestDelay_82 : decode cX8_bestDelay 82 = .ok (.iload 5, 2) := by decide +kernel
theorem dX8_bestDelay_84 : decode cX8_bestDelay 84 = .ok (.istore_n 3, 1) := by decide +kernel
theorem dX8_bestDelay_85 : decode cX8_bestDelay 85 = .ok (.iinc 5 5, 3) := by decide +kernel
theorem dX8_bestDelay_88 : decode cX8_bestDelay 88 = .ok (.goto (-61), 3) := by decide +kernel
theorem dX8_bestDelay_91 : decode cX8_bestDelay 91 = .ok (.iload_n 3, 1) := by decide +kernel
theorem dX8_bestDelay_92 : decode cX8_bestDelay 92 = .ok (.ireturn, 1) := by decide +kernel
theorem dX8_withoutLane_0 : decode cX8_withoutLane 0 = .ok (.aload_n 0, 1) := by decide +kernel
theorem dX8_withoutLane_1 : decode cX8_withoutLane 1 = .ok (.iload_n 1, 1) := by decide +kernel
theorem dX8_withoutLane_2 : decode cX8_withoutLane 2 = .ok (.invokevirtual 210, 3) := by decide +kernel
theorem dX8_withoutLane_5 : decode cX8_withoutLane 5 = .ok (.aload_n 0, 1) := by decide +kernel
theorem dX8_withoutLane_6 : decode cX8_withoutLane 6 = .ok (.iload_n 2, 1) := by decide +kernel
theorem dX8_withoutLane_7 : decode cX8_withoutLane 7 = .ok (.sipush 500, 3) := by decide +kernel
theorem dX8_withoutLane_10 : decode cX8_withoutLane 10 = .ok (.invokevirtual 282, 3) := by decide +kernel
theorem dX8_withoutLane_13 : decode cX8_withoutLane 13 = .ok (.aload_n 0, 1) := by decide +kernel
theorem dX8_withoutLane_14 : decode cX8_withoutLane 14 = .ok (.getfield 37, 3) := by decide +kernel
theorem dX8_withoutLane_17 : decode cX8_withoutLane 17 = .ok (.aload_n 0, 1) := by decide +kernel
theorem dX8_withoutLane_18 : decode cX8_withoutLane 18 = .ok (.getfield 33, 3) := by decide +kernel
theorem dX8_withoutLane_21 : decode cX8_withoutLane 21 = .ok (.invokevirtual 285, 3) := by decide +kernel
theorem dX8_withoutLane_24 : decode cX8_withoutLane 24 = .ok (.aload_n 0, 1) := by decide +kernel
theorem dX8_withoutLane_25 : decode cX8_withoutLane 25 = .ok (.getfield 37, 3) := by decide +kernel
theorem dX8_withoutLane_28 : decode cX8_withoutLane 28 = .ok (.getfield 307, 3) := by decide +kernel
theorem dX8_withoutLane_31 : decode cX8_withoutLane 31 = .ok (.iload_n 1, 1) := by decide +kernel
theorem dX8_withoutLane_32 : decode cX8_withoutLane 32 = .ok (.iconst 1, 1) := by decide +kernel
theorem dX8_withoutLane_33 : decode cX8_withoutLane 33 = .ok (.invokestatic 310, 3) := by decide +kernel
theorem dX8_withoutLane_36 : decode cX8_withoutLane 36 = .ok (.aload_n 0, 1) := by decide +kernel
theorem dX8_withoutLane_37 : decode cX8_withoutLane 37 = .ok (.getfield 23, 3) := by decide +kernel
theorem dX8_withoutLane_40 : decode cX8_withoutLane 40 = .ok (.aload_n 0, 1) := by decide +kernel
theorem dX8_withoutLane_41 : decode cX8_withoutLane 41 = .ok (.getfield 37, 3) := by decide +kernel
theorem dX8_withoutLane_44 : decode cX8_withoutLane 44 = .ok (.iload_n 2, 1) := by decide +kernel
theorem dX8_withoutLane_45 : decode cX8_withoutLane 45 = .ok (.bipush 10, 2) := by decide +kernel
theorem dX8_withoutLane_47 : decode cX8_withoutLane 47 = .ok (.invokestatic 289, 3) := by decide +kernel
theorem dX8_withoutLane_50 : decode cX8_withoutLane 50 = .ok (.ireturn, 1) := by decide +kernel
theorem dX8_advance_0 : decode cX8_advance 0 = .ok (.aload_n 0, 1) := by decide +kernel
theorem dX8_advance_1 : decode cX8_advance 1 = .ok (.invokevirtual 168, 3) := by decide +kernel
theorem dX8_advance_4 : decode cX8_advance 4 = .ok (.aload_n 0, 1) := by decide +kernel
theorem dX8_advance_5 : decode cX8_advance 5 = .ok (.iload_n 1, 1) := by decide +kernel
theorem dX8_advance_6 : decode cX8_advance 6 = .ok (.sipush 500, 3) := by decide +kernel
theorem dX8_advance_9 : decode cX8_advance 9 = .ok (.invokevirtual 282, 3) := by decide +kernel
theorem dX8_advance_12 : decode cX8_advance 12 = .ok (.aload_n 0, 1) := by decide +kernel
theorem dX8_advance_13 : decode cX8_advance 13 = .ok (.getfield 43, 3) := by decide +kernel
theorem dX8_advance_16 : decode cX8_advance 16 = .ok (.aload_n 0, 1) := by decide +kernel
theorem dX8_advance_17 : decode cX8_advance 17 = .ok (.getfield 33, 3) := by decide +kernel
theorem dX8_advance_20 : decode cX8_advance 20 = .ok (.invokevirtual 314, 3) := by decide +kernel
theorem dX8_advance_23 : decode cX8_advance 23 = .ok (.aload_n 0, 1) := by decide +kernel
theorem dX8_advance_24 : decode cX8_advance 24 = .ok (.getfield 23, 3) := by decide +kernel
theorem dX8_advance_27 : decode cX8_advance 27 = .ok (.aload_n 0, 1) := by decide +kernel
theorem dX8_advance_28 : decode cX8_advance 28 = .ok (.getfield 33, 3) := by decide +kernel
theorem dX8_advance_31 : decode cX8_advance 31 = .ok (.iload_n 1, 1) := by decide +kernel
theorem dX8_advance_32 : decode cX8_advance 32 = .ok (.bipush 10, 2) := by decide +kernel
theorem dX8_advance_34 : decode cX8_advance 34 = .ok (.invokestatic 289, 3) := by decide +kernel
theorem dX8_advance_37 : decode cX8_advance 37 = .ok (.ireturn, 1) := by decide +kernel
theorem dX8_addBags_0 : decode cX8_addBags 0 = .ok (.aload_n 0, 1) := by decide +kernel
theorem dX8_addBags_1 : decode cX8_addBags 1 = .ok (.iload_n 3, 1) := by decide +kernel
theorem dX8_addBags_2 : decode cX8_addBags 2 = .ok (.invokevirtual 229, 3) := by decide +kernel
theorem dX8_addBags_5 : decode cX8_addBags 5 = .ok (.iload_n 1, 1) := by decide +kernel
theorem dX8_addBags_6 : decode cX8_addBags 6 = .ok (.iconst 1, 1) := by decide +kernel
theorem dX8_addBags_7 : decode cX8_addBags 7 = .ok (.sipush 999, 3) := by decide +kernel
theorem dX8_addBags_10 : decode cX8_addBags 10 = .ok (.invokestatic 181, 3) := by decide +kernel
theorem dX8_addBags_13 : decode cX8_addBags 13 = .ok (.iload_n 2, 1) := by decide +kernel
theorem dX8_addBags_14 : decode cX8_addBags 14 = .ok (.iconst 1, 1) := by decide +kernel
theorem dX8_addBags_15 : decode cX8_addBags 15 = .ok (.bipush 100, 2) := by decide +kernel
theorem dX8_addBags_17 : decode cX8_addBags 17 = .ok (.aload_n 0, 1) := by decide +kernel
theorem dX8_addBags_18 : decode cX8_addBags 18 = .ok (.getfield 33, 3) := by decide +kernel
theorem dX8_addBags_21 : decode cX8_addBags 21 = .ok (.getfield 95, 3) := by decide +kernel
theorem dX8_addBags_24 : decode cX8_addBags 24 = .ok (.getfield 99, 3) := by decide +kernel
theorem dX8_addBags_27 : decode cX8_addBags 27 = .ok (.isub, 1) := by decide +kernel
theorem dX8_addBags_28 : decode cX8_addBags 28 = .ok (.invokestatic 181, 3) := by decide +kernel
theorem dX8_addBags_31 : decode cX8_addBags 31 = .ok (.aload_n 0, 1) := by decide +kernel
theorem dX8_addBags_32 : decode cX8_addBags 32 = .ok (.getfield 43, 3) := by decide +kernel
theorem dX8_addBags_35 : decode cX8_addBags 35 = .ok (.aload_n 0, 1) := by decide +kernel
theorem dX8_addBags_36 : decode cX8_addBags 36 = .ok (.getfield 33, 3) := by decide +kernel
theorem dX8_addBags_39 : decode cX8_addBags 39 = .ok (.invokevirtual 314, 3) := by decide +kernel
theorem dX8_addBags_42 : decode cX8_addBags 42 = .ok (.aload_n 0, 1) := by decide +kernel
theorem dX8_addBags_43 : decode cX8_addBags 43 = .ok (.getfield 33, 3) := by decide +kernel
theorem dX8_addBags_46 : decode cX8_addBags 46 = .ok (.getfield 95, 3) := by decide +kernel
theorem dX8_addBags_49 : decode cX8_addBags 49 = .ok (.getfield 99, 3) := by decide +kernel
theorem dX8_addBags_52 : decode cX8_addBags 52 = .ok (.istore 4, 2) := by decide +kernel
theorem dX8_addBags_54 : decode cX8_addBags 54 = .ok (.aload_n 0, 1) := by decide +kernel
theorem dX8_addBags_55 : decode cX8_addBags 55 = .ok (.getfield 33, 3) := by decide +kernel
theorem dX8_addBags_58 : decode cX8_addBags 58 = .ok (.getfield 95, 3) := by decide +kernel
theorem dX8_addBags_61 : decode cX8_addBags 61 = .ok (.aload_n 0, 1) := by decide +kernel
theorem dX8_addBags_62 : decode cX8_addBags 62 = .ok (.getfield 33, 3) := by decide +kernel
theorem dX8_addBags_65 : decode cX8_addBags 65 = .ok (.getfield 110, 3) := by decide +kernel
theorem dX8_addBags_68 : decode cX8_addBags 68 = .ok (.iload_n 1, 1) := by decide +kernel
theorem dX8_addBags_69 : decode cX8_addBags 69 = .ok (.iadd, 1) := by decide +kernel
theorem dX8_addBags_70 : decode cX8_addBags 70 = .ok (.iload_n 2, 1) := by decide +kernel
theorem dX8_addBags_71 : decode cX8_addBags 71 = .ok (.iload_n 3, 1) := by decide +kernel
theorem dX8_addBags_72 : decode cX8_addBags 72 = .ok (.invokevirtual 317, 3) := by decide +kernel
theorem dX8_addBags_75 : decode cX8_addBags 75 = .ok (.iload 4, 2) := by decide +kernel
theorem dX8_addBags_77 : decode cX8_addBags 77 = .ok (.ireturn, 1) := by decide +kernel
theorem dX8_delay_0 : decode cX8_delay 0 = .ok (.aload_n 0, 1) := by decide +kernel
theorem dX8_delay_1 : decode cX8_delay 1 = .ok (.iload_n 1, 1) := by decide +kernel
theorem dX8_delay_2 : decode cX8_delay 2 = .ok (.invokevirtual 229, 3) := by decide +kernel
theorem dX8_delay_5 : decode cX8_delay 5 = .ok (.iload_n 2, 1) := by decide +kernel
theorem dX8_delay_6 : decode cX8_delay 6 = .ok (.iconst 1, 1) := by decide +kernel
theorem dX8_delay_7 : decode cX8_delay 7 = .ok (.sipush 999, 3) := by decide +kernel
theorem dX8_delay_10 : decode cX8_delay 10 = .ok (.invokestatic 181, 3) := by decide +kernel
theorem dX8_delay_13 : decode cX8_delay 13 = .ok (.aload_n 0, 1) := by decide +kernel
theorem dX8_delay_14 : decode cX8_delay 14 = .ok (.iload_n 1, 1) := by decide +kernel
theorem dX8_delay_15 : decode cX8_delay 15 = .ok (.invokevirtual 301, 3) := by decide +kernel
theorem dX8_delay_18 : decode cX8_delay 18 = .ok (.aload_n 0, 1) := by decide +kernel
theorem dX8_delay_19 : decode cX8_delay 19 = .ok (.getfield 43, 3) := by decide +kernel
theorem dX8_delay_22 : decode cX8_delay 22 = .ok (.aload_n 0, 1) := by decide +kernel
theorem dX8_delay_23 : decode cX8_delay 23 = .ok (.getfield 33, 3) := by decide +kernel
theorem dX8_delay_26 : decode cX8_delay 26 = .ok (.invokevirtual 314, 3) := by decide +kernel
theorem dX8_delay_29 : decode cX8_delay 29 = .ok (.aload_n 0, 1) := by decide +kernel
theorem dX8_delay_30 : decode cX8_delay 30 = .ok (.getfield 33, 3) := by decide +kernel
theorem dX8_delay_33 : decode cX8_delay 33 = .ok (.iload_n 1, 1) := by decide +kernel
theorem dX8_delay_34 : decode cX8_delay 34 = .ok (.iload_n 2, 1) := by decide +kernel
theorem dX8_delay_35 : decode cX8_delay 35 = .ok (.invokevirtual 304, 3) := by decide +kernel
theorem dX8_delay_38 : decode cX8_delay 38 = .ok (.aload_n 0, 1) := by decide +kernel
theorem dX8_delay_39 : decode cX8_delay 39 = .ok (.getfield 33, 3) := by decide +kernel
theorem dX8_delay_42 : decode cX8_delay 42 = .ok (.getfield 156, 3) := by decide +kernel
theorem dX8_delay_45 : decode cX8_delay 45 = .ok (.iload_n 1, 1) := by decide +kernel
theorem dX8_delay_46 : decode cX8_delay 46 = .ok (.invokestatic 120, 3) := by decide +kernel
theorem dX8_delay_49 : decode cX8_delay 49 = .ok (.ireturn, 1) := by decide +kernel
theorem dX8_offload_0 : decode cX8_offload 0 = .ok (.aload_n 0, 1) := by decide +kernel
theorem dX8_offload_1 : decode cX8_offload 1 = .ok (.iload_n 1, 1) := by decide +kernel
theorem dX8_offload_2 : decode cX8_offload 2 = .ok (.invokevirtual 113, 3) := by decide +kernel
theorem dX8_offload_5 : decode cX8_offload 5 = .ok (.aload_n 0, 1) := by decide +kernel
theorem dX8_offload_6 : decode cX8_offload 6 = .ok (.getfield 33, 3) := by decide +kernel
theorem dX8_offload_9 : decode cX8_offload 9 = .ok (.getfield 95, 3) := by decide +kernel
theorem dX8_offload_12 : decode cX8_offload 12 = .ok (.getfield 116, 3) := by decide +kernel
theorem dX8_offload_15 : decode cX8_offload 15 = .ok (.iload_n 1, 1) := by decide +kernel
theorem dX8_offload_16 : decode cX8_offload 16 = .ok (.invokestatic 120, 3) := by decide +kernel
theorem dX8_offload_19 : decode cX8_offload 19 = .ok (.bipush 10, 2) := by decide +kernel
theorem dX8_offload_21 : decode cX8_offload 21 = .ok (.if_icmp .eq 14, 3) := by decide +kernel
theorem dX8_offload_24 : decode cX8_offload 24 = .ok (.new 320, 3) := by decide +kernel
theorem dX8_offload_27 : decode cX8_offload 27 = .ok (.dup, 1) := by decide +kernel
theorem dX8_offload_28 : decode cX8_offload 28 = .ok (.ldc_w 322, 3) := by decide +kernel
theorem dX8_offload_31 : decode cX8_offload 31 = .ok (.invokespecial 324, 3) := by decide +kernel
theorem dX8_offload_34 : decode cX8_offload 34 = .ok (.athrow, 1) := by decide +kernel
theorem dX8_offload_35 : decode cX8_offload 35 = .ok (.aload_n 0, 1) := by decide +kernel
theorem dX8_offload_36 : decode cX8_offload 36 = .ok (.getfield 43, 3) := by decide +kernel
theorem dX8_offload_39 : decode cX8_offload 39 = .ok (.aload_n 0, 1) := by decide +kernel
theorem dX8_offload_40 : decode cX8_offload 40 = .ok (.getfield 33, 3) := by decide +kernel
theorem dX8_offload_43 : decode cX8_offload 43 = .ok (.invokevirtual 314, 3) := by decide +kernel
theorem dX8_offload_46 : decode cX8_offload 46 = .ok (.aload_n 0, 1) := by decide +kernel
theorem dX8_offload_47 : decode cX8_offload 47 = .ok (.getfield 33, 3) := by decide +kernel
theorem dX8_offload_50 : decode cX8_offload 50 = .ok (.iload_n 1, 1) := by decide +kernel
theorem dX8_offload_51 : decode cX8_offload 51 = .ok (.bipush 13, 2) := by decide +kernel
theorem dX8_offload_53 : decode cX8_offload 53 = .ok (.invokevirtual 325, 3) := by decide +kernel
theorem dX8_offload_56 : decode cX8_offload 56 = .ok (.aload_n 0, 1) := by decide +kernel
theorem dX8_offload_57 : decode cX8_offload 57 = .ok (.aload_n 0, 1) := by decide +kernel
theorem dX8_offload_58 : decode cX8_offload 58 = .ok (.getfield 33, 3) := by decide +kernel
theorem dX8_offload_61 : decode cX8_offload 61 = .ok (.getfield 95, 3) := by decide +kernel
theorem dX8_offload_64 : decode cX8_offload 64 = .ok (.getfield 124, 3) := by decide +kernel
theorem dX8_offload_67 : decode cX8_offload 67 = .ok (.iload_n 1, 1) := by decide +kernel
theorem dX8_offload_68 : decode cX8_offload 68 = .ok (.invokestatic 120, 3) := by decide +kernel
theorem dX8_offload_71 : decode cX8_offload 71 = .ok (.invokevirtual 245, 3) := by decide +kernel
theorem dX8_offload_74 : decode cX8_offload 74 = .ok (.ireturn, 1) := by decide +kernel
theorem dX8_block_0 : decode cX8_block 0 = .ok (.aload_n 0, 1) := by decide +kernel
theorem dX8_block_1 : decode cX8_block 1 = .ok (.iload_n 1, 1) := by decide +kernel
theorem dX8_block_2 : decode cX8_block 2 = .ok (.invokevirtual 210, 3) := by decide +kernel
theorem dX8_block_5 : decode cX8_block 5 = .ok (.aload_n 0, 1) := by decide +kernel
theorem dX8_block_6 : decode cX8_block 6 = .ok (.getfield 43, 3) := by decide +kernel
theorem dX8_block_9 : decode cX8_block 9 = .ok (.aload_n 0, 1) := by decide +kernel
theorem dX8_block_10 : decode cX8_block 10 = .ok (.getfield 33, 3) := by decide +kernel
theorem dX8_block_13 : decode cX8_block 13 = .ok (.invokevirtual 314, 3) := by decide +kernel
theorem dX8_block_16 : decode cX8_block 16 = .ok (.aload_n 0, 1) := by decide +kernel
theorem dX8_block_17 : decode cX8_block 17 = .ok (.getfield 33, 3) := by decide +kernel
theorem dX8_block_20 : decode cX8_block 20 = .ok (.getfield 307, 3) := by decide +kernel
theorem dX8_block_23 : decode cX8_block 23 = .ok (.iload_n 1, 1) := by decide +kernel
theorem dX8_block_24 : decode cX8_block 24 = .ok (.invokestatic 120, 3) := by decide +kernel
theorem dX8_block_27 : decode cX8_block 27 = .ok (.iconst 1, 1) := by decide +kernel
theorem dX8_block_28 : decode cX8_block 28 = .ok (.if_icmp .ne 7, 3) := by decide +kernel
theorem dX8_block_31 : decode cX8_block 31 = .ok (.iconst 1, 1) := by decide +kernel
theorem dX8_block_32 : decode cX8_block 32 = .ok (.goto 4, 3) := by decide +kernel
theorem dX8_block_35 : decode cX8_block 35 = .ok (.iconst 0, 1) := by decide +kernel
theorem dX8_block_36 : decode cX8_block 36 = .ok (.istore_n 3, 1) := by decide +kernel
theorem dX8_block_37 : decode cX8_block 37 = .ok (.aload_n 0, 1) := by decide +kernel
theorem dX8_block_38 : decode cX8_block 38 = .ok (.getfield 33, 3) := by decide +kernel
theorem dX8_block_41 : decode cX8_block 41 = .ok (.getfield 307, 3) := by decide +kernel
theorem dX8_block_44 : decode cX8_block 44 = .ok (.iload_n 1, 1) := by decide +kernel
theorem dX8_block_45 : decode cX8_block 45 = .ok (.iload_n 2, 1) := by decide +kernel
theorem dX8_block_46 : decode cX8_block 46 = .ok (.ifCond .eq 7, 3) := by decide +kernel
theorem dX8_block_49 : decode cX8_block 49 = .ok (.iconst 1, 1) := by decide +kernel
theorem dX8_block_50 : decode cX8_block 50 = .ok (.goto 4, 3) := by decide +kernel
theorem dX8_block_53 : decode cX8_block 53 = .ok (.iconst 0, 1) := by decide +kernel
theorem dX8_block_54 : decode cX8_block 54 = .ok (.invokestatic 310, 3) := by decide +kernel
theorem dX8_block_57 : decode cX8_block 57 = .ok (.iload_n 3, 1) := by decide +kernel
theorem dX8_block_58 : decode cX8_block 58 = .ok (.ireturn, 1) := by decide +kernel
theorem dX8_setHot_0 : decode cX8_setHot 0 = .ok (.aload_n 0, 1) := by decide +kernel
theorem dX8_setHot_1 : decode cX8_setHot 1 = .ok (.invokevirtual 168, 3) := by decide +kernel
theorem dX8_setHot_4 : decode cX8_setHot 4 = .ok (.iload_n 1, 1) := by decide +kernel
theorem dX8_setHot_5 : decode cX8_setHot 5 = .ok (.iconst 0, 1) := by decide +kernel
theorem dX8_setHot_6 : decode cX8_setHot 6 = .ok (.sipush 999, 3) := by decide +kernel
theorem dX8_setHot_9 : decode cX8_setHot 9 = .ok (.invokestatic 181, 3) := by decide +kernel
theorem dX8_setHot_12 : decode cX8_setHot 12 = .ok (.aload_n 0, 1) := by decide +kernel
theorem dX8_setHot_13 : decode cX8_setHot 13 = .ok (.getfield 43, 3) := by decide +kernel
theorem dX8_setHot_16 : decode cX8_setHot 16 = .ok (.aload_n 0, 1) := by decide +kernel
theorem dX8_setHot_17 : decode cX8_setHot 17 = .ok (.getfield 33, 3) := by decide +kernel
theorem dX8_setHot_20 : decode cX8_setHot 20 = .ok (.invokevirtual 314, 3) := by decide +kernel
theorem dX8_setHot_23 : decode cX8_setHot 23 = .ok (.aload_n 0, 1) := by decide +kernel
theorem dX8_setHot_24 : decode cX8_setHot 24 = .ok (.getfield 33, 3) := by decide +kernel
theorem dX8_setHot_27 : decode cX8_setHot 27 = .ok (.getfield 159, 3) := by decide +kernel
theorem dX8_setHot_30 : decode cX8_setHot 30 = .ok (.istore_n 2, 1) := by decide +kernel
theorem dX8_setHot_31 : decode cX8_setHot 31 = .ok (.aload_n 0, 1) := by decide +kernel
theorem dX8_setHot_32 : decode cX8_setHot 32 = .ok (.getfield 33, 3) := by decide +kernel
theorem dX8_setHot_35 : decode cX8_setHot 35 = .ok (.iload_n 1, 1) := by decide +kernel
theorem dX8_setHot_36 : decode cX8_setHot 36 = .ok (.putfield 159, 3) := by decide +kernel
theorem dX8_setHot_39 : decode cX8_setHot 39 = .ok (.iload_n 2, 1) := by decide +kernel
theorem dX8_setHot_40 : decode cX8_setHot 40 = .ok (.ireturn, 1) := by decide +kernel
theorem dX8_breakMachine_0 : decode cX8_breakMachine 0 = .ok (.aload_n 0, 1) := by decide +kernel
theorem dX8_breakMachine_1 : decode cX8_breakMachine 1 = .ok (.iload_n 1, 1) := by decide +kernel
theorem dX8_breakMachine_2 : decode cX8_breakMachine 2 = .ok (.iload_n 2, 1) := by decide +kernel
theorem dX8_breakMachine_3 : decode cX8_breakMachine 3 = .ok (.invokevirtual 192, 3) := by decide +kernel
theorem dX8_breakMachine_6 : decode cX8_breakMachine 6 = .ok (.iload_n 3, 1) := by decide +kernel
theorem dX8_breakMachine_7 : decode cX8_breakMachine 7 = .ok (.iconst 1, 1) := by decide +kernel
theorem dX8_breakMachine_8 : decode cX8_breakMachine 8 = .ok (.sipush 999, 3) := by decide +kernel
theorem dX8_breakMachine_11 : decode cX8_breakMachine 11 = .ok (.invokestatic 181, 3) := by decide +kernel
theorem dX8_breakMachine_14 : decode cX8_breakMachine 14 = .ok (.aload_n 0, 1) := by decide +kernel
theorem dX8_breakMachine_15 : decode cX8_breakMachine 15 = .ok (.getfield 43, 3) := by decide +kernel
theorem dX8_breakMachine_18 : decode cX8_breakMachine 18 = .ok (.aload_n 0, 1) := by decide +kernel
theorem dX8_breakMachine_19 : decode cX8_breakMachine 19 = .ok (.getfield 33, 3) := by decide +kernel
theorem dX8_breakMachine_22 : decode cX8_breakMachine 22 = .ok (.invokevirtual 314, 3) := by decide +kernel
theorem dX8_breakMachine_25 : decode cX8_breakMachine 25 = .ok (.iload_n 1, 1) := by decide +kernel
theorem dX8_breakMachine_26 : decode cX8_breakMachine 26 = .ok (.iload_n 2, 1) := by decide +kernel
theorem dX8_breakMachine_27 : decode cX8_breakMachine 27 = .ok (.invokestatic 198, 3) := by decide +kernel
theorem dX8_breakMachine_30 : decode cX8_breakMachine 30 = .ok (.istore 4, 2) := by decide +kernel
theorem dX8_breakMachine_32 : decode cX8_breakMachine 32 = .ok (.aload_n 0, 1) := by decide +kernel
theorem dX8_breakMachine_33 : decode cX8_breakMachine 33 = .ok (.getfield 33, 3) := by decide +kernel
theorem dX8_breakMachine_36 : decode cX8_breakMachine 36 = .ok (.getfield 110, 3) := by decide +kernel
theorem dX8_breakMachine_39 : decode cX8_breakMachine 39 = .ok (.iload_n 3, 1) := by decide +kernel
theorem dX8_breakMachine_40 : decode cX8_breakMachine 40 = .ok (.iadd, 1) := by decide +kernel
theorem dX8_breakMachine_41 : decode cX8_breakMachine 41 = .ok (.istore 5, 2) := by decide +kernel
theorem dX8_breakMachine_43 : decode cX8_breakMachine 43 = .ok (.iload 5, 2) := by decide +kernel
theorem dX8_breakMachine_45 : decode cX8_breakMachine 45 = .ok (.aload_n 0, 1) := by decide +kernel
theorem dX8_breakMachine_46 : decode cX8_breakMachine 46 = .ok (.getfield 33, 3) := by decide +kernel
theorem dX8_breakMachine_49 : decode cX8_breakMachine 49 = .ok (.getfield 201, 3) := by decide +kernel
theorem dX8_breakMachine_52 : decode cX8_breakMachine 52 = .ok (.iload 4, 2) := by decide +kernel
theorem dX8_breakMachine_54 : decode cX8_breakMachine 54 = .ok (.invokestatic 120, 3) := by decide +kernel
theorem dX8_breakMachine_57 : decode cX8_breakMachine 57 = .ok (.if_icmp .gt 5, 3) := by decide +kernel
theorem dX8_breakMachine_60 : decode cX8_breakMachine 60 = .ok (.iconst 0, 1) := by decide +kernel
theorem dX8_breakMachine_61 : decode cX8_breakMachine 61 = .ok (.ireturn, 1) := by decide +kernel
theorem dX8_breakMachine_62 : decode cX8_breakMachine 62 = .ok (.aload_n 0, 1) := by decide +kernel
theorem dX8_breakMachine_63 : decode cX8_breakMachine 63 = .ok (.getfield 33, 3) := by decide +kernel
theorem dX8_breakMachine_66 : decode cX8_breakMachine 66 = .ok (.getfield 201, 3) := by decide +kernel
theorem dX8_breakMachine_69 : decode cX8_breakMachine 69 = .ok (.iload 4, 2) := by decide +kernel
theorem dX8_breakMachine_71 : decode cX8_breakMachine 71 = .ok (.iload 5, 2) := by decide +kernel
theorem dX8_breakMachine_73 : decode cX8_breakMachine 73 = .ok (.invokestatic 310, 3) := by decide +kernel
theorem dX8_breakMachine_76 : decode cX8_breakMachine 76 = .ok (.iconst 1, 1) := by decide +kernel
theorem dX8_breakMachine_77 : decode cX8_breakMachine 77 = .ok (.ireturn, 1) := by decide +kernel
theorem dX8_stopLoop_0 : decode cX8_stopLoop 0 = .ok (.aload_n 0, 1) := by decide +kernel
theorem dX8_stopLoop_1 : decode cX8_stopLoop 1 = .ok (.invokevirtual 168, 3) := by decide +kernel
theorem dX8_stopLoop_4 : decode cX8_stopLoop 4 = .ok (.iload_n 1, 1) := by decide +kernel
theorem dX8_stopLoop_5 : decode cX8_stopLoop 5 = .ok (.iconst 0, 1) := by decide +kernel
theorem dX8_stopLoop_6 : decode cX8_stopLoop 6 = .ok (.sipush 999, 3) := by decide +kernel
theorem dX8_stopLoop_9 : decode cX8_stopLoop 9 = .ok (.invokestatic 181, 3) := by decide +kernel
theorem dX8_stopLoop_12 : decode cX8_stopLoop 12 = .ok (.aload_n 0, 1) := by decide +kernel
theorem dX8_stopLoop_13 : decode cX8_stopLoop 13 = .ok (.getfield 43, 3) := by decide +kernel
theorem dX8_stopLoop_16 : decode cX8_stopLoop 16 = .ok (.aload_n 0, 1) := by decide +kernel
theorem dX8_stopLoop_17 : decode cX8_stopLoop 17 = .ok (.getfield 33, 3) := by decide +kernel
theorem dX8_stopLoop_20 : decode cX8_stopLoop 20 = .ok (.invokevirtual 314, 3) := by decide +kernel
theorem dX8_stopLoop_23 : decode cX8_stopLoop 23 = .ok (.aload_n 0, 1) := by decide +kernel
theorem dX8_stopLoop_24 : decode cX8_stopLoop 24 = .ok (.getfield 33, 3) := by decide +kernel
theorem dX8_stopLoop_27 : decode cX8_stopLoop 27 = .ok (.aload_n 0, 1) := by decide +kernel
theorem dX8_stopLoop_28 : decode cX8_stopLoop 28 = .ok (.getfield 33, 3) := by decide +kernel
theorem dX8_stopLoop_31 : decode cX8_stopLoop 31 = .ok (.getfield 110, 3) := by decide +kernel
theorem dX8_stopLoop_34 : decode cX8_stopLoop 34 = .ok (.iload_n 1, 1) := by decide +kernel
theorem dX8_stopLoop_35 : decode cX8_stopLoop 35 = .ok (.iadd, 1) := by decide +kernel
theorem dX8_stopLoop_36 : decode cX8_stopLoop 36 = .ok (.putfield 204, 3) := by decide +kernel
theorem dX8_stopLoop_39 : decode cX8_stopLoop 39 = .ok (.aload_n 0, 1) := by decide +kernel
theorem dX8_stopLoop_40 : decode cX8_stopLoop 40 = .ok (.getfield 33, 3) := by decide +kernel
theorem dX8_stopLoop_43 : decode cX8_stopLoop 43 = .ok (.getfield 204, 3) := by decide +kernel
theorem dX8_stopLoop_46 : decode cX8_stopLoop 46 = .ok (.ireturn, 1) := by decide +kernel
theorem dX8_reroute_0 : decode cX8_reroute 0 = .ok (.aload_n 0, 1) := by decide +kernel
theorem dX8_reroute_1 : decode cX8_reroute 1 = .ok (.iload_n 1, 1) := by decide +kernel
theorem dX8_reroute_2 : decode cX8_reroute 2 = .ok (.invokevirtual 113, 3) := by decide +kernel
theorem dX8_reroute_5 : decode cX8_reroute 5 = .ok (.aload_n 0, 1) := by decide +kernel
theorem dX8_reroute_6 : decode cX8_reroute 6 = .ok (.iload_n 2, 1) := by decide +kernel
theorem dX8_reroute_7 : decode cX8_reroute 7 = .ok (.invokevirtual 229, 3) := by decide +kernel
theorem dX8_reroute_10 : decode cX8_reroute 10 = .ok (.aload_n 0, 1) := by decide +kernel
theorem dX8_reroute_11 : decode cX8_reroute 11 = .ok (.getfield 33, 3) := by decide +kernel
theorem dX8_reroute_14 : decode cX8_reroute 14 = .ok (.getfield 95, 3) := by decide +kernel
theorem dX8_reroute_17 : decode cX8_reroute 17 = .ok (.getfield 116, 3) := by decide +kernel
theorem dX8_reroute_20 : decode cX8_reroute 20 = .ok (.iload_n 1, 1) := by decide +kernel
theorem dX8_reroute_21 : decode cX8_reroute 21 = .ok (.invokestatic 120, 3) := by decide +kernel
theorem dX8_reroute_24 : decode cX8_reroute 24 = .ok (.invokestatic 149, 3) := by decide +kernel
theorem dX8_reroute_27 : decode cX8_reroute 27 = .ok (.ifCond .eq 14, 3) := by decide +kernel
theorem dX8_reroute_30 : decode cX8_reroute 30 = .ok (.new 320, 3) := by decide +kernel
theorem dX8_reroute_33 : decode cX8_reroute 33 = .ok (.dup, 1) := by decide +kernel
theorem dX8_reroute_34 : decode cX8_reroute 34 = .ok (.ldc_w 328, 3) := by decide +kernel
theorem dX8_reroute_37 : decode cX8_reroute 37 = .ok (.invokespecial 324, 3) := by decide +kernel
theorem dX8_reroute_40 : decode cX8_reroute 40 = .ok (.athrow, 1) := by decide +kernel
theorem dX8_reroute_41 : decode cX8_reroute 41 = .ok (.aload_n 0, 1) := by decide +kernel
theorem dX8_reroute_42 : decode cX8_reroute 42 = .ok (.getfield 43, 3) := by decide +kernel
theorem dX8_reroute_45 : decode cX8_reroute 45 = .ok (.aload_n 0, 1) := by decide +kernel
theorem dX8_reroute_46 : decode cX8_reroute 46 = .ok (.getfield 33, 3) := by decide +kernel
theorem dX8_reroute_49 : decode cX8_reroute 49 = .ok (.invokevirtual 314, 3) := by decide +kernel
theorem dX8_reroute_52 : decode cX8_reroute 52 = .ok (.aload_n 0, 1) := by decide +kernel
theorem dX8_reroute_53 : decode cX8_reroute 53 = .ok (.getfield 33, 3) := by decide +kernel
theorem dX8_reroute_56 : decode cX8_reroute 56 = .ok (.getfield 95, 3) := by decide +kernel
theorem dX8_reroute_59 : decode cX8_reroute 59 = .ok (.getfield 124, 3) := by decide +kernel
theorem dX8_reroute_62 : decode cX8_reroute 62 = .ok (.iload_n 1, 1) := by decide +kernel
theorem dX8_reroute_63 : decode cX8_reroute 63 = .ok (.invokestatic 120, 3) := by decide +kernel
theorem dX8_reroute_66 : decode cX8_reroute 66 = .ok (.istore_n 3, 1) := by decide +kernel
theorem dX8_reroute_67 : decode cX8_reroute 67 = .ok (.aload_n 0, 1) := by decide +kernel
theorem dX8_reroute_68 : decode cX8_reroute 68 = .ok (.getfield 33, 3) := by decide +kernel
theorem dX8_reroute_71 : decode cX8_reroute 71 = .ok (.getfield 95, 3) := by decide +kernel
theorem dX8_reroute_74 : decode cX8_reroute 74 = .ok (.getfield 124, 3) := by decide +kernel
theorem dX8_reroute_77 : decode cX8_reroute 77 = .ok (.iload_n 1, 1) := by decide +kernel
theorem dX8_reroute_78 : decode cX8_reroute 78 = .ok (.iload_n 2, 1) := by decide +kernel
theorem dX8_reroute_79 : decode cX8_reroute 79 = .ok (.invokestatic 310, 3) := by decide +kernel
theorem dX8_reroute_82 : decode cX8_reroute 82 = .ok (.iload_n 3, 1) := by decide +kernel
theorem dX8_reroute_83 : decode cX8_reroute 83 = .ok (.ireturn, 1) := by decide +kernel
theorem dX8_undo_0 : decode cX8_undo 0 = .ok (.aload_n 0, 1) := by decide +kernel
theorem dX8_undo_1 : decode cX8_undo 1 = .ok (.getfield 43, 3) := by decide +kernel
theorem dX8_undo_4 : decode cX8_undo 4 = .ok (.getfield 330, 3) := by decide +kernel
theorem dX8_undo_7 : decode cX8_undo 7 = .ok (.ifCond .ne 14, 3) := by decide +kernel
theorem dX8_undo_10 : decode cX8_undo 10 = .ok (.new 331, 3) := by decide +kernel
theorem dX8_undo_13 : decode cX8_undo 13 = .ok (.dup, 1) := by decide +kernel
theorem dX8_undo_14 : decode cX8_undo 14 = .ok (.ldc_w 333, 3) := by decide +kernel
theorem dX8_undo_17 : decode cX8_undo 17 = .ok (.invokespecial 335, 3) := by decide +kernel
theorem dX8_undo_20 : decode cX8_undo 20 = .ok (.athrow, 1) := by decide +kernel
theorem dX8_undo_21 : decode cX8_undo 21 = .ok (.aload_n 0, 1) := by decide +kernel
theorem dX8_undo_22 : decode cX8_undo 22 = .ok (.getfield 43, 3) := by decide +kernel
theorem dX8_undo_25 : decode cX8_undo 25 = .ok (.aload_n 0, 1) := by decide +kernel
theorem dX8_undo_26 : decode cX8_undo 26 = .ok (.getfield 33, 3) := by decide +kernel
theorem dX8_undo_29 : decode cX8_undo 29 = .ok (.invokevirtual 336, 3) := by decide +kernel
theorem dX8_undo_32 : decode cX8_undo 32 = .ok (.aload_n 0, 1) := by decide +kernel
theorem dX8_undo_33 : decode cX8_undo 33 = .ok (.getfield 43, 3) := by decide +kernel
theorem dX8_undo_36 : decode cX8_undo 36 = .ok (.getfield 330, 3) := by decide +kernel
theorem dX8_undo_39 : decode cX8_undo 39 = .ok (.ireturn, 1) := by decide +kernel
theorem dX8_undoable_0 : decode cX8_undoable 0 = .ok (.aload_n 0, 1) := by decide +kernel
theorem dX8_undoable_1 : decode cX8_undoable 1 = .ok (.getfield 43, 3) := by decide +kernel
theorem dX8_undoable_4 : decode cX8_undoable 4 = .ok (.getfield 330, 3) := by decide +kernel
theorem dX8_undoable_7 : decode cX8_undoable 7 = .ok (.ireturn, 1) := by decide +kernel
theorem dX8_save_0 : decode cX8_save 0 = .ok (.aload_n 0, 1) := by decide +kernel
theorem dX8_save_1 : decode cX8_save 1 = .ok (.invokevirtual 168, 3) := by decide +kernel
theorem dX8_save_4 : decode cX8_save 4 = .ok (.iload_n 1, 1) := by decide +kernel
theorem dX8_save_5 : decode cX8_save 5 = .ok (.iconst 2, 1) := by decide +kernel
theorem dX8_save_6 : decode cX8_save 6 = .ok (.invokestatic 171, 3) := by decide +kernel
theorem dX8_save_9 : decode cX8_save 9 = .ok (.iload_n 1, 1) := by decide +kernel
theorem dX8_save_10 : decode cX8_save 10 = .ok (.ifCond .ne 22, 3) := by decide +kernel
theorem dX8_save_13 : decode cX8_save 13 = .ok (.aload_n 0, 1) := by decide +kernel
theorem dX8_save_14 : decode cX8_save 14 = .ok (.getfield 47, 3) := by decide +kernel
theorem dX8_save_17 : decode cX8_save 17 = .ok (.aload_n 0, 1) := by decide +kernel
theorem dX8_save_18 : decode cX8_save 18 = .ok (.getfield 33, 3) := by decide +kernel
theorem dX8_save_21 : decode cX8_save 21 = .ok (.invokevirtual 285, 3) := by decide +kernel
theorem dX8_save_24 : decode cX8_save 24 = .ok (.aload_n 0, 1) := by decide +kernel
theorem dX8_save_25 : decode cX8_save 25 = .ok (.iconst 1, 1) := by decide +kernel
theorem dX8_save_26 : decode cX8_save 26 = .ok (.putfield 53, 3) := by decide +kernel
theorem dX8_save_29 : decode cX8_save 29 = .ok (.goto 19, 3) := by decide +kernel
theorem dX8_save_32 : decode cX8_save 32 = .ok (.aload_n 0, 1) := by decide +kernel
theorem dX8_save_33 : decode cX8_save 33 = .ok (.getfield 50, 3) := by decide +kernel
theorem dX8_save_36 : decode cX8_save 36 = .ok (.aload_n 0, 1) := by decide +kernel
theorem dX8_save_37 : decode cX8_save 37 = .ok (.getfield 33, 3) := by decide +kernel
theorem dX8_save_40 : decode cX8_save 40 = .ok (.invokevirtual 285, 3) := by decide +kernel
theorem dX8_save_43 : decode cX8_save 43 = .ok (.aload_n 0, 1) := by decide +kernel
theorem dX8_save_44 : decode cX8_save 44 = .ok (.iconst 1, 1) := by decide +kernel
theorem dX8_save_45 : decode cX8_save 45 = .ok (.putfield 56, 3) := by decide +kernel
theorem dX8_save_48 : decode cX8_save 48 = .ok (.aload_n 0, 1) := by decide +kernel
theorem dX8_save_49 : decode cX8_save 49 = .ok (.getfield 33, 3) := by decide +kernel
theorem dX8_save_52 : decode cX8_save 52 = .ok (.getfield 110, 3) := by decide +kernel
theorem dX8_save_55 : decode cX8_save 55 = .ok (.ireturn, 1) := by decide +kernel
theorem dX8_restore_0 : decode cX8_restore 0 = .ok (.iload_n 1, 1) := by decide +kernel
theorem dX8_restore_1 : decode cX8_restore 1 = .ok (.iconst 2, 1) := by decide +kernel
theorem dX8_restore_2 : decode cX8_restore 2 = .ok (.invokestatic 171, 3) := by decide +kernel
theorem dX8_restore_5 : decode cX8_restore 5 = .ok (.iload_n 1, 1) := by decide +kernel
theorem dX8_restore_6 : decode cX8_restore 6 = .ok (.ifCond .ne 13, 3) := by decide +kernel
theorem dX8_restore_9 : decode cX8_restore 9 = .ok (.aload_n 0, 1) := by decide +kernel
theorem dX8_restore_10 : decode cX8_restore 10 = .ok (.getfield 53, 3) := by decide +kernel
theorem dX8_restore_13 : decode cX8_restore 13 = .ok (.ifCond .ne 24, 3) := by decide +kernel
theorem dX8_restore_16 : decode cX8_restore 16 = .ok (.goto 10, 3) := by decide +kernel
theorem dX8_restore_19 : decode cX8_restore 19 = .ok (.aload_n 0, 1) := by decide +kernel
theorem dX8_restore_20 : decode cX8_restore 20 = .ok (.getfield 56, 3) := by decide +kernel
theorem dX8_restore_23 : decode cX8_restore 23 = .ok (.ifCond .ne 14, 3) := by decide +kernel
theorem dX8_restore_26 : decode cX8_restore 26 = .ok (.new 331, 3) := by decide +kernel
theorem dX8_restore_29 : decode cX8_restore 29 = .ok (.dup, 1) := by decide +kernel
theorem dX8_restore_30 : decode cX8_restore 30 = .ok (.ldc_w 339, 3) := by decide +kernel
theorem dX8_restore_33 : decode cX8_restore 33 = .ok (.invokespecial 335, 3) := by decide +kernel
theorem dX8_restore_36 : decode cX8_restore 36 = .ok (.athrow, 1) := by decide +kernel
theorem dX8_restore_37 : decode cX8_restore 37 = .ok (.aload_n 0, 1) := by decide +kernel
theorem dX8_restore_38 : decode cX8_restore 38 = .ok (.getfield 33, 3) := by decide +kernel
theorem dX8_restore_41 : decode cX8_restore 41 = .ok (.iload_n 1, 1) := by decide +kernel
theorem dX8_restore_42 : decode cX8_restore 42 = .ok (.ifCond .ne 10, 3) := by decide +kernel
theorem dX8_restore_45 : decode cX8_restore 45 = .ok (.aload_n 0, 1) := by decide +kernel
theorem dX8_restore_46 : decode cX8_restore 46 = .ok (.getfield 47, 3) := by decide +kernel
theorem dX8_restore_49 : decode cX8_restore 49 = .ok (.goto 7, 3) := by decide +kernel
theorem dX8_restore_52 : decode cX8_restore 52 = .ok (.aload_n 0, 1) := by decide +kernel
theorem dX8_restore_53 : decode cX8_restore 53 = .ok (.getfield 50, 3) := by decide +kernel
theorem dX8_restore_56 : decode cX8_restore 56 = .ok (.invokevirtual 285, 3) := by decide +kernel
theorem dX8_restore_59 : decode cX8_restore 59 = .ok (.aload_n 0, 1) := by decide +kernel
theorem dX8_restore_60 : decode cX8_restore 60 = .ok (.getfield 43, 3) := by decide +kernel
theorem dX8_restore_63 : decode cX8_restore 63 = .ok (.iconst 0, 1) := by decide +kernel
theorem dX8_restore_64 : decode cX8_restore 64 = .ok (.putfield 330, 3) := by decide +kernel
theorem dX8_restore_67 : decode cX8_restore 67 = .ok (.aload_n 0, 1) := by decide +kernel
theorem dX8_restore_68 : decode cX8_restore 68 = .ok (.getfield 33, 3) := by decide +kernel
theorem dX8_restore_71 : decode cX8_restore 71 = .ok (.getfield 110, 3) := by decide +kernel
theorem dX8_restore_74 : decode cX8_restore 74 = .ok (.ireturn, 1) := by decide +kernel
theorem dX8_useWhatWasParsed_0 : decode cX8_useWhatWasParsed 0 = .ok (.aload_n 0, 1) := by decide +kernel
theorem dX8_useWhatWasParsed_1 : decode cX8_useWhatWasParsed 1 = .ok (.getfield 23, 3) := by decide +kernel
theorem dX8_useWhatWasParsed_4 : decode cX8_useWhatWasParsed 4 = .ok (.astore_n 1, 1) := by decide +kernel
theorem dX8_useWhatWasParsed_5 : decode cX8_useWhatWasParsed 5 = .ok (.aload_n 0, 1) := by decide +kernel
theorem dX8_useWhatWasParsed_6 : decode cX8_useWhatWasParsed 6 = .ok (.aload_n 0, 1) := by decide +kernel
theorem dX8_useWhatWasParsed_7 : decode cX8_useWhatWasParsed 7 = .ok (.getfield 27, 3) := by decide +kernel
theorem dX8_useWhatWasParsed_10 : decode cX8_useWhatWasParsed 10 = .ok (.putfield 23, 3) := by decide +kernel
theorem dX8_useWhatWasParsed_13 : decode cX8_useWhatWasParsed 13 = .ok (.aload_n 0, 1) := by decide +kernel
theorem dX8_useWhatWasParsed_14 : decode cX8_useWhatWasParsed 14 = .ok (.aload_n 1, 1) := by decide +kernel
theorem dX8_useWhatWasParsed_15 : decode cX8_useWhatWasParsed 15 = .ok (.putfield 27, 3) := by decide +kernel
theorem dX8_useWhatWasParsed_18 : decode cX8_useWhatWasParsed 18 = .ok (.aload_n 0, 1) := by decide +kernel
theorem dX8_useWhatWasParsed_19 : decode cX8_useWhatWasParsed 19 = .ok (.getfield 33, 3) := by decide +kernel
theorem dX8_useWhatWasParsed_22 : decode cX8_useWhatWasParsed 22 = .ok (.astore_n 2, 1) := by decide +kernel
theorem dX8_useWhatWasParsed_23 : decode cX8_useWhatWasParsed 23 = .ok (.aload_n 0, 1) := by decide +kernel
theorem dX8_useWhatWasParsed_24 : decode cX8_useWhatWasParsed 24 = .ok (.aload_n 0, 1) := by decide +kernel
theorem dX8_useWhatWasParsed_25 : decode cX8_useWhatWasParsed 25 = .ok (.getfield 37, 3) := by decide +kernel
theorem dX8_useWhatWasParsed_28 : decode cX8_useWhatWasParsed 28 = .ok (.putfield 33, 3) := by decide +kernel
theorem dX8_useWhatWasParsed_31 : decode cX8_useWhatWasParsed 31 = .ok (.aload_n 0, 1) := by decide +kernel
theorem dX8_useWhatWasParsed_32 : decode cX8_useWhatWasParsed 32 = .ok (.aload_n 2, 1) := by decide +kernel
theorem dX8_useWhatWasParsed_33 : decode cX8_useWhatWasParsed 33 = .ok (.putfield 37, 3) := by decide +kernel
theorem dX8_useWhatWasParsed_36 : decode cX8_useWhatWasParsed 36 = .ok (.aload_n 0, 1) := by decide +kernel
theorem dX8_useWhatWasParsed_37 : decode cX8_useWhatWasParsed 37 = .ok (.getfield 43, 3) := by decide +kernel
theorem dX8_useWhatWasParsed_40 : decode cX8_useWhatWasParsed 40 = .ok (.iconst 0, 1) := by decide +kernel
theorem dX8_useWhatWasParsed_41 : decode cX8_useWhatWasParsed 41 = .ok (.putfield 330, 3) := by decide +kernel
theorem dX8_useWhatWasParsed_44 : decode cX8_useWhatWasParsed 44 = .ok (.aload_n 0, 1) := by decide +kernel
theorem dX8_useWhatWasParsed_45 : decode cX8_useWhatWasParsed 45 = .ok (.iconst 0, 1) := by decide +kernel
theorem dX8_useWhatWasParsed_46 : decode cX8_useWhatWasParsed 46 = .ok (.putfield 53, 3) := by decide +kernel
theorem dX8_useWhatWasParsed_49 : decode cX8_useWhatWasParsed 49 = .ok (.aload_n 0, 1) := by decide +kernel
theorem dX8_useWhatWasParsed_50 : decode cX8_useWhatWasParsed 50 = .ok (.iconst 0, 1) := by decide +kernel
theorem dX8_useWhatWasParsed_51 : decode cX8_useWhatWasParsed 51 = .ok (.putfield 56, 3) := by decide +kernel
theorem dX8_useWhatWasParsed_54 : decode cX8_useWhatWasParsed 54 = .ok (.aload_n 0, 1) := by decide +kernel
theorem dX8_useWhatWasParsed_55 : decode cX8_useWhatWasParsed 55 = .ok (.iconst 1, 1) := by decide +kernel
theorem dX8_useWhatWasParsed_56 : decode cX8_useWhatWasParsed 56 = .ok (.putfield 16, 3) := by decide +kernel
theorem dX8_useWhatWasParsed_59 : decode cX8_useWhatWasParsed 59 = .ok (.return_, 1) := by decide +kernel
theorem dX8_needAirport_0 : decode cX8_needAirport 0 = .ok (.aload_n 0, 1) := by decide +kernel
theorem dX8_needAirport_1 : decode cX8_needAirport 1 = .ok (.getfield 16, 3) := by decide +kernel
theorem dX8_needAirport_4 : decode cX8_needAirport 4 = .ok (.ifCond .ne 14, 3) := by decide +kernel
theorem dX8_needAirport_7 : decode cX8_needAirport 7 = .ok (.new 331, 3) := by decide +kernel
theorem dX8_needAirport_10 : decode cX8_needAirport 10 = .ok (.dup, 1) := by decide +kernel
theorem dX8_needAirport_11 : decode cX8_needAirport 11 = .ok (.ldc_w 341, 3) := by decide +kernel
theorem dX8_needAirport_14 : decode cX8_needAirport 14 = .ok (.invokespecial 335, 3) := by decide +kernel
theorem dX8_needAirport_17 : decode cX8_needAirport 17 = .ok (.athrow, 1) := by decide +kernel
theorem dX8_needAirport_18 : decode cX8_needAirport 18 = .ok (.return_, 1) := by decide +kernel
theorem dX8_needBag_0 : decode cX8_needBag 0 = .ok (.aload_n 0, 1) := by decide +kernel
theorem dX8_needBag_1 : decode cX8_needBag 1 = .ok (.invokevirtual 168, 3) := by decide +kernel
theorem dX8_needBag_4 : decode cX8_needBag 4 = .ok (.iload_n 1, 1) := by decide +kernel
theorem dX8_needBag_5 : decode cX8_needBag 5 = .ok (.aload_n 0, 1) := by decide +kernel
theorem dX8_needBag_6 : decode cX8_needBag 6 = .ok (.getfield 33, 3) := by decide +kernel
theorem dX8_needBag_9 : decode cX8_needBag 9 = .ok (.getfield 95, 3) := by decide +kernel
theorem dX8_needBag_12 : decode cX8_needBag 12 = .ok (.getfield 99, 3) := by decide +kernel
theorem dX8_needBag_15 : decode cX8_needBag 15 = .ok (.invokestatic 171, 3) := by decide +kernel
theorem dX8_needBag_18 : decode cX8_needBag 18 = .ok (.return_, 1) := by decide +kernel
theorem dX8_needFlight_0 : decode cX8_needFlight 0 = .ok (.aload_n 0, 1) := by decide +kernel
theorem dX8_needFlight_1 : decode cX8_needFlight 1 = .ok (.invokevirtual 168, 3) := by decide +kernel
theorem dX8_needFlight_4 : decode cX8_needFlight 4 = .ok (.iload_n 1, 1) := by decide +kernel
theorem dX8_needFlight_5 : decode cX8_needFlight 5 = .ok (.aload_n 0, 1) := by decide +kernel
theorem dX8_needFlight_6 : decode cX8_needFlight 6 = .ok (.getfield 23, 3) := by decide +kernel
theorem dX8_needFlight_9 : decode cX8_needFlight 9 = .ok (.getfield 226, 3) := by decide +kernel
theorem dX8_needFlight_12 : decode cX8_needFlight 12 = .ok (.invokestatic 171, 3) := by decide +kernel
theorem dX8_needFlight_15 : decode cX8_needFlight 15 = .ok (.return_, 1) := by decide +kernel
theorem dX8_needLane_0 : decode cX8_needLane 0 = .ok (.aload_n 0, 1) := by decide +kernel
theorem dX8_needLane_1 : decode cX8_needLane 1 = .ok (.invokevirtual 168, 3) := by decide +kernel
theorem dX8_needLane_4 : decode cX8_needLane 4 = .ok (.iload_n 1, 1) := by decide +kernel
theorem dX8_needLane_5 : decode cX8_needLane 5 = .ok (.aload_n 0, 1) := by decide +kernel
theorem dX8_needLane_6 : decode cX8_needLane 6 = .ok (.getfield 23, 3) := by decide +kernel
theorem dX8_needLane_9 : decode cX8_needLane 9 = .ok (.getfield 207, 3) := by decide +kernel
theorem dX8_needLane_12 : decode cX8_needLane 12 = .ok (.invokestatic 171, 3) := by decide +kernel
theorem dX8_needLane_15 : decode cX8_needLane 15 = .ok (.return_, 1) := by decide +kernel
theorem dX8_needMachine_0 : decode cX8_needMachine 0 = .ok (.aload_n 0, 1) := by decide +kernel
theorem dX8_needMachine_1 : decode cX8_needMachine 1 = .ok (.invokevirtual 168, 3) := by decide +kernel
theorem dX8_needMachine_4 : decode cX8_needMachine 4 = .ok (.iload_n 1, 1) := by decide +kernel
theorem dX8_needMachine_5 : decode cX8_needMachine 5 = .ok (.iconst 1, 1) := by decide +kernel
theorem dX8_needMachine_6 : decode cX8_needMachine 6 = .ok (.isub, 1) := by decide +kernel
theorem dX8_needMachine_7 : decode cX8_needMachine 7 = .ok (.iconst 3, 1) := by decide +kernel
theorem dX8_needMachine_8 : decode cX8_needMachine 8 = .ok (.invokestatic 171, 3) := by decide +kernel
theorem dX8_needMachine_11 : decode cX8_needMachine 11 = .ok (.iload_n 2, 1) := by decide +kernel
theorem dX8_needMachine_12 : decode cX8_needMachine 12 = .ok (.aload_n 0, 1) := by decide +kernel
theorem dX8_needMachine_13 : decode cX8_needMachine 13 = .ok (.getfield 23, 3) := by decide +kernel
theorem dX8_needMachine_16 : decode cX8_needMachine 16 = .ok (.getfield 343, 3) := by decide +kernel
theorem dX8_needMachine_19 : decode cX8_needMachine 19 = .ok (.iload_n 1, 1) := by decide +kernel
theorem dX8_needMachine_20 : decode cX8_needMachine 20 = .ok (.iconst 1, 1) := by decide +kernel
theorem dX8_needMachine_21 : decode cX8_needMachine 21 = .ok (.isub, 1) := by decide +kernel
theorem dX8_needMachine_22 : decode cX8_needMachine 22 = .ok (.invokestatic 120, 3) := by decide +kernel
theorem dX8_needMachine_25 : decode cX8_needMachine 25 = .ok (.invokestatic 171, 3) := by decide +kernel
theorem dX8_needMachine_28 : decode cX8_needMachine 28 = .ok (.return_, 1) := by decide +kernel
theorem dX8_needTicks_0 : decode cX8_needTicks 0 = .ok (.iload_n 1, 1) := by decide +kernel
theorem dX8_needTicks_1 : decode cX8_needTicks 1 = .ok (.iconst 1, 1) := by decide +kernel
theorem dX8_needTicks_2 : decode cX8_needTicks 2 = .ok (.iload_n 2, 1) := by decide +kernel
theorem dX8_needTicks_3 : decode cX8_needTicks 3 = .ok (.invokestatic 181, 3) := by decide +kernel
theorem dX8_needTicks_6 : decode cX8_needTicks 6 = .ok (.aload_n 0, 1) := by decide +kernel
theorem dX8_needTicks_7 : decode cX8_needTicks 7 = .ok (.getfield 33, 3) := by decide +kernel
theorem dX8_needTicks_10 : decode cX8_needTicks 10 = .ok (.getfield 110, 3) := by decide +kernel
theorem dX8_needTicks_13 : decode cX8_needTicks 13 = .ok (.iload_n 1, 1) := by decide +kernel
theorem dX8_needTicks_14 : decode cX8_needTicks 14 = .ok (.iadd, 1) := by decide +kernel
theorem dX8_needTicks_15 : decode cX8_needTicks 15 = .ok (.sipush 9999, 3) := by decide +kernel
theorem dX8_needTicks_18 : decode cX8_needTicks 18 = .ok (.if_icmp .le 14, 3) := by decide +kernel
theorem dX8_needTicks_21 : decode cX8_needTicks 21 = .ok (.new 320, 3) := by decide +kernel
theorem dX8_needTicks_24 : decode cX8_needTicks 24 = .ok (.dup, 1) := by decide +kernel
theorem dX8_needTicks_25 : decode cX8_needTicks 25 = .ok (.ldc_w 346, 3) := by decide +kernel
theorem dX8_needTicks_28 : decode cX8_needTicks 28 = .ok (.invokespecial 324, 3) := by decide +kernel
theorem dX8_needTicks_31 : decode cX8_needTicks 31 = .ok (.athrow, 1) := by decide +kernel
theorem dX8_needTicks_32 : decode cX8_needTicks 32 = .ok (.return_, 1) := by decide +kernel
theorem dX8_needNotClosed_0 : decode cX8_needNotClosed 0 = .ok (.aload_n 0, 1) := by decide +kernel
theorem dX8_needNotClosed_1 : decode cX8_needNotClosed 1 = .ok (.getfield 33, 3) := by decide +kernel
theorem dX8_needNotClosed_4 : decode cX8_needNotClosed 4 = .ok (.iload_n 1, 1) := by decide +kernel
theorem dX8_needNotClosed_5 : decode cX8_needNotClosed 5 = .ok (.invokevirtual 232, 3) := by decide +kernel
theorem dX8_needNotClosed_8 : decode cX8_needNotClosed 8 = .ok (.iconst 2, 1) := by decide +kernel
theorem dX8_needNotClosed_9 : decode cX8_needNotClosed 9 = .ok (.if_icmp .ne 14, 3) := by decide +kernel
theorem dX8_needNotClosed_12 : decode cX8_needNotClosed 12 = .ok (.new 320, 3) := by decide +kernel
theorem dX8_needNotClosed_15 : decode cX8_needNotClosed 15 = .ok (.dup, 1) := by decide +kernel
theorem dX8_needNotClosed_16 : decode cX8_needNotClosed 16 = .ok (.ldc_w 348, 3) := by decide +kernel
theorem dX8_needNotClosed_19 : decode cX8_needNotClosed 19 = .ok (.invokespecial 324, 3) := by decide +kernel
theorem dX8_needNotClosed_22 : decode cX8_needNotClosed 22 = .ok (.athrow, 1) := by decide +kernel
theorem dX8_needNotClosed_23 : decode cX8_needNotClosed 23 = .ok (.return_, 1) := by decide +kernel
theorem dX8_needIndex_0 : decode cX8_needIndex 0 = .ok (.iload_n 0, 1) := by decide +kernel
theorem dX8_needIndex_1 : decode cX8_needIndex 1 = .ok (.ifCond .lt 8, 3) := by decide +kernel
theorem dX8_needIndex_4 : decode cX8_needIndex 4 = .ok (.iload_n 0, 1) := by decide +kernel
theorem dX8_needIndex_5 : decode cX8_needIndex 5 = .ok (.iload_n 1, 1) := by decide +kernel
theorem dX8_needIndex_6 : decode cX8_needIndex 6 = .ok (.if_icmp .lt 14, 3) := by decide +kernel
theorem dX8_needIndex_9 : decode cX8_needIndex 9 = .ok (.new 81, 3) := by decide +kernel
theorem dX8_needIndex_12 : decode cX8_needIndex 12 = .ok (.dup, 1) := by decide +kernel
theorem dX8_needIndex_13 : decode cX8_needIndex 13 = .ok (.ldc_w 350, 3) := by decide +kernel
theorem dX8_needIndex_16 : decode cX8_needIndex 16 = .ok (.invokespecial 85, 3) := by decide +kernel
theorem dX8_needIndex_19 : decode cX8_needIndex 19 = .ok (.athrow, 1) := by decide +kernel
theorem dX8_needIndex_20 : decode cX8_needIndex 20 = .ok (.return_, 1) := by decide +kernel
theorem dX8_needRange_0 : decode cX8_needRange 0 = .ok (.iload_n 0, 1) := by decide +kernel
theorem dX8_needRange_1 : decode cX8_needRange 1 = .ok (.iload_n 1, 1) := by decide +kernel
theorem dX8_needRange_2 : decode cX8_needRange 2 = .ok (.if_icmp .lt 8, 3) := by decide +kernel
theorem dX8_needRange_5 : decode cX8_needRange 5 = .ok (.iload_n 0, 1) := by decide +kernel
theorem dX8_needRange_6 : decode cX8_needRange 6 = .ok (.iload_n 2, 1) := by decide +kernel
theorem dX8_needRange_7 : decode cX8_needRange 7 = .ok (.if_icmp .le 14, 3) := by decide +kernel
theorem dX8_needRange_10 : decode cX8_needRange 10 = .ok (.new 320, 3) := by decide +kernel
theorem dX8_needRange_13 : decode cX8_needRange 13 = .ok (.dup, 1) := by decide +kernel
theorem dX8_needRange_14 : decode cX8_needRange 14 = .ok (.ldc_w 352, 3) := by decide +kernel
theorem dX8_needRange_17 : decode cX8_needRange 17 = .ok (.invokespecial 324, 3) := by decide +kernel
theorem dX8_needRange_20 : decode cX8_needRange 20 = .ok (.athrow, 1) := by decide +kernel
theorem dX8_needRange_21 : decode cX8_needRange 21 = .ok (.return_, 1) := by decide +kernel
theorem dX8_loadedOf_0 : decode cX8_loadedOf 0 = .ok (.aload_n 0, 1) := by decide +kernel
theorem dX8_loadedOf_1 : decode cX8_loadedOf 1 = .ok (.getfield 33, 3) := by decide +kernel
theorem dX8_loadedOf_4 : decode cX8_loadedOf 4 = .ok (.getfield 95, 3) := by decide +kernel
theorem dX8_loadedOf_7 : decode cX8_loadedOf 7 = .ok (.iload_n 1, 1) := by decide +kernel
theorem dX8_loadedOf_8 : decode cX8_loadedOf 8 = .ok (.bipush 10, 2) := by decide +kernel
theorem dX8_loadedOf_10 : decode cX8_loadedOf 10 = .ok (.bipush 10, 2) := by decide +kernel
theorem dX8_loadedOf_12 : decode cX8_loadedOf 12 = .ok (.invokevirtual 238, 3) := by decide +kernel
theorem dX8_loadedOf_15 : decode cX8_loadedOf 15 = .ok (.ireturn, 1) := by decide +kernel
theorem dX8_shortOf_0 : decode cX8_shortOf 0 = .ok (.aload_n 0, 1) := by decide +kernel
theorem dX8_shortOf_1 : decode cX8_shortOf 1 = .ok (.getfield 33, 3) := by decide +kernel
theorem dX8_shortOf_4 : decode cX8_shortOf 4 = .ok (.getfield 95, 3) := by decide +kernel
theorem dX8_shortOf_7 : decode cX8_shortOf 7 = .ok (.iload_n 1, 1) := by decide +kernel
theorem dX8_shortOf_8 : decode cX8_shortOf 8 = .ok (.bipush 11, 2) := by decide +kernel
theorem dX8_shortOf_10 : decode cX8_shortOf 10 = .ok (.bipush 11, 2) := by decide +kernel
theorem dX8_shortOf_12 : decode cX8_shortOf 12 = .ok (.invokevirtual 238, 3) := by decide +kernel
theorem dX8_shortOf_15 : decode cX8_shortOf 15 = .ok (.ireturn, 1) := by decide +kernel
theorem dX8_missingOf_0 : decode cX8_missingOf 0 = .ok (.aload_n 0, 1) := by decide +kernel
theorem dX8_missingOf_1 : decode cX8_missingOf 1 = .ok (.getfield 33, 3) := by decide +kernel
theorem dX8_missingOf_4 : decode cX8_missingOf 4 = .ok (.getfield 95, 3) := by decide +kernel
theorem dX8_missingOf_7 : decode cX8_missingOf 7 = .ok (.iload_n 1, 1) := by decide +kernel
theorem dX8_missingOf_8 : decode cX8_missingOf 8 = .ok (.iconst 0, 1) := by decide +kernel
theorem dX8_missingOf_9 : decode cX8_missingOf 9 = .ok (.bipush 9, 2) := by decide +kernel
theorem dX8_missingOf_11 : decode cX8_missingOf 11 = .ok (.invokevirtual 238, 3) := by decide +kernel
theorem dX8_missingOf_14 : decode cX8_missingOf 14 = .ok (.ireturn, 1) := by decide +kernel
theorem dX8_worseFlights_0 : decode cX8_worseFlights 0 = .ok (.iconst 0, 1) := by decide +kernel
theorem dX8_worseFlights_1 : decode cX8_worseFlights 1 = .ok (.istore_n 2, 1) := by decide +kernel
theorem dX8_worseFlights_2 : decode cX8_worseFlights 2 = .ok (.iconst 0, 1) := by decide +kernel
theorem dX8_worseFlights_3 : decode cX8_worseFlights 3 = .ok (.istore_n 3, 1) := by decide +kernel
theorem dX8_worseFlights_4 : decode cX8_worseFlights 4 = .ok (.iload_n 3, 1) := by decide +kernel
theorem dX8_worseFlights_5 : decode cX8_worseFlights 5 = .ok (.aload_n 0, 1) := by decide +kernel
theorem dX8_worseFlights_6 : decode cX8_worseFlights 6 = .ok (.getfield 23, 3) := by decide +kernel
theorem dX8_worseFlights_9 : decode cX8_worseFlights 9 = .ok (.getfield 226, 3) := by decide +kernel
theorem dX8_worseFlights_12 : decode cX8_worseFlights 12 = .ok (.if_icmp .ge 58, 3) := by decide +kernel
theorem dX8_worseFlights_15 : decode cX8_worseFlights 15 = .ok (.aload_n 0, 1) := by decide +kernel
theorem dX8_worseFlights_16 : decode cX8_worseFlights 16 = .ok (.iload_n 3, 1) := by decide +kernel
theorem dX8_worseFlights_17 : decode cX8_worseFlights 17 = .ok (.invokevirtual 270, 3) := by decide +kernel
theorem dX8_worseFlights_20 : decode cX8_worseFlights 20 = .ok (.aload_n 0, 1) := by decide +kernel
theorem dX8_worseFlights_21 : decode cX8_worseFlights 21 = .ok (.iload_n 1, 1) := by decide +kernel
theorem dX8_worseFlights_22 : decode cX8_worseFlights 22 = .ok (.invokevirtual 270, 3) := by decide +kernel
theorem dX8_worseFlights_25 : decode cX8_worseFlights 25 = .ok (.isub, 1) := by decide +kernel
theorem dX8_worseFlights_26 : decode cX8_worseFlights 26 = .ok (.istore 4, 2) := by decide +kernel
theorem dX8_worseFlights_28 : decode cX8_worseFlights 28 = .ok (.iload 4, 2) := by decide +kernel
theorem dX8_worseFlights_30 : decode cX8_worseFlights 30 = .ok (.ifCond .ne 16, 3) := by decide +kernel
theorem dX8_worseFlights_33 : decode cX8_worseFlights 33 = .ok (.aload_n 0, 1) := by decide +kernel
theorem dX8_worseFlights_34 : decode cX8_worseFlights 34 = .ok (.iload_n 3, 1) := by decide +kernel
theorem dX8_worseFlights_35 : decode cX8_worseFlights 35 = .ok (.invokevirtual 242, 3) := by decide +kernel
theorem dX8_worseFlights_38 : decode cX8_worseFlights 38 = .ok (.aload_n 0, 1) := by decide +kernel
theorem dX8_worseFlights_39 : decode cX8_worseFlights 39 = .ok (.iload_n 1, 1) := by decide +kernel
theorem dX8_worseFlights_40 : decode cX8_worseFlights 40 = .ok (.invokevirtual 242, 3) := by decide +kernel
theorem dX8_worseFlights_43 : decode cX8_worseFlights 43 = .ok (.isub, 1) := by decide +kernel
theorem dX8_worseFlights_44 : decode cX8_worseFlights 44 = .ok (.istore 4, 2) := by decide +kernel
theorem dX8_worseFlights_46 : decode cX8_worseFlights 46 = .ok (.iload 4, 2) := by decide +kernel
theorem dX8_worseFlights_48 : decode cX8_worseFlights 48 = .ok (.ifCond .gt 13, 3) := by decide +kernel
theorem dX8_worseFlights_51 : decode cX8_worseFlights 51 = .ok (.iload 4, 2) := by decide +kernel
theorem dX8_worseFlights_53 : decode cX8_worseFlights 53 = .ok (.ifCond .ne 11, 3) := by decide +kernel
theorem dX8_worseFlights_56 : decode cX8_worseFlights 56 = .ok (.iload_n 3, 1) := by decide +kernel
theorem dX8_worseFlights_57 : decode cX8_worseFlights 57 = .ok (.iload_n 1, 1) := by decide +kernel
theorem dX8_worseFlights_58 : decode cX8_worseFlights 58 = .ok (.if_icmp .ge 6, 3) := by decide +kernel
theorem dX8_worseFlights_61 : decode cX8_worseFlights 61 = .ok (.iinc 2 1, 3) := by decide +kernel
theorem dX8_worseFlights_64 : decode cX8_worseFlights 64 = .ok (.iinc 3 1, 3) := by decide +kernel
theorem dX8_worseFlights_67 : decode cX8_worseFlights 67 = .ok (.goto (-63), 3) := by decide +kernel
theorem dX8_worseFlights_70 : decode cX8_worseFlights 70 = .ok (.iload_n 2, 1) := by decide +kernel
theorem dX8_worseFlights_71 : decode cX8_worseFlights 71 = .ok (.ireturn, 1) := by decide +kernel
theorem dX8_flightByClose_0 : decode cX8_flightByClose 0 = .ok (.iconst 0, 1) := by decide +kernel
theorem dX8_flightByClose_1 : decode cX8_flightByClose 1 = .ok (.istore_n 2, 1) := by decide +kernel
theorem dX8_flightByClose_2 : decode cX8_flightByClose 2 = .ok (.iload_n 2, 1) := by decide +kernel
theorem dX8_flightByClose_3 : decode cX8_flightByClose 3 = .ok (.aload_n 0, 1) := by decide +kernel
theorem dX8_flightByClose_4 : decode cX8_flightByClose 4 = .ok (.getfield 23, 3) := by decide +kernel
theorem dX8_flightByClose_7 : decode cX8_flightByClose 7 = .ok (.getfield 226, 3) := by decide +kernel
theorem dX8_flightByClose_10 : decode cX8_flightByClose 10 = .ok (.if_icmp .ge 84, 3) := by decide +kernel
theorem dX8_flightByClose_13 : decode cX8_flightByClose 13 = .ok (.iconst 0, 1) := by decide +kernel
theorem dX8_flightByClose_14 : decode cX8_flightByClose 14 = .ok (.istore_n 3, 1) := by decide +kernel
theorem dX8_flightByClose_15 : decode cX8_flightByClose 15 = .ok (.iconst 0, 1) := by decide +kernel
theorem dX8_flightByClose_16 : decode cX8_flightByClose 16 = .ok (.istore 4, 2) := by decide +kernel
theorem dX8_flightByClose_18 : decode cX8_flightByClose 18 = .ok (.iload 4, 2) := by decide +kernel
theorem dX8_flightByClose_20 : decode cX8_flightByClose 20 = .ok (.aload_n 0, 1) := by decide +kernel
theorem dX8_flightByClose_21 : decode cX8_flightByClose 21 = .ok (.getfield 23, 3) := by decide +kernel
theorem dX8_flightByClose_24 : decode cX8_flightByClose 24 = .ok (.getfield 226, 3) := by decide +kernel
theorem dX8_flightByClose_27 : decode cX8_flightByClose 27 = .ok (.if_icmp .ge 54, 3) := by decide +kernel
theorem dX8_flightByClose_30 : decode cX8_flightByClose 30 = .ok (.aload_n 0, 1) := by decide +kernel
theorem dX8_flightByClose_31 : decode cX8_flightByClose 31 = .ok (.getfield 33, 3) := by decide +kernel
theorem dX8_flightByClose_34 : decode cX8_flightByClose 34 = .ok (.getfield 156, 3) := by decide +kernel
theorem dX8_flightByClose_37 : decode cX8_flightByClose 37 = .ok (.iload 4, 2) := by decide +kernel
theorem dX8_flightByClose_39 : decode cX8_flightByClose 39 = .ok (.invokestatic 120, 3) := by decide +kernel
theorem dX8_flightByClose_42 : decode cX8_flightByClose 42 = .ok (.aload_n 0, 1) := by decide +kernel
theorem dX8_flightByClose_43 : decode cX8_flightByClose 43 = .ok (.getfield 33, 3) := by decide +kernel
theorem dX8_flightByClose_46 : decode cX8_flightByClose 46 = .ok (.getfield 156, 3) := by decide +kernel
theorem dX8_flightByClose_49 : decode cX8_flightByClose 49 = .ok (.iload_n 2, 1) := by decide +kernel
theorem dX8_flightByClose_50 : decode cX8_flightByClose 50 = .ok (.invokestatic 120, 3) := by decide +kernel
theorem dX8_flightByClose_53 : decode cX8_flightByClose 53 = .ok (.isub, 1) := by decide +kernel
theorem dX8_flightByClose_54 : decode cX8_flightByClose 54 = .ok (.istore 5, 2) := by decide +kernel
theorem dX8_flightByClose_56 : decode cX8_flightByClose 56 = .ok (.iload 5, 2) := by decide +kernel
theorem dX8_flightByClose_58 : decode cX8_flightByClose 58 = .ok (.ifCond .lt 14, 3) := by decide +kernel
theorem dX8_flightByClose_61 : decode cX8_flightByClose 61 = .ok (.iload 5, 2) := by decide +kernel
theorem dX8_flightByClose_63 : decode cX8_flightByClose 63 = .ok (.ifCond .ne 12, 3) := by decide +kernel
theorem dX8_flightByClose_66 : decode cX8_flightByClose 66 = .ok (.iload 4, 2) := by decide +kernel
theorem dX8_flightByClose_68 : decode cX8_flightByClose 68 = .ok (.iload_n 2, 1) := by decide +kernel
theorem dX8_flightByClose_69 : decode cX8_flightByClose 69 = .ok (.if_icmp .ge 6, 3) := by decide +kernel
theorem dX8_flightByClose_72 : decode cX8_flightByClose 72 = .ok (.iinc 3 1, 3) := by decide +kernel
theorem dX8_flightByClose_75 : decode cX8_flightByClose 75 = .ok (.iinc 4 1, 3) := by decide +kernel
theorem dX8_flightByClose_78 : decode cX8_flightByClose 78 = .ok (.goto (-60), 3) := by decide +kernel
theorem dX8_flightByClose_81 : decode cX8_flightByClose 81 = .ok (.iload_n 3, 1) := by decide +kernel
theorem dX8_flightByClose_82 : decode cX8_flightByClose 82 = .ok (.iload_n 1, 1) := by decide +kernel
theorem dX8_flightByClose_83 : decode cX8_flightByClose 83 = .ok (.if_icmp .ne 5, 3) := by decide +kernel
theorem dX8_flightByClose_86 : decode cX8_flightByClose 86 = .ok (.iload_n 2, 1) := by decide +kernel
theorem dX8_flightByClose_87 : decode cX8_flightByClose 87 = .ok (.ireturn, 1) := by decide +kernel
theorem dX8_flightByClose_88 : decode cX8_flightByClose 88 = .ok (.iinc 2 1, 3) := by decide +kernel
theorem dX8_flightByClose_91 : decode cX8_flightByClose 91 = .ok (.goto (-89), 3) := by decide +kernel
theorem dX8_flightByClose_94 : decode cX8_flightByClose 94 = .ok (.iconst (-1), 1) := by decide +kernel
theorem dX8_flightByClose_95 : decode cX8_flightByClose 95 = .ok (.ireturn, 1) := by decide +kernel
theorem dX8_writeTimes_0 : decode cX8_writeTimes 0 = .ok (.aload_n 0, 1) := by decide +kernel
theorem dX8_writeTimes_1 : decode cX8_writeTimes 1 = .ok (.getfield 71, 3) := by decide +kernel
theorem dX8_writeTimes_4 : decode cX8_writeTimes 4 = .ok (.bipush 65, 2) := by decide +kernel
theorem dX8_writeTimes_6 : decode cX8_writeTimes 6 = .ok (.iload_n 1, 1) := by decide +kernel
theorem dX8_writeTimes_7 : decode cX8_writeTimes 7 = .ok (.iadd, 1) := by decide +kernel
theorem dX8_writeTimes_8 : decode cX8_writeTimes 8 = .ok (.invokevirtual 267, 3) := by decide +kernel
theorem dX8_writeTimes_11 : decode cX8_writeTimes 11 = .ok (.aload_n 0, 1) := by decide +kernel
theorem dX8_writeTimes_12 : decode cX8_writeTimes 12 = .ok (.getfield 71, 3) := by decide +kernel
theorem dX8_writeTimes_15 : decode cX8_writeTimes 15 = .ok (.aload_n 0, 1) := by decide +kernel
theorem dX8_writeTimes_16 : decode cX8_writeTimes 16 = .ok (.getfield 33, 3) := by decide +kernel
theorem dX8_writeTimes_19 : decode cX8_writeTimes 19 = .ok (.getfield 235, 3) := by decide +kernel
theorem dX8_writeTimes_22 : decode cX8_writeTimes 22 = .ok (.iload_n 1, 1) := by decide +kernel
theorem dX8_writeTimes_23 : decode cX8_writeTimes 23 = .ok (.invokestatic 120, 3) := by decide +kernel
theorem dX8_writeTimes_26 : decode cX8_writeTimes 26 = .ok (.invokevirtual 264, 3) := by decide +kernel
theorem dX8_writeTimes_29 : decode cX8_writeTimes 29 = .ok (.aload_n 0, 1) := by decide +kernel
theorem dX8_writeTimes_30 : decode cX8_writeTimes 30 = .ok (.getfield 71, 3) := by decide +kernel
theorem dX8_writeTimes_33 : decode cX8_writeTimes 33 = .ok (.bipush 45, 2) := by decide +kernel
theorem dX8_writeTimes_35 : decode cX8_writeTimes 35 = .ok (.invokevirtual 267, 3) := by decide +kernel
theorem dX8_writeTimes_38 : decode cX8_writeTimes 38 = .ok (.aload_n 0, 1) := by decide +kernel
theorem dX8_writeTimes_39 : decode cX8_writeTimes 39 = .ok (.getfield 71, 3) := by decide +kernel
theorem dX8_writeTimes_42 : decode cX8_writeTimes 42 = .ok (.aload_n 0, 1) := by decide +kernel
theorem dX8_writeTimes_43 : decode cX8_writeTimes 43 = .ok (.getfield 33, 3) := by decide +kernel
theorem dX8_writeTimes_46 : decode cX8_writeTimes 46 = .ok (.getfield 156, 3) := by decide +kernel
theorem dX8_writeTimes_49 : decode cX8_writeTimes 49 = .ok (.iload_n 1, 1) := by decide +kernel
theorem dX8_writeTimes_50 : decode cX8_writeTimes 50 = .ok (.invokestatic 120, 3) := by decide +kernel
theorem dX8_writeTimes_53 : decode cX8_writeTimes 53 = .ok (.invokevirtual 264, 3) := by decide +kernel
theorem dX8_writeTimes_56 : decode cX8_writeTimes 56 = .ok (.iconst 0, 1) := by decide +kernel
theorem dX8_writeTimes_57 : decode cX8_writeTimes 57 = .ok (.istore_n 2, 1) := by decide +kernel
theorem dX8_writeTimes_58 : decode cX8_writeTimes 58 = .ok (.iload_n 2, 1) := by decide +kernel
theorem dX8_writeTimes_59 : decode cX8_writeTimes 59 = .ok (.aload_n 0, 1) := by decide +kernel
theorem dX8_writeTimes_60 : decode cX8_writeTimes 60 = .ok (.getfield 23, 3) := by decide +kernel
theorem dX8_writeTimes_63 : decode cX8_writeTimes 63 = .ok (.getfield 207, 3) := by decide +kernel
theorem dX8_writeTimes_66 : decode cX8_writeTimes 66 = .ok (.if_icmp .ge 57, 3) := by decide +kernel
theorem dX8_writeTimes_69 : decode cX8_writeTimes 69 = .ok (.aload_n 0, 1) := by decide +kernel
theorem dX8_writeTimes_70 : decode cX8_writeTimes 70 = .ok (.getfield 33, 3) := by decide +kernel
theorem dX8_writeTimes_73 : decode cX8_writeTimes 73 = .ok (.iload_n 2, 1) := by decide +kernel
theorem dX8_writeTimes_74 : decode cX8_writeTimes 74 = .ok (.iload_n 1, 1) := by decide +kernel
theorem dX8_writeTimes_75 : decode cX8_writeTimes 75 = .ok (.invokevirtual 354, 3) := by decide +kernel
theorem dX8_writeTimes_78 : decode cX8_writeTimes 78 = .ok (.istore_n 3, 1) := by decide +kernel
theorem dX8_writeTimes_79 : decode cX8_writeTimes 79 = .ok (.iload_n 3, 1) := by decide +kernel
theorem dX8_writeTimes_80 : decode cX8_writeTimes 80 = .ok (.ifCond .le 37, 3) := by decide +kernel
theorem dX8_writeTimes_83 : decode cX8_writeTimes 83 = .ok (.aload_n 0, 1) := by decide +kernel
theorem dX8_writeTimes_84 : decode cX8_writeTimes 84 = .ok (.getfield 71, 3) := by decide +kernel
theorem dX8_writeTimes_87 : decode cX8_writeTimes 87 = .ok (.bipush 44, 2) := by decide +kernel
theorem dX8_writeTimes_89 : decode cX8_writeTimes 89 = .ok (.invokevirtual 267, 3) := by decide +kernel
theorem dX8_writeTimes_92 : decode cX8_writeTimes 92 = .ok (.aload_n 0, 1) := by decide +kernel
theorem dX8_writeTimes_93 : decode cX8_writeTimes 93 = .ok (.getfield 71, 3) := by decide +kernel
theorem dX8_writeTimes_96 : decode cX8_writeTimes 96 = .ok (.iload_n 2, 1) := by decide +kernel
theorem dX8_writeTimes_97 : decode cX8_writeTimes 97 = .ok (.invokevirtual 264, 3) := by decide +kernel
theorem dX8_writeTimes_100 : decode cX8_writeTimes 100 = .ok (.aload_n 0, 1) := by decide +kernel
theorem dX8_writeTimes_101 : decode cX8_writeTimes 101 = .ok (.getfield 71, 3) := by decide +kernel
theorem dX8_writeTimes_104 : decode cX8_writeTimes 104 = .ok (.bipush 120, 2) := by decide +kernel
theorem dX8_writeTimes_106 : decode cX8_writeTimes 106 = .ok (.invokevirtual 267, 3) := by decide +kernel
theorem dX8_writeTimes_109 : decode cX8_writeTimes 109 = .ok (.aload_n 0, 1) := by decide +kernel
theorem dX8_writeTimes_110 : decode cX8_writeTimes 110 = .ok (.getfield 71, 3) := by decide +kernel
theorem dX8_writeTimes_113 : decode cX8_writeTimes 113 = .ok (.iload_n 3, 1) := by decide +kernel
theorem dX8_writeTimes_114 : decode cX8_writeTimes 114 = .ok (.invokevirtual 264, 3) := by decide +kernel
theorem dX8_writeTimes_117 : decode cX8_writeTimes 117 = .ok (.iinc 2 1, 3) := by decide +kernel
theorem dX8_writeTimes_120 : decode cX8_writeTimes 120 = .ok (.goto (-62), 3) := by decide +kernel
theorem dX8_writeTimes_123 : decode cX8_writeTimes 123 = .ok (.return_, 1) := by decide +kernel
theorem dX8_isFinished_0 : decode cX8_isFinished 0 = .ok (.iload_n 0, 1) := by decide +kernel
theorem dX8_isFinished_1 : decode cX8_isFinished 1 = .ok (.bipush 10, 2) := by decide +kernel
theorem dX8_isFinished_3 : decode cX8_isFinished 3 = .ok (.if_icmp .lt 7, 3) := by decide +kernel
theorem dX8_isFinished_6 : decode cX8_isFinished 6 = .ok (.iconst 1, 1) := by decide +kernel
theorem dX8_isFinished_7 : decode cX8_isFinished 7 = .ok (.goto 4, 3) := by decide +kernel
theorem dX8_isFinished_10 : decode cX8_isFinished 10 = .ok (.iconst 0, 1) := by decide +kernel
theorem dX8_isFinished_11 : decode cX8_isFinished 11 = .ok (.ireturn, 1) := by decide +kernel
theorem dX8_waitState_0 : decode cX8_waitState 0 = .ok (.iconst 2, 1) := by decide +kernel
theorem dX8_waitState_1 : decode cX8_waitState 1 = .ok (.iload_n 0, 1) := by decide +kernel
theorem dX8_waitState_2 : decode cX8_waitState 2 = .ok (.imul, 1) := by decide +kernel
theorem dX8_waitState_3 : decode cX8_waitState 3 = .ok (.iconst 1, 1) := by decide +kernel
theorem dX8_waitState_4 : decode cX8_waitState 4 = .ok (.isub, 1) := by decide +kernel
theorem dX8_waitState_5 : decode cX8_waitState 5 = .ok (.ireturn, 1) := by decide +kernel
theorem dX8_machineIndex_0 : decode cX8_machineIndex 0 = .ok (.iload_n 0, 1) := by decide +kernel
theorem dX8_machineIndex_1 : decode cX8_machineIndex 1 = .ok (.iconst 1, 1) := by decide +kernel
theorem dX8_machineIndex_2 : decode cX8_machineIndex 2 = .ok (.isub, 1) := by decide +kernel
theorem dX8_machineIndex_3 : decode cX8_machineIndex 3 = .ok (.iconst 4, 1) := by decide +kernel
theorem dX8_machineIndex_4 : decode cX8_machineIndex 4 = .ok (.imul, 1) := by decide +kernel
theorem dX8_machineIndex_5 : decode cX8_machineIndex 5 = .ok (.iload_n 1, 1) := by decide +kernel
theorem dX8_machineIndex_6 : decode cX8_machineIndex 6 = .ok (.iadd, 1) := by decide +kernel
theorem dX8_machineIndex_7 : decode cX8_machineIndex 7 = .ok (.ireturn, 1) := by decide +kernel
theorem dX8_at_0 : decode cX8_at 0 = .ok (.iload_n 1, 1) := by decide +kernel
theorem dX8_at_1 : decode cX8_at 1 = .ok (.ifCond .lt 15, 3) := by decide +kernel
theorem dX8_at_4 : decode cX8_at 4 = .ok (.iload_n 1, 1) := by decide +kernel
theorem dX8_at_5 : decode cX8_at 5 = .ok (.aload_n 0, 1) := by decide +kernel
theorem dX8_at_6 : decode cX8_at 6 = .ok (.arraylength, 1) := by decide +kernel
theorem dX8_at_7 : decode cX8_at 7 = .ok (.if_icmp .ge 9, 3) := by decide +kernel
theorem dX8_at_10 : decode cX8_at 10 = .ok (.aload_n 0, 1) := by decide +kernel
theorem dX8_at_11 : decode cX8_at 11 = .ok (.iload_n 1, 1) := by decide +kernel
theorem dX8_at_12 : decode cX8_at 12 = .ok (.iaload, 1) := by decide +kernel
theorem dX8_at_13 : decode cX8_at 13 = .ok (.goto 4, 3) := by decide +kernel
theorem dX8_at_16 : decode cX8_at 16 = .ok (.iconst (-1), 1) := by decide +kernel
theorem dX8_at_17 : decode cX8_at 17 = .ok (.ireturn, 1) := by decide +kernel
theorem dX8_put_0 : decode cX8_put 0 = .ok (.iload_n 1, 1) := by decide +kernel
theorem dX8_put_1 : decode cX8_put 1 = .ok (.ifCond .lt 13, 3) := by decide +kernel
theorem dX8_put_4 : decode cX8_put 4 = .ok (.iload_n 1, 1) := by decide +kernel
theorem dX8_put_5 : decode cX8_put 5 = .ok (.aload_n 0, 1) := by decide +kernel
theorem dX8_put_6 : decode cX8_put 6 = .ok (.arraylength, 1) := by decide +kernel
theorem dX8_put_7 : decode cX8_put 7 = .ok (.if_icmp .ge 7, 3) := by decide +kernel
theorem dX8_put_10 : decode cX8_put 10 = .ok (.aload_n 0, 1) := by decide +kernel
theorem dX8_put_11 : decode cX8_put 11 = .ok (.iload_n 1, 1) := by decide +kernel
theorem dX8_put_12 : decode cX8_put 12 = .ok (.iload_n 2, 1) := by decide +kernel
theorem dX8_put_13 : decode cX8_put 13 = .ok (.iastore, 1) := by decide +kernel
theorem dX8_put_14 : decode cX8_put 14 = .ok (.return_, 1) := by decide +kernel
theorem dX8_copy_0 : decode cX8_copy 0 = .ok (.aload_n 0, 1) := by decide +kernel
theorem dX8_copy_1 : decode cX8_copy 1 = .ok (.iconst 0, 1) := by decide +kernel
theorem dX8_copy_2 : decode cX8_copy 2 = .ok (.aload_n 1, 1) := by decide +kernel
theorem dX8_copy_3 : decode cX8_copy 3 = .ok (.iconst 0, 1) := by decide +kernel
theorem dX8_copy_4 : decode cX8_copy 4 = .ok (.aload_n 0, 1) := by decide +kernel
theorem dX8_copy_5 : decode cX8_copy 5 = .ok (.arraylength, 1) := by decide +kernel
theorem dX8_copy_6 : decode cX8_copy 6 = .ok (.aload_n 1, 1) := by decide +kernel
theorem dX8_copy_7 : decode cX8_copy 7 = .ok (.arraylength, 1) := by decide +kernel
theorem dX8_copy_8 : decode cX8_copy 8 = .ok (.invokestatic 357, 3) := by decide +kernel
theorem dX8_copy_11 : decode cX8_copy 11 = .ok (.invokestatic 362, 3) := by decide +kernel
theorem dX8_copy_14 : decode cX8_copy 14 = .ok (.return_, 1) := by decide +kernel
theorem dJ11_isValidCodePoint_9a6ad_0 : decode cJ11_isValidCodePoint_9a6ad 0 = .ok (.iload_n 0, 1) := by decide +kernel
theorem dJ11_isValidCodePoint_9a6ad_1 : decode cJ11_isValidCodePoint_9a6ad 1 = .ok (.bipush 16, 2) := by decide +kernel
theorem dJ11_isValidCodePoint_9a6ad_3 : decode cJ11_isValidCodePoint_9a6ad 3 = .ok (.iushr, 1) := by decide +kernel
theorem dJ11_isValidCodePoint_9a6ad_4 : decode cJ11_isValidCodePoint_9a6ad 4 = .ok (.istore_n 1, 1) := by decide +kernel
theorem dJ11_isValidCodePoint_9a6ad_5 : decode cJ11_isValidCodePoint_9a6ad 5 = .ok (.iload_n 1, 1) := by decide +kernel
theorem dJ11_isValidCodePoint_9a6ad_6 : decode cJ11_isValidCodePoint_9a6ad 6 = .ok (.bipush 17, 2) := by decide +kernel
theorem dJ11_isValidCodePoint_9a6ad_8 : decode cJ11_isValidCodePoint_9a6ad 8 = .ok (.if_icmp .ge 7, 3) := by decide +kernel
theorem dJ11_isValidCodePoint_9a6ad_11 : decode cJ11_isValidCodePoint_9a6ad 11 = .ok (.iconst 1, 1) := by decide +kernel
theorem dJ11_isValidCodePoint_9a6ad_12 : decode cJ11_isValidCodePoint_9a6ad 12 = .ok (.goto 4, 3) := by decide +kernel
theorem dJ11_isValidCodePoint_9a6ad_15 : decode cJ11_isValidCodePoint_9a6ad 15 = .ok (.iconst 0, 1) := by decide +kernel
theorem dJ11_isValidCodePoint_9a6ad_16 : decode cJ11_isValidCodePoint_9a6ad 16 = .ok (.ireturn, 1) := by decide +kernel
theorem dJ11_highSurrogate_5068e_0 : decode cJ11_highSurrogate_5068e 0 = .ok (.iload_n 0, 1) := by decide +kernel
theorem dJ11_highSurrogate_5068e_1 : decode cJ11_highSurrogate_5068e 1 = .ok (.bipush 10, 2) := by decide +kernel
theorem dJ11_highSurrogate_5068e_3 : decode cJ11_highSurrogate_5068e 3 = .ok (.iushr, 1) := by decide +kernel
theorem dJ11_highSurrogate_5068e_4 : decode cJ11_highSurrogate_5068e 4 = .ok (.ldc 110, 2) := by decide +kernel
theorem dJ11_highSurrogate_5068e_6 : decode cJ11_highSurrogate_5068e 6 = .ok (.iadd, 1) := by decide +kernel
theorem dJ11_highSurrogate_5068e_7 : decode cJ11_highSurrogate_5068e 7 = .ok (.i2c, 1) := by decide +kernel
theorem dJ11_highSurrogate_5068e_8 : decode cJ11_highSurrogate_5068e 8 = .ok (.ireturn, 1) := by decide +kernel
theorem dJ11_lowSurrogate_5068e_0 : decode cJ11_lowSurrogate_5068e 0 = .ok (.iload_n 0, 1) := by decide +kernel
theorem dJ11_lowSurrogate_5068e_1 : decode cJ11_lowSurrogate_5068e 1 = .ok (.sipush 1023, 3) := by decide +kernel
theorem dJ11_lowSurrogate_5068e_4 : decode cJ11_lowSurrogate_5068e 4 = .ok (.iand, 1) := by decide +kernel
theorem dJ11_lowSurrogate_5068e_5 : decode cJ11_lowSurrogate_5068e 5 = .ok (.ldc 76, 2) := by decide +kernel
theorem dJ11_lowSurrogate_5068e_7 : decode cJ11_lowSurrogate_5068e 7 = .ok (.iadd, 1) := by decide +kernel
theorem dJ11_lowSurrogate_5068e_8 : decode cJ11_lowSurrogate_5068e 8 = .ok (.i2c, 1) := by decide +kernel
theorem dJ11_lowSurrogate_5068e_9 : decode cJ11_lowSurrogate_5068e 9 = .ok (.ireturn, 1) := by decide +kernel
theorem dJ9_max_7cf53_0 : decode cJ9_max_7cf53 0 = .ok (.iload_n 0, 1) := by decide +kernel
theorem dJ9_max_7cf53_1 : decode cJ9_max_7cf53 1 = .ok (.iload_n 1, 1) := by decide +kernel
theorem dJ9_max_7cf53_2 : decode cJ9_max_7cf53 2 = .ok (.if_icmp .lt 7, 3) := by decide +kernel
theorem dJ9_max_7cf53_5 : decode cJ9_max_7cf53 5 = .ok (.iload_n 0, 1) := by decide +kernel
theorem dJ9_max_7cf53_6 : decode cJ9_max_7cf53 6 = .ok (.goto 4, 3) := by decide +kernel
theorem dJ9_max_7cf53_9 : decode cJ9_max_7cf53 9 = .ok (.iload_n 1, 1) := by decide +kernel
theorem dJ9_max_7cf53_10 : decode cJ9_max_7cf53 10 = .ok (.ireturn, 1) := by decide +kernel
theorem dJ9_min_7cf53_0 : decode cJ9_min_7cf53 0 = .ok (.iload_n 0, 1) := by decide +kernel
theorem dJ9_min_7cf53_1 : decode cJ9_min_7cf53 1 = .ok (.iload_n 1, 1) := by decide +kernel
theorem dJ9_min_7cf53_2 : decode cJ9_min_7cf53 2 = .ok (.if_icmp .gt 7, 3) := by decide +kernel
theorem dJ9_min_7cf53_5 : decode cJ9_min_7cf53 5 = .ok (.iload_n 0, 1) := by decide +kernel
theorem dJ9_min_7cf53_6 : decode cJ9_min_7cf53 6 = .ok (.goto 4, 3) := by decide +kernel
theorem dJ9_min_7cf53_9 : decode cJ9_min_7cf53 9 = .ok (.iload_n 1, 1) := by decide +kernel
theorem dJ9_min_7cf53_10 : decode cJ9_min_7cf53 10 = .ok (.ireturn, 1) := by decide +kernel
theorem dJ0_length_8abf5_0 : decode cJ0_length_8abf5 0 = .ok (.aload_n 0, 1) := by decide +kernel
theorem dJ0_length_8abf5_1 : decode cJ0_length_8abf5 1 = .ok (.getfield 9, 3) := by decide +kernel
theorem dJ0_length_8abf5_4 : decode cJ0_length_8abf5 4 = .ok (.arraylength, 1) := by decide +kernel
theorem dJ0_length_8abf5_5 : decode cJ0_length_8abf5 5 = .ok (.aload_n 0, 1) := by decide +kernel
theorem dJ0_length_8abf5_6 : decode cJ0_length_8abf5 6 = .ok (.invokevirtual 335, 3) := by decide +kernel
theorem dJ0_length_8abf5_9 : decode cJ0_length_8abf5 9 = .ok (.ishr, 1) := by decide +kernel
theorem dJ0_length_8abf5_10 : decode cJ0_length_8abf5 10 = .ok (.ireturn, 1) := by decide +kernel
theorem dJ0_charAt_5068e_0 : decode cJ0_charAt_5068e 0 = .ok (.aload_n 0, 1) := by decide +kernel
theorem dJ0_charAt_5068e_1 : decode cJ0_charAt_5068e 1 = .ok (.invokevirtual 492, 3) := by decide +kernel
theorem dJ0_charAt_5068e_4 : decode cJ0_charAt_5068e 4 = .ok (.ifCond .eq 12, 3) := by decide +kernel
theorem dJ0_charAt_5068e_7 : decode cJ0_charAt_5068e 7 = .ok (.aload_n 0, 1) := by decide +kernel
theorem dJ0_charAt_5068e_8 : decode cJ0_charAt_5068e 8 = .ok (.getfield 9, 3) := by decide +kernel
theorem dJ0_charAt_5068e_11 : decode cJ0_charAt_5068e 11 = .ok (.iload_n 1, 1) := by decide +kernel
theorem dJ0_charAt_5068e_12 : decode cJ0_charAt_5068e 12 = .ok (.invokestatic 495, 3) := by decide +kernel
theorem dJ0_charAt_5068e_15 : decode cJ0_charAt_5068e 15 = .ok (.ireturn, 1) := by decide +kernel
theorem dJ0_charAt_5068e_16 : decode cJ0_charAt_5068e 16 = .ok (.aload_n 0, 1) := by decide +kernel
theorem dJ0_charAt_5068e_17 : decode cJ0_charAt_5068e 17 = .ok (.getfield 9, 3) := by decide +kernel
theorem dJ0_charAt_5068e_20 : decode cJ0_charAt_5068e 20 = .ok (.iload_n 1, 1) := by decide +kernel
theorem dJ0_charAt_5068e_21 : decode cJ0_charAt_5068e 21 = .ok (.invokestatic 498, 3) := by decide +kernel
theorem dJ0_charAt_5068e_24 : decode cJ0_charAt_5068e 24 = .ok (.ireturn, 1) := by decide +kernel
theorem dJ0_indexOf_0f7a4_0 : decode cJ0_indexOf_0f7a4 0 = .ok (.aload_n 0, 1) := by decide +kernel
theorem dJ0_indexOf_0f7a4_1 : decode cJ0_indexOf_0f7a4 1 = .ok (.iload_n 1, 1) := by decide +kernel
theorem dJ0_indexOf_0f7a4_2 : decode cJ0_indexOf_0f7a4 2 = .ok (.iconst 0, 1) := by decide +kernel
theorem dJ0_indexOf_0f7a4_3 : decode cJ0_indexOf_0f7a4 3 = .ok (.invokevirtual 633, 3) := by decide +kernel
theorem dJ0_indexOf_0f7a4_6 : decode cJ0_indexOf_0f7a4 6 = .ok (.ireturn, 1) := by decide +kernel
theorem dJ0_indexOf_7cf53_0 : decode cJ0_indexOf_7cf53 0 = .ok (.aload_n 0, 1) := by decide +kernel
theorem dJ0_indexOf_7cf53_1 : decode cJ0_indexOf_7cf53 1 = .ok (.invokevirtual 492, 3) := by decide +kernel
theorem dJ0_indexOf_7cf53_4 : decode cJ0_indexOf_7cf53 4 = .ok (.ifCond .eq 19, 3) := by decide +kernel
theorem dJ0_indexOf_7cf53_7 : decode cJ0_indexOf_7cf53 7 = .ok (.aload_n 0, 1) := by decide +kernel
theorem dJ0_indexOf_7cf53_8 : decode cJ0_indexOf_7cf53 8 = .ok (.getfield 9, 3) := by decide +kernel
theorem dJ0_indexOf_7cf53_11 : decode cJ0_indexOf_7cf53 11 = .ok (.iload_n 1, 1) := by decide +kernel
theorem dJ0_indexOf_7cf53_12 : decode cJ0_indexOf_7cf53 12 = .ok (.iload_n 2, 1) := by decide +kernel
theorem dJ0_indexOf_7cf53_13 : decode cJ0_indexOf_7cf53 13 = .ok (.aload_n 0, 1) := by decide +kernel
theorem dJ0_indexOf_7cf53_14 : decode cJ0_indexOf_7cf53 14 = .ok (.invokevirtual 505, 3) := by decide +kernel
theorem dJ0_indexOf_7cf53_17 : decode cJ0_indexOf_7cf53 17 = .ok (.invokestatic 637, 3) := by decide +kernel
theorem dJ0_indexOf_7cf53_20 : decode cJ0_indexOf_7cf53 20 = .ok (.goto 16, 3) := by decide +kernel
theorem dJ0_indexOf_7cf53_23 : decode cJ0_indexOf_7cf53 23 = .ok (.aload_n 0, 1) := by decide +kernel
theorem dJ0_indexOf_7cf53_24 : decode cJ0_indexOf_7cf53 24 = .ok (.getfield 9, 3) := by decide +kernel
theorem dJ0_indexOf_7cf53_27 : decode cJ0_indexOf_7cf53 27 = .ok (.iload_n 1, 1) := by decide +kernel
theorem dJ0_indexOf_7cf53_28 : decode cJ0_indexOf_7cf53 28 = .ok (.iload_n 2, 1) := by decide +kernel
theorem dJ0_indexOf_7cf53_29 : decode cJ0_indexOf_7cf53 29 = .ok (.aload_n 0, 1) := by decide +kernel
theorem dJ0_indexOf_7cf53_30 : decode cJ0_indexOf_7cf53 30 = .ok (.invokevirtual 505, 3) := by decide +kernel
theorem dJ0_indexOf_7cf53_33 : decode cJ0_indexOf_7cf53 33 = .ok (.invokestatic 640, 3) := by decide +kernel
theorem dJ0_indexOf_7cf53_36 : decode cJ0_indexOf_7cf53 36 = .ok (.ireturn, 1) := by decide +kernel
theorem dJ0_coder_7d493_0 : decode cJ0_coder_7d493 0 = .ok (.getstatic 38, 3) := by decide +kernel
theorem dJ0_coder_7d493_3 : decode cJ0_coder_7d493 3 = .ok (.ifCond .eq 10, 3) := by decide +kernel
theorem dJ0_coder_7d493_6 : decode cJ0_coder_7d493 6 = .ok (.aload_n 0, 1) := by decide +kernel
theorem dJ0_coder_7d493_7 : decode cJ0_coder_7d493 7 = .ok (.getfield 15, 3) := by decide +kernel
theorem dJ0_coder_7d493_10 : decode cJ0_coder_7d493 10 = .ok (.goto 4, 3) := by decide +kernel
theorem dJ0_coder_7d493_13 : decode cJ0_coder_7d493 13 = .ok (.iconst 1, 1) := by decide +kernel
theorem dJ0_coder_7d493_14 : decode cJ0_coder_7d493 14 = .ok (.ireturn, 1) := by decide +kernel
theorem dJ0_isLatin1_aae02_0 : decode cJ0_isLatin1_aae02 0 = .ok (.getstatic 38, 3) := by decide +kernel
theorem dJ0_isLatin1_aae02_3 : decode cJ0_isLatin1_aae02 3 = .ok (.ifCond .eq 14, 3) := by decide +kernel
theorem dJ0_isLatin1_aae02_6 : decode cJ0_isLatin1_aae02 6 = .ok (.aload_n 0, 1) := by decide +kernel
theorem dJ0_isLatin1_aae02_7 : decode cJ0_isLatin1_aae02 7 = .ok (.getfield 15, 3) := by decide +kernel
theorem dJ0_isLatin1_aae02_10 : decode cJ0_isLatin1_aae02 10 = .ok (.ifCond .ne 7, 3) := by decide +kernel
theorem dJ0_isLatin1_aae02_13 : decode cJ0_isLatin1_aae02 13 = .ok (.iconst 1, 1) := by decide +kernel
theorem dJ0_isLatin1_aae02_14 : decode cJ0_isLatin1_aae02 14 = .ok (.goto 4, 3) := by decide +kernel
theorem dJ0_isLatin1_aae02_17 : decode cJ0_isLatin1_aae02 17 = .ok (.iconst 0, 1) := by decide +kernel
theorem dJ0_isLatin1_aae02_18 : decode cJ0_isLatin1_aae02 18 = .ok (.ireturn, 1) := by decide +kernel
theorem dJ0_checkIndex_df160_0 : decode cJ0_checkIndex_df160 0 = .ok (.iload_n 0, 1) := by decide +kernel
theorem dJ0_checkIndex_df160_1 : decode cJ0_checkIndex_df160 1 = .ok (.iload_n 1, 1) := by decide +kernel
theorem dJ0_checkIndex_df160_2 : decode cJ0_checkIndex_df160 2 = .ok (.getstatic 1053, 3) := by decide +kernel
theorem dJ0_checkIndex_df160_5 : decode cJ0_checkIndex_df160 5 = .ok (.invokestatic 1059, 3) := by decide +kernel
theorem dJ0_checkIndex_df160_8 : decode cJ0_checkIndex_df160 8 = .ok (.pop, 1) := by decide +kernel
theorem dJ0_checkIndex_df160_9 : decode cJ0_checkIndex_df160 9 = .ok (.return_, 1) := by decide +kernel
theorem dJ0_checkBoundsBeginEnd_23922_0 : decode cJ0_checkBoundsBeginEnd_23922 0 = .ok (.iload_n 0, 1) := by decide +kernel
theorem dJ0_checkBoundsBeginEnd_23922_1 : decode cJ0_checkBoundsBeginEnd_23922 1 = .ok (.iload_n 1, 1) := by decide +kernel
theorem dJ0_checkBoundsBeginEnd_23922_2 : decode cJ0_checkBoundsBeginEnd_23922 2 = .ok (.iload_n 2, 1) := by decide +kernel
theorem dJ0_checkBoundsBeginEnd_23922_3 : decode cJ0_checkBoundsBeginEnd_23922 3 = .ok (.getstatic 1053, 3) := by decide +kernel
theorem dJ0_checkBoundsBeginEnd_23922_6 : decode cJ0_checkBoundsBeginEnd_23922 6 = .ok (.invokestatic 1062, 3) := by decide +kernel
theorem dJ0_checkBoundsBeginEnd_23922_9 : decode cJ0_checkBoundsBeginEnd_23922 9 = .ok (.pop, 1) := by decide +kernel
theorem dJ0_checkBoundsBeginEnd_23922_10 : decode cJ0_checkBoundsBeginEnd_23922 10 = .ok (.return_, 1) := by decide +kernel
theorem dJ1_charAt_3b067_0 : decode cJ1_charAt_3b067 0 = .ok (.iload_n 1, 1) := by decide +kernel
theorem dJ1_charAt_3b067_1 : decode cJ1_charAt_3b067 1 = .ok (.aload_n 0, 1) := by decide +kernel
theorem dJ1_charAt_3b067_2 : decode cJ1_charAt_3b067 2 = .ok (.arraylength, 1) := by decide +kernel
theorem dJ1_charAt_3b067_3 : decode cJ1_charAt_3b067 3 = .ok (.invokestatic 9, 3) := by decide +kernel
theorem dJ1_charAt_3b067_6 : decode cJ1_charAt_3b067 6 = .ok (.aload_n 0, 1) := by decide +kernel
theorem dJ1_charAt_3b067_7 : decode cJ1_charAt_3b067 7 = .ok (.iload_n 1, 1) := by decide +kernel
theorem dJ1_charAt_3b067_8 : decode cJ1_charAt_3b067 8 = .ok (.baload, 1) := by decide +kernel
theorem dJ1_charAt_3b067_9 : decode cJ1_charAt_3b067 9 = .ok (.sipush 255, 3) := by decide +kernel
theorem dJ1_charAt_3b067_12 : decode cJ1_charAt_3b067 12 = .ok (.iand, 1) := by decide +kernel
theorem dJ1_charAt_3b067_13 : decode cJ1_charAt_3b067 13 = .ok (.i2c, 1) := by decide +kernel
theorem dJ1_charAt_3b067_14 : decode cJ1_charAt_3b067 14 = .ok (.ireturn, 1) := by decide +kernel
theorem dJ1_canEncode_9a6ad_0 : decode cJ1_canEncode_9a6ad 0 = .ok (.iload_n 0, 1) := by decide +kernel
theorem dJ1_canEncode_9a6ad_1 : decode cJ1_canEncode_9a6ad 1 = .ok (.ifCond .lt 14, 3) := by decide +kernel
theorem dJ1_canEncode_9a6ad_4 : decode cJ1_canEncode_9a6ad 4 = .ok (.iload_n 0, 1) := by decide +kernel
theorem dJ1_canEncode_9a6ad_5 : decode cJ1_canEncode_9a6ad 5 = .ok (.sipush 255, 3) := by decide +kernel
theorem dJ1_canEncode_9a6ad_8 : decode cJ1_canEncode_9a6ad 8 = .ok (.if_icmp .gt 7, 3) := by decide +kernel
theorem dJ1_canEncode_9a6ad_11 : decode cJ1_canEncode_9a6ad 11 = .ok (.iconst 1, 1) := by decide +kernel
theorem dJ1_canEncode_9a6ad_12 : decode cJ1_canEncode_9a6ad 12 = .ok (.goto 4, 3) := by decide +kernel
theorem dJ1_canEncode_9a6ad_15 : decode cJ1_canEncode_9a6ad 15 = .ok (.iconst 0, 1) := by decide +kernel
theorem dJ1_canEncode_9a6ad_16 : decode cJ1_canEncode_9a6ad 16 = .ok (.ireturn, 1) := by decide +kernel
theorem dJ1_indexOf_4cfef_0 : decode cJ1_indexOf_4cfef 0 = .ok (.iload_n 1, 1) := by decide +kernel
theorem dJ1_indexOf_4cfef_1 : decode cJ1_indexOf_4cfef 1 = .ok (.invokestatic 88, 3) := by decide +kernel
theorem dJ1_indexOf_4cfef_4 : decode cJ1_indexOf_4cfef 4 = .ok (.ifCond .ne 5, 3) := by decide +kernel
theorem dJ1_indexOf_4cfef_7 : decode cJ1_indexOf_4cfef 7 = .ok (.iconst (-1), 1) := by decide +kernel
theorem dJ1_indexOf_4cfef_8 : decode cJ1_indexOf_4cfef 8 = .ok (.ireturn, 1) := by decide +kernel
theorem dJ1_indexOf_4cfef_9 : decode cJ1_indexOf_4cfef 9 = .ok (.iload_n 2, 1) := by decide +kernel
theorem dJ1_indexOf_4cfef_10 : decode cJ1_indexOf_4cfef 10 = .ok (.iconst 0, 1) := by decide +kernel
theorem dJ1_indexOf_4cfef_11 : decode cJ1_indexOf_4cfef 11 = .ok (.invokestatic 92, 3) := by decide +kernel
theorem dJ1_indexOf_4cfef_14 : decode cJ1_indexOf_4cfef 14 = .ok (.istore_n 2, 1) := by decide +kernel
theorem dJ1_indexOf_4cfef_15 : decode cJ1_indexOf_4cfef 15 = .ok (.iload_n 3, 1) := by decide +kernel
theorem dJ1_indexOf_4cfef_16 : decode cJ1_indexOf_4cfef 16 = .ok (.aload_n 0, 1) := by decide +kernel
theorem dJ1_indexOf_4cfef_17 : decode cJ1_indexOf_4cfef 17 = .ok (.arraylength, 1) := by decide +kernel
theorem dJ1_indexOf_4cfef_18 : decode cJ1_indexOf_4cfef 18 = .ok (.invokestatic 38, 3) := by decide +kernel
theorem dJ1_indexOf_4cfef_21 : decode cJ1_indexOf_4cfef 21 = .ok (.istore_n 3, 1) := by decide +kernel
theorem dJ1_indexOf_4cfef_22 : decode cJ1_indexOf_4cfef 22 = .ok (.iload_n 2, 1) := by decide +kernel
theorem dJ1_indexOf_4cfef_23 : decode cJ1_indexOf_4cfef 23 = .ok (.iload_n 3, 1) := by decide +kernel
theorem dJ1_indexOf_4cfef_24 : decode cJ1_indexOf_4cfef 24 = .ok (.if_icmp .lt 5, 3) := by decide +kernel
theorem dJ1_indexOf_4cfef_27 : decode cJ1_indexOf_4cfef 27 = .ok (.iconst (-1), 1) := by decide +kernel
theorem dJ1_indexOf_4cfef_28 : decode cJ1_indexOf_4cfef 28 = .ok (.ireturn, 1) := by decide +kernel
theorem dJ1_indexOf_4cfef_29 : decode cJ1_indexOf_4cfef 29 = .ok (.aload_n 0, 1) := by decide +kernel
theorem dJ1_indexOf_4cfef_30 : decode cJ1_indexOf_4cfef 30 = .ok (.iload_n 1, 1) := by decide +kernel
theorem dJ1_indexOf_4cfef_31 : decode cJ1_indexOf_4cfef 31 = .ok (.iload_n 2, 1) := by decide +kernel
theorem dJ1_indexOf_4cfef_32 : decode cJ1_indexOf_4cfef 32 = .ok (.iload_n 3, 1) := by decide +kernel
theorem dJ1_indexOf_4cfef_33 : decode cJ1_indexOf_4cfef 33 = .ok (.invokestatic 95, 3) := by decide +kernel
theorem dJ1_indexOf_4cfef_36 : decode cJ1_indexOf_4cfef 36 = .ok (.ireturn, 1) := by decide +kernel
theorem dJ1_indexOfChar_4cfef_0 : decode cJ1_indexOfChar_4cfef 0 = .ok (.iload_n 1, 1) := by decide +kernel
theorem dJ1_indexOfChar_4cfef_1 : decode cJ1_indexOfChar_4cfef 1 = .ok (.i2b, 1) := by decide +kernel
theorem dJ1_indexOfChar_4cfef_2 : decode cJ1_indexOfChar_4cfef 2 = .ok (.istore 4, 2) := by decide +kernel
theorem dJ1_indexOfChar_4cfef_4 : decode cJ1_indexOfChar_4cfef 4 = .ok (.iload_n 2, 1) := by decide +kernel
theorem dJ1_indexOfChar_4cfef_5 : decode cJ1_indexOfChar_4cfef 5 = .ok (.istore 5, 2) := by decide +kernel
theorem dJ1_indexOfChar_4cfef_7 : decode cJ1_indexOfChar_4cfef 7 = .ok (.iload 5, 2) := by decide +kernel
theorem dJ1_indexOfChar_4cfef_9 : decode cJ1_indexOfChar_4cfef 9 = .ok (.iload_n 3, 1) := by decide +kernel
theorem dJ1_indexOfChar_4cfef_10 : decode cJ1_indexOfChar_4cfef 10 = .ok (.if_icmp .ge 21, 3) := by decide +kernel
theorem dJ1_indexOfChar_4cfef_13 : decode cJ1_indexOfChar_4cfef 13 = .ok (.aload_n 0, 1) := by decide +kernel
theorem dJ1_indexOfChar_4cfef_14 : decode cJ1_indexOfChar_4cfef 14 = .ok (.iload 5, 2) := by decide +kernel
theorem dJ1_indexOfChar_4cfef_16 : decode cJ1_indexOfChar_4cfef 16 = .ok (.baload, 1) := by decide +kernel
theorem dJ1_indexOfChar_4cfef_17 : decode cJ1_indexOfChar_4cfef 17 = .ok (.iload 4, 2) := by decide +kernel
theorem dJ1_indexOfChar_4cfef_19 : decode cJ1_indexOfChar_4cfef 19 = .ok (.if_icmp .ne 6, 3) := by decide +kernel
theorem dJ1_indexOfChar_4cfef_22 : decode cJ1_indexOfChar_4cfef 22 = .ok (.iload 5, 2) := by decide +kernel
theorem dJ1_indexOfChar_4cfef_24 : decode cJ1_indexOfChar_4cfef 24 = .ok (.ireturn, 1) := by decide +kernel
theorem dJ1_indexOfChar_4cfef_25 : decode cJ1_indexOfChar_4cfef 25 = .ok (.iinc 5 1, 3) := by decide +kernel
theorem dJ1_indexOfChar_4cfef_28 : decode cJ1_indexOfChar_4cfef 28 = .ok (.goto (-21), 3) := by decide +kernel
theorem dJ1_indexOfChar_4cfef_31 : decode cJ1_indexOfChar_4cfef 31 = .ok (.iconst (-1), 1) := by decide +kernel
theorem dJ1_indexOfChar_4cfef_32 : decode cJ1_indexOfChar_4cfef 32 = .ok (.ireturn, 1) := by decide +kernel
theorem dJ2_getChar_3b067_0 : decode cJ2_getChar_3b067 0 = .ok (.getstatic 44, 3) := by decide +kernel
theorem dJ2_getChar_3b067_3 : decode cJ2_getChar_3b067 3 = .ok (.ifCond .ne 25, 3) := by decide +kernel
theorem dJ2_getChar_3b067_6 : decode cJ2_getChar_3b067 6 = .ok (.iload_n 1, 1) := by decide +kernel
theorem dJ2_getChar_3b067_7 : decode cJ2_getChar_3b067 7 = .ok (.ifCond .lt 11, 3) := by decide +kernel
theorem dJ2_getChar_3b067_10 : decode cJ2_getChar_3b067 10 = .ok (.iload_n 1, 1) := by decide +kernel
theorem dJ2_getChar_3b067_11 : decode cJ2_getChar_3b067 11 = .ok (.aload_n 0, 1) := by decide +kernel
theorem dJ2_getChar_3b067_12 : decode cJ2_getChar_3b067 12 = .ok (.invokestatic 48, 3) := by decide +kernel
theorem dJ2_getChar_3b067_15 : decode cJ2_getChar_3b067 15 = .ok (.if_icmp .lt 13, 3) := by decide +kernel
theorem dJ2_getChar_3b067_18 : decode cJ2_getChar_3b067 18 = .ok (.new 52, 3) := by decide +kernel
theorem dJ2_getChar_3b067_21 : decode cJ2_getChar_3b067 21 = .ok (.dup, 1) := by decide +kernel
theorem dJ2_getChar_3b067_22 : decode cJ2_getChar_3b067 22 = .ok (.ldc 54, 2) := by decide +kernel
theorem dJ2_getChar_3b067_24 : decode cJ2_getChar_3b067 24 = .ok (.invokespecial 56, 3) := by decide +kernel
theorem dJ2_getChar_3b067_27 : decode cJ2_getChar_3b067 27 = .ok (.athrow, 1) := by decide +kernel
theorem dJ2_getChar_3b067_28 : decode cJ2_getChar_3b067 28 = .ok (.iload_n 1, 1) := by decide +kernel
theorem dJ2_getChar_3b067_29 : decode cJ2_getChar_3b067 29 = .ok (.iconst 1, 1) := by decide +kernel
theorem dJ2_getChar_3b067_30 : decode cJ2_getChar_3b067 30 = .ok (.ishl, 1) := by decide +kernel
theorem dJ2_getChar_3b067_31 : decode cJ2_getChar_3b067 31 = .ok (.istore_n 1, 1) := by decide +kernel
theorem dJ2_getChar_3b067_32 : decode cJ2_getChar_3b067 32 = .ok (.aload_n 0, 1) := by decide +kernel
theorem dJ2_getChar_3b067_33 : decode cJ2_getChar_3b067 33 = .ok (.iload_n 1, 1) := by decide +kernel
theorem dJ2_getChar_3b067_34 : decode cJ2_getChar_3b067 34 = .ok (.iinc 1 1, 3) := by decide +kernel
theorem dJ2_getChar_3b067_37 : decode cJ2_getChar_3b067 37 = .ok (.baload, 1) := by decide +kernel
theorem dJ2_getChar_3b067_38 : decode cJ2_getChar_3b067 38 = .ok (.sipush 255, 3) := by decide +kernel
theorem dJ2_getChar_3b067_41 : decode cJ2_getChar_3b067 41 = .ok (.iand, 1) := by decide +kernel
theorem dJ2_getChar_3b067_42 : decode cJ2_getChar_3b067 42 = .ok (.getstatic 59, 3) := by decide +kernel
theorem dJ2_getChar_3b067_45 : decode cJ2_getChar_3b067 45 = .ok (.ishl, 1) := by decide +kernel
theorem dJ2_getChar_3b067_46 : decode cJ2_getChar_3b067 46 = .ok (.aload_n 0, 1) := by decide +kernel
theorem dJ2_getChar_3b067_47 : decode cJ2_getChar_3b067 47 = .ok (.iload_n 1, 1) := by decide +kernel
theorem dJ2_getChar_3b067_48 : decode cJ2_getChar_3b067 48 = .ok (.baload, 1) := by decide +kernel
theorem dJ2_getChar_3b067_49 : decode cJ2_getChar_3b067 49 = .ok (.sipush 255, 3) := by decide +kernel
theorem dJ2_getChar_3b067_52 : decode cJ2_getChar_3b067 52 = .ok (.iand, 1) := by decide +kernel
theorem dJ2_getChar_3b067_53 : decode cJ2_getChar_3b067 53 = .ok (.getstatic 63, 3) := by decide +kernel
theorem dJ2_getChar_3b067_56 : decode cJ2_getChar_3b067 56 = .ok (.ishl, 1) := by decide +kernel
theorem dJ2_getChar_3b067_57 : decode cJ2_getChar_3b067 57 = .ok (.ior, 1) := by decide +kernel
theorem dJ2_getChar_3b067_58 : decode cJ2_getChar_3b067 58 = .ok (.i2c, 1) := by decide +kernel
theorem dJ2_getChar_3b067_59 : decode cJ2_getChar_3b067 59 = .ok (.ireturn, 1) := by decide +kernel
theorem dJ2_length_9d52b_0 : decode cJ2_length_9d52b 0 = .ok (.aload_n 0, 1) := by decide +kernel
theorem dJ2_length_9d52b_1 : decode cJ2_length_9d52b 1 = .ok (.arraylength, 1) := by decide +kernel
theorem dJ2_length_9d52b_2 : decode cJ2_length_9d52b 2 = .ok (.iconst 1, 1) := by decide +kernel
theorem dJ2_length_9d52b_3 : decode cJ2_length_9d52b 3 = .ok (.ishr, 1) := by decide +kernel
theorem dJ2_length_9d52b_4 : decode cJ2_length_9d52b 4 = .ok (.ireturn, 1) := by decide +kernel
theorem dJ2_indexOf_4cfef_0 : decode cJ2_indexOf_4cfef 0 = .ok (.iload_n 2, 1) := by decide +kernel
theorem dJ2_indexOf_4cfef_1 : decode cJ2_indexOf_4cfef 1 = .ok (.iconst 0, 1) := by decide +kernel
theorem dJ2_indexOf_4cfef_2 : decode cJ2_indexOf_4cfef 2 = .ok (.invokestatic 224, 3) := by decide +kernel
theorem dJ2_indexOf_4cfef_5 : decode cJ2_indexOf_4cfef 5 = .ok (.istore_n 2, 1) := by decide +kernel
theorem dJ2_indexOf_4cfef_6 : decode cJ2_indexOf_4cfef 6 = .ok (.iload_n 3, 1) := by decide +kernel
theorem dJ2_indexOf_4cfef_7 : decode cJ2_indexOf_4cfef 7 = .ok (.aload_n 0, 1) := by decide +kernel
theorem dJ2_indexOf_4cfef_8 : decode cJ2_indexOf_4cfef 8 = .ok (.arraylength, 1) := by decide +kernel
theorem dJ2_indexOf_4cfef_9 : decode cJ2_indexOf_4cfef 9 = .ok (.iconst 1, 1) := by decide +kernel
theorem dJ2_indexOf_4cfef_10 : decode cJ2_indexOf_4cfef 10 = .ok (.ishr, 1) := by decide +kernel
theorem dJ2_indexOf_4cfef_11 : decode cJ2_indexOf_4cfef 11 = .ok (.invokestatic 183, 3) := by decide +kernel
theorem dJ2_indexOf_4cfef_14 : decode cJ2_indexOf_4cfef 14 = .ok (.istore_n 3, 1) := by decide +kernel
theorem dJ2_indexOf_4cfef_15 : decode cJ2_indexOf_4cfef 15 = .ok (.iload_n 2, 1) := by decide +kernel
theorem dJ2_indexOf_4cfef_16 : decode cJ2_indexOf_4cfef 16 = .ok (.iload_n 3, 1) := by decide +kernel
theorem dJ2_indexOf_4cfef_17 : decode cJ2_indexOf_4cfef 17 = .ok (.if_icmp .lt 5, 3) := by decide +kernel
theorem dJ2_indexOf_4cfef_20 : decode cJ2_indexOf_4cfef 20 = .ok (.iconst (-1), 1) := by decide +kernel
theorem dJ2_indexOf_4cfef_21 : decode cJ2_indexOf_4cfef 21 = .ok (.ireturn, 1) := by decide +kernel
theorem dJ2_indexOf_4cfef_22 : decode cJ2_indexOf_4cfef 22 = .ok (.iload_n 1, 1) := by decide +kernel
theorem dJ2_indexOf_4cfef_23 : decode cJ2_indexOf_4cfef 23 = .ok (.ldc 227, 2) := by decide +kernel
theorem dJ2_indexOf_4cfef_25 : decode cJ2_indexOf_4cfef 25 = .ok (.if_icmp .ge 11, 3) := by decide +kernel
theorem dJ2_indexOf_4cfef_28 : decode cJ2_indexOf_4cfef 28 = .ok (.aload_n 0, 1) := by decide +kernel
theorem dJ2_indexOf_4cfef_29 : decode cJ2_indexOf_4cfef 29 = .ok (.iload_n 1, 1) := by decide +kernel
theorem dJ2_indexOf_4cfef_30 : decode cJ2_indexOf_4cfef 30 = .ok (.iload_n 2, 1) := by decide +kernel
theorem dJ2_indexOf_4cfef_31 : decode cJ2_indexOf_4cfef 31 = .ok (.iload_n 3, 1) := by decide +kernel
theorem dJ2_indexOf_4cfef_32 : decode cJ2_indexOf_4cfef 32 = .ok (.invokestatic 228, 3) := by decide +kernel
theorem dJ2_indexOf_4cfef_35 : decode cJ2_indexOf_4cfef 35 = .ok (.ireturn, 1) := by decide +kernel
theorem dJ2_indexOf_4cfef_36 : decode cJ2_indexOf_4cfef 36 = .ok (.aload_n 0, 1) := by decide +kernel
theorem dJ2_indexOf_4cfef_37 : decode cJ2_indexOf_4cfef 37 = .ok (.iload_n 1, 1) := by decide +kernel
theorem dJ2_indexOf_4cfef_38 : decode cJ2_indexOf_4cfef 38 = .ok (.iload_n 2, 1) := by decide +kernel
theorem dJ2_indexOf_4cfef_39 : decode cJ2_indexOf_4cfef 39 = .ok (.iload_n 3, 1) := by decide +kernel
theorem dJ2_indexOf_4cfef_40 : decode cJ2_indexOf_4cfef 40 = .ok (.invokestatic 232, 3) := by decide +kernel
theorem dJ2_indexOf_4cfef_43 : decode cJ2_indexOf_4cfef 43 = .ok (.ireturn, 1) := by decide +kernel
theorem dJ2_indexOfChar_4cfef_0 : decode cJ2_indexOfChar_4cfef 0 = .ok (.iload_n 2, 1) := by decide +kernel
theorem dJ2_indexOfChar_4cfef_1 : decode cJ2_indexOfChar_4cfef 1 = .ok (.iload_n 3, 1) := by decide +kernel
theorem dJ2_indexOfChar_4cfef_2 : decode cJ2_indexOfChar_4cfef 2 = .ok (.aload_n 0, 1) := by decide +kernel
theorem dJ2_indexOfChar_4cfef_3 : decode cJ2_indexOfChar_4cfef 3 = .ok (.invokestatic 96, 3) := by decide +kernel
theorem dJ2_indexOfChar_4cfef_6 : decode cJ2_indexOfChar_4cfef 6 = .ok (.aload_n 0, 1) := by decide +kernel
theorem dJ2_indexOfChar_4cfef_7 : decode cJ2_indexOfChar_4cfef 7 = .ok (.iload_n 1, 1) := by decide +kernel
theorem dJ2_indexOfChar_4cfef_8 : decode cJ2_indexOfChar_4cfef 8 = .ok (.iload_n 2, 1) := by decide +kernel
theorem dJ2_indexOfChar_4cfef_9 : decode cJ2_indexOfChar_4cfef 9 = .ok (.iload_n 3, 1) := by decide +kernel
theorem dJ2_indexOfChar_4cfef_10 : decode cJ2_indexOfChar_4cfef 10 = .ok (.invokestatic 244, 3) := by decide +kernel
theorem dJ2_indexOfChar_4cfef_13 : decode cJ2_indexOfChar_4cfef 13 = .ok (.ireturn, 1) := by decide +kernel
theorem dJ2_indexOfCharUnsafe_4cfef_0 : decode cJ2_indexOfCharUnsafe_4cfef 0 = .ok (.iload_n 2, 1) := by decide +kernel
theorem dJ2_indexOfCharUnsafe_4cfef_1 : decode cJ2_indexOfCharUnsafe_4cfef 1 = .ok (.istore 4, 2) := by decide +kernel
theorem dJ2_indexOfCharUnsafe_4cfef_3 : decode cJ2_indexOfCharUnsafe_4cfef 3 = .ok (.iload 4, 2) := by decide +kernel
theorem dJ2_indexOfCharUnsafe_4cfef_5 : decode cJ2_indexOfCharUnsafe_4cfef 5 = .ok (.iload_n 3, 1) := by decide +kernel
theorem dJ2_indexOfCharUnsafe_4cfef_6 : decode cJ2_indexOfCharUnsafe_4cfef 6 = .ok (.if_icmp .ge 22, 3) := by decide +kernel
theorem dJ2_indexOfCharUnsafe_4cfef_9 : decode cJ2_indexOfCharUnsafe_4cfef 9 = .ok (.aload_n 0, 1) := by decide +kernel
theorem dJ2_indexOfCharUnsafe_4cfef_10 : decode cJ2_indexOfCharUnsafe_4cfef 10 = .ok (.iload 4, 2) := by decide +kernel
theorem dJ2_indexOfCharUnsafe_4cfef_12 : decode cJ2_indexOfCharUnsafe_4cfef 12 = .ok (.invokestatic 71, 3) := by decide +kernel
theorem dJ2_indexOfCharUnsafe_4cfef_15 : decode cJ2_indexOfCharUnsafe_4cfef 15 = .ok (.iload_n 1, 1) := by decide +kernel
theorem dJ2_indexOfCharUnsafe_4cfef_16 : decode cJ2_indexOfCharUnsafe_4cfef 16 = .ok (.if_icmp .ne 6, 3) := by decide +kernel
theorem dJ2_indexOfCharUnsafe_4cfef_19 : decode cJ2_indexOfCharUnsafe_4cfef 19 = .ok (.iload 4, 2) := by decide +kernel
theorem dJ2_indexOfCharUnsafe_4cfef_21 : decode cJ2_indexOfCharUnsafe_4cfef 21 = .ok (.ireturn, 1) := by decide +kernel
theorem dJ2_indexOfCharUnsafe_4cfef_22 : decode cJ2_indexOfCharUnsafe_4cfef 22 = .ok (.iinc 4 1, 3) := by decide +kernel
theorem dJ2_indexOfCharUnsafe_4cfef_25 : decode cJ2_indexOfCharUnsafe_4cfef 25 = .ok (.goto (-22), 3) := by decide +kernel
theorem dJ2_indexOfCharUnsafe_4cfef_28 : decode cJ2_indexOfCharUnsafe_4cfef 28 = .ok (.iconst (-1), 1) := by decide +kernel
theorem dJ2_indexOfCharUnsafe_4cfef_29 : decode cJ2_indexOfCharUnsafe_4cfef 29 = .ok (.ireturn, 1) := by decide +kernel
theorem dJ2_indexOfSupplementary_4cfef_0 : decode cJ2_indexOfSupplementary_4cfef 0 = .ok (.iload_n 1, 1) := by decide +kernel
theorem dJ2_indexOfSupplementary_4cfef_1 : decode cJ2_indexOfSupplementary_4cfef 1 = .ok (.invokestatic 164, 3) := by decide +kernel
theorem dJ2_indexOfSupplementary_4cfef_4 : decode cJ2_indexOfSupplementary_4cfef 4 = .ok (.ifCond .eq 65, 3) := by decide +kernel
theorem dJ2_indexOfSupplementary_4cfef_7 : decode cJ2_indexOfSupplementary_4cfef 7 = .ok (.iload_n 1, 1) := by decide +kernel
theorem dJ2_indexOfSupplementary_4cfef_8 : decode cJ2_indexOfSupplementary_4cfef 8 = .ok (.invokestatic 157, 3) := by decide +kernel
theorem dJ2_indexOfSupplementary_4cfef_11 : decode cJ2_indexOfSupplementary_4cfef 11 = .ok (.istore 4, 2) := by decide +kernel
theorem dJ2_indexOfSupplementary_4cfef_13 : decode cJ2_indexOfSupplementary_4cfef 13 = .ok (.iload_n 1, 1) := by decide +kernel
theorem dJ2_indexOfSupplementary_4cfef_14 : decode cJ2_indexOfSupplementary_4cfef 14 = .ok (.invokestatic 161, 3) := by decide +kernel
theorem dJ2_indexOfSupplementary_4cfef_17 : decode cJ2_indexOfSupplementary_4cfef 17 = .ok (.istore 5, 2) := by decide +kernel
theorem dJ2_indexOfSupplementary_4cfef_19 : decode cJ2_indexOfSupplementary_4cfef 19 = .ok (.iload_n 2, 1) := by decide +kernel
theorem dJ2_indexOfSupplementary_4cfef_20 : decode cJ2_indexOfSupplementary_4cfef 20 = .ok (.iload_n 3, 1) := by decide +kernel
theorem dJ2_indexOfSupplementary_4cfef_21 : decode cJ2_indexOfSupplementary_4cfef 21 = .ok (.aload_n 0, 1) := by decide +kernel
theorem dJ2_indexOfSupplementary_4cfef_22 : decode cJ2_indexOfSupplementary_4cfef 22 = .ok (.invokestatic 96, 3) := by decide +kernel
theorem dJ2_indexOfSupplementary_4cfef_25 : decode cJ2_indexOfSupplementary_4cfef 25 = .ok (.iload_n 2, 1) := by decide +kernel
theorem dJ2_indexOfSupplementary_4cfef_26 : decode cJ2_indexOfSupplementary_4cfef 26 = .ok (.istore 6, 2) := by decide +kernel
theorem dJ2_indexOfSupplementary_4cfef_28 : decode cJ2_indexOfSupplementary_4cfef 28 = .ok (.iload 6, 2) := by decide +kernel
theorem dJ2_indexOfSupplementary_4cfef_30 : decode cJ2_indexOfSupplementary_4cfef 30 = .ok (.iload_n 3, 1) := by decide +kernel
theorem dJ2_indexOfSupplementary_4cfef_31 : decode cJ2_indexOfSupplementary_4cfef 31 = .ok (.iconst 1, 1) := by decide +kernel
theorem dJ2_indexOfSupplementary_4cfef_32 : decode cJ2_indexOfSupplementary_4cfef 32 = .ok (.isub, 1) := by decide +kernel
theorem dJ2_indexOfSupplementary_4cfef_33 : decode cJ2_indexOfSupplementary_4cfef 33 = .ok (.if_icmp .ge 36, 3) := by decide +kernel
theorem dJ2_indexOfSupplementary_4cfef_36 : decode cJ2_indexOfSupplementary_4cfef 36 = .ok (.aload_n 0, 1) := by decide +kernel
theorem dJ2_indexOfSupplementary_4cfef_37 : decode cJ2_indexOfSupplementary_4cfef 37 = .ok (.iload 6, 2) := by decide +kernel
theorem dJ2_indexOfSupplementary_4cfef_39 : decode cJ2_indexOfSupplementary_4cfef 39 = .ok (.invokestatic 71, 3) := by decide +kernel
theorem dJ2_indexOfSupplementary_4cfef_42 : decode cJ2_indexOfSupplementary_4cfef 42 = .ok (.iload 4, 2) := by decide +kernel
theorem dJ2_indexOfSupplementary_4cfef_44 : decode cJ2_indexOfSupplementary_4cfef 44 = .ok (.if_icmp .ne 19, 3) := by decide +kernel
theorem dJ2_indexOfSupplementary_4cfef_47 : decode cJ2_indexOfSupplementary_4cfef 47 = .ok (.aload_n 0, 1) := by decide +kernel
theorem dJ2_indexOfSupplementary_4cfef_48 : decode cJ2_indexOfSupplementary_4cfef 48 = .ok (.iload 6, 2) := by decide +kernel
theorem dJ2_indexOfSupplementary_4cfef_50 : decode cJ2_indexOfSupplementary_4cfef 50 = .ok (.iconst 1, 1) := by decide +kernel
theorem dJ2_indexOfSupplementary_4cfef_51 : decode cJ2_indexOfSupplementary_4cfef 51 = .ok (.iadd, 1) := by decide +kernel
theorem dJ2_indexOfSupplementary_4cfef_52 : decode cJ2_indexOfSupplementary_4cfef 52 = .ok (.invokestatic 71, 3) := by decide +kernel
theorem dJ2_indexOfSupplementary_4cfef_55 : decode cJ2_indexOfSupplementary_4cfef 55 = .ok (.iload 5, 2) := by decide +kernel
theorem dJ2_indexOfSupplementary_4cfef_57 : decode cJ2_indexOfSupplementary_4cfef 57 = .ok (.if_icmp .ne 6, 3) := by decide +kernel
theorem dJ2_indexOfSupplementary_4cfef_60 : decode cJ2_indexOfSupplementary_4cfef 60 = .ok (.iload 6, 2) := by decide +kernel
theorem dJ2_indexOfSupplementary_4cfef_62 : decode cJ2_indexOfSupplementary_4cfef 62 = .ok (.ireturn, 1) := by decide +kernel
theorem dJ2_indexOfSupplementary_4cfef_63 : decode cJ2_indexOfSupplementary_4cfef 63 = .ok (.iinc 6 1, 3) := by decide +kernel
theorem dJ2_indexOfSupplementary_4cfef_66 : decode cJ2_indexOfSupplementary_4cfef 66 = .ok (.goto (-38), 3) := by decide +kernel
theorem dJ2_indexOfSupplementary_4cfef_69 : decode cJ2_indexOfSupplementary_4cfef 69 = .ok (.iconst (-1), 1) := by decide +kernel
theorem dJ2_indexOfSupplementary_4cfef_70 : decode cJ2_indexOfSupplementary_4cfef 70 = .ok (.ireturn, 1) := by decide +kernel
theorem dJ2_charAt_3b067_0 : decode cJ2_charAt_3b067 0 = .ok (.iload_n 1, 1) := by decide +kernel
theorem dJ2_charAt_3b067_1 : decode cJ2_charAt_3b067 1 = .ok (.aload_n 0, 1) := by decide +kernel
theorem dJ2_charAt_3b067_2 : decode cJ2_charAt_3b067 2 = .ok (.invokestatic 67, 3) := by decide +kernel
theorem dJ2_charAt_3b067_5 : decode cJ2_charAt_3b067 5 = .ok (.aload_n 0, 1) := by decide +kernel
theorem dJ2_charAt_3b067_6 : decode cJ2_charAt_3b067 6 = .ok (.iload_n 1, 1) := by decide +kernel
theorem dJ2_charAt_3b067_7 : decode cJ2_charAt_3b067 7 = .ok (.invokestatic 71, 3) := by decide +kernel
theorem dJ2_charAt_3b067_10 : decode cJ2_charAt_3b067 10 = .ok (.ireturn, 1) := by decide +kernel
theorem dJ2_checkIndex_2214a_0 : decode cJ2_checkIndex_2214a 0 = .ok (.iload_n 0, 1) := by decide +kernel
theorem dJ2_checkIndex_2214a_1 : decode cJ2_checkIndex_2214a 1 = .ok (.aload_n 1, 1) := by decide +kernel
theorem dJ2_checkIndex_2214a_2 : decode cJ2_checkIndex_2214a 2 = .ok (.invokestatic 48, 3) := by decide +kernel
theorem dJ2_checkIndex_2214a_5 : decode cJ2_checkIndex_2214a 5 = .ok (.invokestatic 414, 3) := by decide +kernel
theorem dJ2_checkIndex_2214a_8 : decode cJ2_checkIndex_2214a 8 = .ok (.return_, 1) := by decide +kernel
theorem dJ2_checkBoundsBeginEnd_d044e_0 : decode cJ2_checkBoundsBeginEnd_d044e 0 = .ok (.iload_n 0, 1) := by decide +kernel
theorem dJ2_checkBoundsBeginEnd_d044e_1 : decode cJ2_checkBoundsBeginEnd_d044e 1 = .ok (.iload_n 1, 1) := by decide +kernel
theorem dJ2_checkBoundsBeginEnd_d044e_2 : decode cJ2_checkBoundsBeginEnd_d044e 2 = .ok (.aload_n 2, 1) := by decide +kernel
theorem dJ2_checkBoundsBeginEnd_d044e_3 : decode cJ2_checkBoundsBeginEnd_d044e 3 = .ok (.invokestatic 48, 3) := by decide +kernel
theorem dJ2_checkBoundsBeginEnd_d044e_6 : decode cJ2_checkBoundsBeginEnd_d044e 6 = .ok (.invokestatic 241, 3) := by decide +kernel
theorem dJ2_checkBoundsBeginEnd_d044e_9 : decode cJ2_checkBoundsBeginEnd_d044e 9 = .ok (.return_, 1) := by decide +kernel
theorem dJ7_fill_53178_0 : decode cJ7_fill_53178 0 = .ok (.iconst 0, 1) := by decide +kernel
theorem dJ7_fill_53178_1 : decode cJ7_fill_53178 1 = .ok (.istore_n 2, 1) := by decide +kernel
theorem dJ7_fill_53178_2 : decode cJ7_fill_53178 2 = .ok (.aload_n 0, 1) := by decide +kernel
theorem dJ7_fill_53178_3 : decode cJ7_fill_53178 3 = .ok (.arraylength, 1) := by decide +kernel
theorem dJ7_fill_53178_4 : decode cJ7_fill_53178 4 = .ok (.istore_n 3, 1) := by decide +kernel
theorem dJ7_fill_53178_5 : decode cJ7_fill_53178 5 = .ok (.iload_n 2, 1) := by decide +kernel
theorem dJ7_fill_53178_6 : decode cJ7_fill_53178 6 = .ok (.iload_n 3, 1) := by decide +kernel
theorem dJ7_fill_53178_7 : decode cJ7_fill_53178 7 = .ok (.if_icmp .ge 13, 3) := by decide +kernel
theorem dJ7_fill_53178_10 : decode cJ7_fill_53178 10 = .ok (.aload_n 0, 1) := by decide +kernel
theorem dJ7_fill_53178_11 : decode cJ7_fill_53178 11 = .ok (.iload_n 2, 1) := by decide +kernel
theorem dJ7_fill_53178_12 : decode cJ7_fill_53178 12 = .ok (.iload_n 1, 1) := by decide +kernel
theorem dJ7_fill_53178_13 : decode cJ7_fill_53178 13 = .ok (.iastore, 1) := by decide +kernel
theorem dJ7_fill_53178_14 : decode cJ7_fill_53178 14 = .ok (.iinc 2 1, 3) := by decide +kernel
theorem dJ7_fill_53178_17 : decode cJ7_fill_53178 17 = .ok (.goto (-12), 3) := by decide +kernel
theorem dJ7_fill_53178_20 : decode cJ7_fill_53178 20 = .ok (.return_, 1) := by decide +kernel
theorem dJ3_checkIndex_8e157_0 : decode cJ3_checkIndex_8e157 0 = .ok (.iload_n 0, 1) := by decide +kernel
theorem dJ3_checkIndex_8e157_1 : decode cJ3_checkIndex_8e157 1 = .ok (.ifCond .lt 8, 3) := by decide +kernel
theorem dJ3_checkIndex_8e157_4 : decode cJ3_checkIndex_8e157 4 = .ok (.iload_n 0, 1) := by decide +kernel
theorem dJ3_checkIndex_8e157_5 : decode cJ3_checkIndex_8e157 5 = .ok (.iload_n 1, 1) := by decide +kernel
theorem dJ3_checkIndex_8e157_6 : decode cJ3_checkIndex_8e157 6 = .ok (.if_icmp .lt 10, 3) := by decide +kernel
theorem dJ3_checkIndex_8e157_9 : decode cJ3_checkIndex_8e157 9 = .ok (.aload_n 2, 1) := by decide +kernel
theorem dJ3_checkIndex_8e157_10 : decode cJ3_checkIndex_8e157 10 = .ok (.iload_n 0, 1) := by decide +kernel
theorem dJ3_checkIndex_8e157_11 : decode cJ3_checkIndex_8e157 11 = .ok (.iload_n 1, 1) := by decide +kernel
theorem dJ3_checkIndex_8e157_12 : decode cJ3_checkIndex_8e157 12 = .ok (.invokestatic 95, 3) := by decide +kernel
theorem dJ3_checkIndex_8e157_15 : decode cJ3_checkIndex_8e157 15 = .ok (.athrow, 1) := by decide +kernel
theorem dJ3_checkIndex_8e157_16 : decode cJ3_checkIndex_8e157 16 = .ok (.iload_n 0, 1) := by decide +kernel
theorem dJ3_checkIndex_8e157_17 : decode cJ3_checkIndex_8e157 17 = .ok (.ireturn, 1) := by decide +kernel
theorem dJ3_checkFromToIndex_8c36e_0 : decode cJ3_checkFromToIndex_8c36e 0 = .ok (.iload_n 0, 1) := by decide +kernel
theorem dJ3_checkFromToIndex_8c36e_1 : decode cJ3_checkFromToIndex_8c36e 1 = .ok (.ifCond .lt 13, 3) := by decide +kernel
theorem dJ3_checkFromToIndex_8c36e_4 : decode cJ3_checkFromToIndex_8c36e 4 = .ok (.iload_n 0, 1) := by decide +kernel
theorem dJ3_checkFromToIndex_8c36e_5 : decode cJ3_checkFromToIndex_8c36e 5 = .ok (.iload_n 1, 1) := by decide +kernel
theorem dJ3_checkFromToIndex_8c36e_6 : decode cJ3_checkFromToIndex_8c36e 6 = .ok (.if_icmp .gt 8, 3) := by decide +kernel
theorem dJ3_checkFromToIndex_8c36e_9 : decode cJ3_checkFromToIndex_8c36e 9 = .ok (.iload_n 1, 1) := by decide +kernel
theorem dJ3_checkFromToIndex_8c36e_10 : decode cJ3_checkFromToIndex_8c36e 10 = .ok (.iload_n 2, 1) := by decide +kernel
theorem dJ3_checkFromToIndex_8c36e_11 : decode cJ3_checkFromToIndex_8c36e 11 = .ok (.if_icmp .le 11, 3) := by decide +kernel
theorem dJ3_checkFromToIndex_8c36e_14 : decode cJ3_checkFromToIndex_8c36e 14 = .ok (.aload_n 3, 1) := by decide +kernel
theorem dJ3_checkFromToIndex_8c36e_15 : decode cJ3_checkFromToIndex_8c36e 15 = .ok (.iload_n 0, 1) := by decide +kernel
theorem dJ3_checkFromToIndex_8c36e_16 : decode cJ3_checkFromToIndex_8c36e 16 = .ok (.iload_n 1, 1) := by decide +kernel
theorem dJ3_checkFromToIndex_8c36e_17 : decode cJ3_checkFromToIndex_8c36e 17 = .ok (.iload_n 2, 1) := by decide +kernel
theorem dJ3_checkFromToIndex_8c36e_18 : decode cJ3_checkFromToIndex_8c36e 18 = .ok (.invokestatic 99, 3) := by decide +kernel
theorem dJ3_checkFromToIndex_8c36e_21 : decode cJ3_checkFromToIndex_8c36e 21 = .ok (.athrow, 1) := by decide +kernel
theorem dJ3_checkFromToIndex_8c36e_22 : decode cJ3_checkFromToIndex_8c36e 22 = .ok (.iload_n 0, 1) := by decide +kernel
theorem dJ3_checkFromToIndex_8c36e_23 : decode cJ3_checkFromToIndex_8c36e 23 = .ok (.ireturn, 1) := by decide +kernel
