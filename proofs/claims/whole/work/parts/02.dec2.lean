theorem dX4_addRoom_7 : decode cX4_addRoom 7 = .ok (.aload_n 0, 1) := by decide +kernel
theorem dX4_addRoom_8 : decode cX4_addRoom 8 = .ok (.getfield 34, 3) := by decide +kernel
theorem dX4_addRoom_11 : decode cX4_addRoom 11 = .ok (.bipush 7, 2) := by decide +kernel
theorem dX4_addRoom_13 : decode cX4_addRoom 13 = .ok (.if_icmp .lt 5, 3) := by decide +kernel
theorem dX4_addRoom_16 : decode cX4_addRoom 16 = .ok (.iconst 0, 1) := by decide +kernel
theorem dX4_addRoom_17 : decode cX4_addRoom 17 = .ok (.ireturn, 1) := by decide +kernel
theorem dX4_addRoom_18 : decode cX4_addRoom 18 = .ok (.aload_n 0, 1) := by decide +kernel
theorem dX4_addRoom_19 : decode cX4_addRoom 19 = .ok (.getfield 27, 3) := by decide +kernel
theorem dX4_addRoom_22 : decode cX4_addRoom 22 = .ok (.aload_n 0, 1) := by decide +kernel
theorem dX4_addRoom_23 : decode cX4_addRoom 23 = .ok (.getfield 34, 3) := by decide +kernel
theorem dX4_addRoom_26 : decode cX4_addRoom 26 = .ok (.iload_n 1, 1) := by decide +kernel
theorem dX4_addRoom_27 : decode cX4_addRoom 27 = .ok (.iastore, 1) := by decide +kernel
theorem dX4_addRoom_28 : decode cX4_addRoom 28 = .ok (.aload_n 0, 1) := by decide +kernel
theorem dX4_addRoom_29 : decode cX4_addRoom 29 = .ok (.dup, 1) := by decide +kernel
theorem dX4_addRoom_30 : decode cX4_addRoom 30 = .ok (.getfield 34, 3) := by decide +kernel
theorem dX4_addRoom_33 : decode cX4_addRoom 33 = .ok (.iconst 1, 1) := by decide +kernel
theorem dX4_addRoom_34 : decode cX4_addRoom 34 = .ok (.iadd, 1) := by decide +kernel
theorem dX4_addRoom_35 : decode cX4_addRoom 35 = .ok (.putfield 34, 3) := by decide +kernel
theorem dX4_addRoom_38 : decode cX4_addRoom 38 = .ok (.iconst 1, 1) := by decide +kernel
theorem dX4_addRoom_39 : decode cX4_addRoom 39 = .ok (.ireturn, 1) := by decide +kernel
theorem dX4_copyFrom_0 : decode cX4_copyFrom 0 = .ok (.aload_n 0, 1) := by decide +kernel
theorem dX4_copyFrom_1 : decode cX4_copyFrom 1 = .ok (.aload_n 1, 1) := by decide +kernel
theorem dX4_copyFrom_2 : decode cX4_copyFrom 2 = .ok (.getfield 30, 3) := by decide +kernel
theorem dX4_copyFrom_5 : decode cX4_copyFrom 5 = .ok (.putfield 30, 3) := by decide +kernel
theorem dX4_copyFrom_8 : decode cX4_copyFrom 8 = .ok (.aload_n 0, 1) := by decide +kernel
theorem dX4_copyFrom_9 : decode cX4_copyFrom 9 = .ok (.aload_n 1, 1) := by decide +kernel
theorem dX4_copyFrom_10 : decode cX4_copyFrom 10 = .ok (.getfield 34, 3) := by decide +kernel
theorem dX4_copyFrom_13 : decode cX4_copyFrom 13 = .ok (.putfield 34, 3) := by decide +kernel
theorem dX4_copyFrom_16 : decode cX4_copyFrom 16 = .ok (.iconst 0, 1) := by decide +kernel
theorem dX4_copyFrom_17 : decode cX4_copyFrom 17 = .ok (.istore_n 2, 1) := by decide +kernel
theorem dX4_copyFrom_18 : decode cX4_copyFrom 18 = .ok (.iload_n 2, 1) := by decide +kernel
theorem dX4_copyFrom_19 : decode cX4_copyFrom 19 = .ok (.bipush 7, 2) := by decide +kernel
theorem dX4_copyFrom_21 : decode cX4_copyFrom 21 = .ok (.if_icmp .ge 81, 3) := by decide +kernel
theorem dX4_copyFrom_24 : decode cX4_copyFrom 24 = .ok (.aload_n 0, 1) := by decide +kernel
theorem dX4_copyFrom_25 : decode cX4_copyFrom 25 = .ok (.getfield 9, 3) := by decide +kernel
theorem dX4_copyFrom_28 : decode cX4_copyFrom 28 = .ok (.iload_n 2, 1) := by decide +kernel
theorem dX4_copyFrom_29 : decode cX4_copyFrom 29 = .ok (.aload_n 1, 1) := by decide +kernel
theorem dX4_copyFrom_30 : decode cX4_copyFrom 30 = .ok (.getfield 9, 3) := by decide +kernel
theorem dX4_copyFrom_33 : decode cX4_copyFrom 33 = .ok (.iload_n 2, 1) := by decide +kernel
theorem dX4_copyFrom_34 : decode cX4_copyFrom 34 = .ok (.iaload, 1) := by decide +kernel
theorem dX4_copyFrom_35 : decode cX4_copyFrom 35 = .ok (.iastore, 1) := by decide +kernel
theorem dX4_copyFrom_36 : decode cX4_copyFrom 36 = .ok (.aload_n 0, 1) := by decide +kernel
theorem dX4_copyFrom_37 : decode cX4_copyFrom 37 = .ok (.getfield 15, 3) := by decide +kernel
theorem dX4_copyFrom_40 : decode cX4_copyFrom 40 = .ok (.iload_n 2, 1) := by decide +kernel
theorem dX4_copyFrom_41 : decode cX4_copyFrom 41 = .ok (.aload_n 1, 1) := by decide +kernel
theorem dX4_copyFrom_42 : decode cX4_copyFrom 42 = .ok (.getfield 15, 3) := by decide +kernel
theorem dX4_copyFrom_45 : decode cX4_copyFrom 45 = .ok (.iload_n 2, 1) := by decide +kernel
theorem dX4_copyFrom_46 : decode cX4_copyFrom 46 = .ok (.iaload, 1) := by decide +kernel
theorem dX4_copyFrom_47 : decode cX4_copyFrom 47 = .ok (.iastore, 1) := by decide +kernel
theorem dX4_copyFrom_48 : decode cX4_copyFrom 48 = .ok (.aload_n 0, 1) := by decide +kernel
theorem dX4_copyFrom_49 : decode cX4_copyFrom 49 = .ok (.getfield 18, 3) := by decide +kernel
theorem dX4_copyFrom_52 : decode cX4_copyFrom 52 = .ok (.iload_n 2, 1) := by decide +kernel
theorem dX4_copyFrom_53 : decode cX4_copyFrom 53 = .ok (.aload_n 1, 1) := by decide +kernel
theorem dX4_copyFrom_54 : decode cX4_copyFrom 54 = .ok (.getfield 18, 3) := by decide +kernel
theorem dX4_copyFrom_57 : decode cX4_copyFrom 57 = .ok (.iload_n 2, 1) := by decide +kernel
theorem dX4_copyFrom_58 : decode cX4_copyFrom 58 = .ok (.iaload, 1) := by decide +kernel
theorem dX4_copyFrom_59 : decode cX4_copyFrom 59 = .ok (.iastore, 1) := by decide +kernel
theorem dX4_copyFrom_60 : decode cX4_copyFrom 60 = .ok (.aload_n 0, 1) := by decide +kernel
theorem dX4_copyFrom_61 : decode cX4_copyFrom 61 = .ok (.getfield 21, 3) := by decide +kernel
theorem dX4_copyFrom_64 : decode cX4_copyFrom 64 = .ok (.iload_n 2, 1) := by decide +kernel
theorem dX4_copyFrom_65 : decode cX4_copyFrom 65 = .ok (.aload_n 1, 1) := by decide +kernel
theorem dX4_copyFrom_66 : decode cX4_copyFrom 66 = .ok (.getfield 21, 3) := by decide +kernel
theorem dX4_copyFrom_69 : decode cX4_copyFrom 69 = .ok (.iload_n 2, 1) := by decide +kernel
theorem dX4_copyFrom_70 : decode cX4_copyFrom 70 = .ok (.iaload, 1) := by decide +kernel
theorem dX4_copyFrom_71 : decode cX4_copyFrom 71 = .ok (.iastore, 1) := by decide +kernel
theorem dX4_copyFrom_72 : decode cX4_copyFrom 72 = .ok (.aload_n 0, 1) := by decide +kernel
theorem dX4_copyFrom_73 : decode cX4_copyFrom 73 = .ok (.getfield 24, 3) := by decide +kernel
theorem dX4_copyFrom_76 : decode cX4_copyFrom 76 = .ok (.iload_n 2, 1) := by decide +kernel
theorem dX4_copyFrom_77 : decode cX4_copyFrom 77 = .ok (.aload_n 1, 1) := by decide +kernel
theorem dX4_copyFrom_78 : decode cX4_copyFrom 78 = .ok (.getfield 24, 3) := by decide +kernel
theorem dX4_copyFrom_81 : decode cX4_copyFrom 81 = .ok (.iload_n 2, 1) := by decide +kernel
theorem dX4_copyFrom_82 : decode cX4_copyFrom 82 = .ok (.iaload, 1) := by decide +kernel
theorem dX4_copyFrom_83 : decode cX4_copyFrom 83 = .ok (.iastore, 1) := by decide +kernel
theorem dX4_copyFrom_84 : decode cX4_copyFrom 84 = .ok (.aload_n 0, 1) := by decide +kernel
theorem dX4_copyFrom_85 : decode cX4_copyFrom 85 = .ok (.getfield 27, 3) := by decide +kernel
theorem dX4_copyFrom_88 : decode cX4_copyFrom 88 = .ok (.iload_n 2, 1) := by decide +kernel
theorem dX4_copyFrom_89 : decode cX4_copyFrom 89 = .ok (.aload_n 1, 1) := by decide +kernel
theorem dX4_copyFrom_90 : decode cX4_copyFrom 90 = .ok (.getfield 27, 3) := by decide +kernel
theorem dX4_copyFrom_93 : decode cX4_copyFrom 93 = .ok (.iload_n 2, 1) := by decide +kernel
theorem dX4_copyFrom_94 : decode cX4_copyFrom 94 = .ok (.iaload, 1) := by decide +kernel
theorem dX4_copyFrom_95 : decode cX4_copyFrom 95 = .ok (.iastore, 1) := by decide +kernel
theorem dX4_copyFrom_96 : decode cX4_copyFrom 96 = .ok (.iinc 2 1, 3) := by decide +kernel
theorem dX4_copyFrom_99 : decode cX4_copyFrom 99 = .ok (.goto (-81), 3) := by decide +kernel
theorem dX4_copyFrom_102 : decode cX4_copyFrom 102 = .ok (.return_, 1) := by decide +kernel
theorem dX5_init_0 : decode cX5_init 0 = .ok (.aload_n 0, 1) := by decide +kernel
theorem dX5_init_1 : decode cX5_init 1 = .ok (.invokespecial 3, 3) := by decide +kernel
theorem dX5_init_4 : decode cX5_init 4 = .ok (.aload_n 0, 1) := by decide +kernel
theorem dX5_init_5 : decode cX5_init 5 = .ok (.sipush 200, 3) := by decide +kernel
theorem dX5_init_8 : decode cX5_init 8 = .ok (.newarray .int, 2) := by decide +kernel
theorem dX5_init_10 : decode cX5_init 10 = .ok (.putfield 9, 3) := by decide +kernel
theorem dX5_init_13 : decode cX5_init 13 = .ok (.aload_n 0, 1) := by decide +kernel
theorem dX5_init_14 : decode cX5_init 14 = .ok (.iconst 5, 1) := by decide +kernel
theorem dX5_init_15 : decode cX5_init 15 = .ok (.newarray .int, 2) := by decide +kernel
theorem dX5_init_17 : decode cX5_init 17 = .ok (.putfield 15, 3) := by decide +kernel
theorem dX5_init_20 : decode cX5_init 20 = .ok (.aload_n 0, 1) := by decide +kernel
theorem dX5_init_21 : decode cX5_init 21 = .ok (.iconst 0, 1) := by decide +kernel
theorem dX5_init_22 : decode cX5_init 22 = .ok (.putfield 18, 3) := by decide +kernel
theorem dX5_init_25 : decode cX5_init 25 = .ok (.return_, 1) := by decide +kernel
theorem dX5_append_0 : decode cX5_append 0 = .ok (.aload_n 0, 1) := by decide +kernel
theorem dX5_append_1 : decode cX5_append 1 = .ok (.getfield 18, 3) := by decide +kernel
theorem dX5_append_4 : decode cX5_append 4 = .ok (.ifCond .lt 15, 3) := by decide +kernel
theorem dX5_append_7 : decode cX5_append 7 = .ok (.aload_n 0, 1) := by decide +kernel
theorem dX5_append_8 : decode cX5_append 8 = .ok (.getfield 18, 3) := by decide +kernel
theorem dX5_append_11 : decode cX5_append 11 = .ok (.aload_n 0, 1) := by decide +kernel
theorem dX5_append_12 : decode cX5_append 12 = .ok (.getfield 9, 3) := by decide +kernel
theorem dX5_append_15 : decode cX5_append 15 = .ok (.arraylength, 1) := by decide +kernel
theorem dX5_append_16 : decode cX5_append 16 = .ok (.if_icmp .lt 5, 3) := by decide +kernel
theorem dX5_append_19 : decode cX5_append 19 = .ok (.iconst 0, 1) := by decide +kernel
theorem dX5_append_20 : decode cX5_append 20 = .ok (.ireturn, 1) := by decide +kernel
theorem dX5_append_21 : decode cX5_append 21 = .ok (.aload_n 0, 1) := by decide +kernel
theorem dX5_append_22 : decode cX5_append 22 = .ok (.getfield 9, 3) := by decide +kernel
theorem dX5_append_25 : decode cX5_append 25 = .ok (.aload_n 0, 1) := by decide +kernel
theorem dX5_append_26 : decode cX5_append 26 = .ok (.getfield 18, 3) := by decide +kernel
theorem dX5_append_29 : decode cX5_append 29 = .ok (.iload_n 1, 1) := by decide +kernel
theorem dX5_append_30 : decode cX5_append 30 = .ok (.iastore, 1) := by decide +kernel
theorem dX5_append_31 : decode cX5_append 31 = .ok (.aload_n 0, 1) := by decide +kernel
theorem dX5_append_32 : decode cX5_append 32 = .ok (.dup, 1) := by decide +kernel
theorem dX5_append_33 : decode cX5_append 33 = .ok (.getfield 18, 3) := by decide +kernel
theorem dX5_append_36 : decode cX5_append 36 = .ok (.iconst 1, 1) := by decide +kernel
theorem dX5_append_37 : decode cX5_append 37 = .ok (.iadd, 1) := by decide +kernel
theorem dX5_append_38 : decode cX5_append 38 = .ok (.putfield 18, 3) := by decide +kernel
theorem dX5_append_41 : decode cX5_append 41 = .ok (.iconst 1, 1) := by decide +kernel
theorem dX5_append_42 : decode cX5_append 42 = .ok (.ireturn, 1) := by decide +kernel
theorem dX5_clear_0 : decode cX5_clear 0 = .ok (.aload_n 0, 1) := by decide +kernel
theorem dX5_clear_1 : decode cX5_clear 1 = .ok (.iconst 0, 1) := by decide +kernel
theorem dX5_clear_2 : decode cX5_clear 2 = .ok (.putfield 18, 3) := by decide +kernel
theorem dX5_clear_5 : decode cX5_clear 5 = .ok (.return_, 1) := by decide +kernel
theorem dX5_readInto_0 : decode cX5_readInto 0 = .ok (.aload_n 1, 1) := by decide +kernel
theorem dX5_readInto_1 : decode cX5_readInto 1 = .ok (.invokevirtual 22, 3) := by decide +kernel
theorem dX5_readInto_4 : decode cX5_readInto 4 = .ok (.iconst 0, 1) := by decide +kernel
theorem dX5_readInto_5 : decode cX5_readInto 5 = .ok (.istore_n 2, 1) := by decide +kernel
theorem dX5_readInto_6 : decode cX5_readInto 6 = .ok (.iconst 0, 1) := by decide +kernel
theorem dX5_readInto_7 : decode cX5_readInto 7 = .ok (.istore_n 3, 1) := by decide +kernel
theorem dX5_readInto_8 : decode cX5_readInto 8 = .ok (.iload_n 3, 1) := by decide +kernel
theorem dX5_readInto_9 : decode cX5_readInto 9 = .ok (.sipush 200, 3) := by decide +kernel
theorem dX5_readInto_12 : decode cX5_readInto 12 = .ok (.if_icmp .ge 36, 3) := by decide +kernel
theorem dX5_readInto_15 : decode cX5_readInto 15 = .ok (.iload_n 2, 1) := by decide +kernel
theorem dX5_readInto_16 : decode cX5_readInto 16 = .ok (.aload_n 0, 1) := by decide +kernel
theorem dX5_readInto_17 : decode cX5_readInto 17 = .ok (.getfield 18, 3) := by decide +kernel
theorem dX5_readInto_20 : decode cX5_readInto 20 = .ok (.if_icmp .ge 28, 3) := by decide +kernel
theorem dX5_readInto_23 : decode cX5_readInto 23 = .ok (.aload_n 0, 1) := by decide +kernel
theorem dX5_readInto_24 : decode cX5_readInto 24 = .ok (.iload_n 2, 1) := by decide +kernel
theorem dX5_readInto_25 : decode cX5_readInto 25 = .ok (.aload_n 1, 1) := by decide +kernel
theorem dX5_readInto_26 : decode cX5_readInto 26 = .ok (.invokevirtual 27, 3) := by decide +kernel
theorem dX5_readInto_29 : decode cX5_readInto 29 = .ok (.istore 4, 2) := by decide +kernel
theorem dX5_readInto_31 : decode cX5_readInto 31 = .ok (.iload 4, 2) := by decide +kernel
theorem dX5_readInto_33 : decode cX5_readInto 33 = .ok (.iconst (-1), 1) := by decide +kernel
theorem dX5_readInto_34 : decode cX5_readInto 34 = .ok (.if_icmp .ne 5, 3) := by decide +kernel
theorem dX5_readInto_37 : decode cX5_readInto 37 = .ok (.iload_n 2, 1) := by decide +kernel
theorem dX5_readInto_38 : decode cX5_readInto 38 = .ok (.ireturn, 1) := by decide +kernel
theorem dX5_readInto_39 : decode cX5_readInto 39 = .ok (.iload 4, 2) := by decide +kernel
theorem dX5_readInto_41 : decode cX5_readInto 41 = .ok (.istore_n 2, 1) := by decide +kernel
theorem dX5_readInto_42 : decode cX5_readInto 42 = .ok (.iinc 3 1, 3) := by decide +kernel
theorem dX5_readInto_45 : decode cX5_readInto 45 = .ok (.goto (-37), 3) := by decide +kernel
theorem dX5_readInto_48 : decode cX5_readInto 48 = .ok (.bipush (-4), 2) := by decide +kernel
theorem dX5_readInto_50 : decode cX5_readInto 50 = .ok (.ireturn, 1) := by decide +kernel
theorem dX5_readItem_0 : decode cX5_readItem 0 = .ok (.aload_n 0, 1) := by decide +kernel
theorem dX5_readItem_1 : decode cX5_readItem 1 = .ok (.iload_n 1, 1) := by decide +kernel
theorem dX5_readItem_2 : decode cX5_readItem 2 = .ok (.invokevirtual 31, 3) := by decide +kernel
theorem dX5_readItem_5 : decode cX5_readItem 5 = .ok (.bipush 103, 2) := by decide +kernel
theorem dX5_readItem_7 : decode cX5_readItem 7 = .ok (.if_icmp .ne 39, 3) := by decide +kernel
theorem dX5_readItem_10 : decode cX5_readItem 10 = .ok (.aload_n 0, 1) := by decide +kernel
theorem dX5_readItem_11 : decode cX5_readItem 11 = .ok (.iload_n 1, 1) := by decide +kernel
theorem dX5_readItem_12 : decode cX5_readItem 12 = .ok (.iconst 1, 1) := by decide +kernel
theorem dX5_readItem_13 : decode cX5_readItem 13 = .ok (.iadd, 1) := by decide +kernel
theorem dX5_readItem_14 : decode cX5_readItem 14 = .ok (.getstatic 35, 3) := by decide +kernel
theorem dX5_readItem_17 : decode cX5_readItem 17 = .ok (.getstatic 38, 3) := by decide +kernel
theorem dX5_readItem_20 : decode cX5_readItem 20 = .ok (.invokevirtual 41, 3) := by decide +kernel
theorem dX5_readItem_23 : decode cX5_readItem 23 = .ok (.istore_n 3, 1) := by decide +kernel
theorem dX5_readItem_24 : decode cX5_readItem 24 = .ok (.iload_n 3, 1) := by decide +kernel
theorem dX5_readItem_25 : decode cX5_readItem 25 = .ok (.iconst (-1), 1) := by decide +kernel
theorem dX5_readItem_26 : decode cX5_readItem 26 = .ok (.if_icmp .eq 18, 3) := by decide +kernel
theorem dX5_readItem_29 : decode cX5_readItem 29 = .ok (.aload_n 2, 1) := by decide +kernel
theorem dX5_readItem_30 : decode cX5_readItem 30 = .ok (.aload_n 0, 1) := by decide +kernel
theorem dX5_readItem_31 : decode cX5_readItem 31 = .ok (.getfield 15, 3) := by decide +kernel
theorem dX5_readItem_34 : decode cX5_readItem 34 = .ok (.invokevirtual 45, 3) := by decide +kernel
theorem dX5_readItem_37 : decode cX5_readItem 37 = .ok (.ifCond .eq 7, 3) := by decide +kernel
theorem dX5_readItem_40 : decode cX5_readItem 40 = .ok (.iload_n 3, 1) := by decide +kernel
theorem dX5_readItem_41 : decode cX5_readItem 41 = .ok (.goto 4, 3) := by decide +kernel
theorem dX5_readItem_44 : decode cX5_readItem 44 = .ok (.iconst (-1), 1) := by decide +kernel
theorem dX5_readItem_45 : decode cX5_readItem 45 = .ok (.ireturn, 1) := by decide +kernel
theorem dX5_readItem_46 : decode cX5_readItem 46 = .ok (.aload_n 0, 1) := by decide +kernel
theorem dX5_readItem_47 : decode cX5_readItem 47 = .ok (.iload_n 1, 1) := by decide +kernel
theorem dX5_readItem_48 : decode cX5_readItem 48 = .ok (.invokevirtual 31, 3) := by decide +kernel
theorem dX5_readItem_51 : decode cX5_readItem 51 = .ok (.bipush 114, 2) := by decide +kernel
theorem dX5_readItem_53 : decode cX5_readItem 53 = .ok (.if_icmp .ne 41, 3) := by decide +kernel
theorem dX5_readItem_56 : decode cX5_readItem 56 = .ok (.aload_n 0, 1) := by decide +kernel
theorem dX5_readItem_57 : decode cX5_readItem 57 = .ok (.iload_n 1, 1) := by decide +kernel
theorem dX5_readItem_58 : decode cX5_readItem 58 = .ok (.iconst 1, 1) := by decide +kernel
theorem dX5_readItem_59 : decode cX5_readItem 59 = .ok (.iadd, 1) := by decide +kernel
theorem dX5_readItem_60 : decode cX5_readItem 60 = .ok (.getstatic 49, 3) := by decide +kernel
theorem dX5_readItem_63 : decode cX5_readItem 63 = .ok (.getstatic 52, 3) := by decide +kernel
theorem dX5_readItem_66 : decode cX5_readItem 66 = .ok (.invokevirtual 41, 3) := by decide +kernel
theorem dX5_readItem_69 : decode cX5_readItem 69 = .ok (.istore_n 3, 1) := by decide +kernel
theorem dX5_readItem_70 : decode cX5_readItem 70 = .ok (.iload_n 3, 1) := by decide +kernel
theorem dX5_readItem_71 : decode cX5_readItem 71 = .ok (.iconst (-1), 1) := by decide +kernel
theorem dX5_readItem_72 : decode cX5_readItem 72 = .ok (.if_icmp .eq 20, 3) := by decide +kernel
theorem dX5_readItem_75 : decode cX5_readItem 75 = .ok (.aload_n 2, 1) := by decide +kernel
theorem dX5_readItem_76 : decode cX5_readItem 76 = .ok (.aload_n 0, 1) := by decide +kernel
theorem dX5_readItem_77 : decode cX5_readItem 77 = .ok (.getfield 15, 3) := by decide +kernel
theorem dX5_readItem_80 : decode cX5_readItem 80 = .ok (.iconst 0, 1) := by decide +kernel
theorem dX5_readItem_81 : decode cX5_readItem 81 = .ok (.iaload, 1) := by decide +kernel
theorem dX5_readItem_82 : decode cX5_readItem 82 = .ok (.invokevirtual 55, 3) := by decide +kernel
theorem dX5_readItem_85 : decode cX5_readItem 85 = .ok (.ifCond .eq 7, 3) := by decide +kernel
theorem dX5_readItem_88 : decode cX5_readItem 88 = .ok (.iload_n 3, 1) := by decide +kernel
theorem dX5_readItem_89 : decode cX5_readItem 89 = .ok (.goto 4, 3) := by decide +kernel
theorem dX5_readItem_92 : decode cX5_readItem 92 = .ok (.iconst (-1), 1) := by decide +kernel
theorem dX5_readItem_93 : decode cX5_readItem 93 = .ok (.ireturn, 1) := by decide +kernel
theorem dX5_readItem_94 : decode cX5_readItem 94 = .ok (.iconst (-1), 1) := by decide +kernel
theorem dX5_readItem_95 : decode cX5_readItem 95 = .ok (.ireturn, 1) := by decide +kernel
theorem dX5_readNumbers_0 : decode cX5_readNumbers 0 = .ok (.aload_n 0, 1) := by decide +kernel
theorem dX5_readNumbers_1 : decode cX5_readNumbers 1 = .ok (.getfield 15, 3) := by decide +kernel
theorem dX5_readNumbers_4 : decode cX5_readNumbers 4 = .ok (.arraylength, 1) := by decide +kernel
theorem dX5_readNumbers_5 : decode cX5_readNumbers 5 = .ok (.aload_n 2, 1) := by decide +kernel
theorem dX5_readNumbers_6 : decode cX5_readNumbers 6 = .ok (.arraylength, 1) := by decide +kernel
theorem dX5_readNumbers_7 : decode cX5_readNumbers 7 = .ok (.aload_n 3, 1) := by decide +kernel
theorem dX5_readNumbers_8 : decode cX5_readNumbers 8 = .ok (.arraylength, 1) := by decide +kernel
theorem dX5_readNumbers_9 : decode cX5_readNumbers 9 = .ok (.invokestatic 59, 3) := by decide +kernel
theorem dX5_readNumbers_12 : decode cX5_readNumbers 12 = .ok (.invokestatic 59, 3) := by decide +kernel
theorem dX5_readNumbers_15 : decode cX5_readNumbers 15 = .ok (.istore 4, 2) := by decide +kernel
theorem dX5_readNumbers_17 : decode cX5_readNumbers 17 = .ok (.iload_n 1, 1) := by decide +kernel
theorem dX5_readNumbers_18 : decode cX5_readNumbers 18 = .ok (.istore 5, 2) := by decide +kernel
theorem dX5_readNumbers_20 : decode cX5_readNumbers 20 = .ok (.iconst 0, 1) := by decide +kernel
theorem dX5_readNumbers_21 : decode cX5_readNumbers 21 = .ok (.istore 6, 2) := by decide +kernel
theorem dX5_readNumbers_23 : decode cX5_readNumbers 23 = .ok (.iload 6, 2) := by decide +kernel
theorem dX5_readNumbers_25 : decode cX5_readNumbers 25 = .ok (.iload 4, 2) := by decide +kernel
theorem dX5_readNumbers_27 : decode cX5_readNumbers 27 = .ok (.if_icmp .ge 130, 3) := by decide +kernel
theorem dX5_readNumbers_30 : decode cX5_readNumbers 30 = .ok (.iconst 0, 1) := by decide +kernel
theorem dX5_readNumbers_31 : decode cX5_readNumbers 31 = .ok (.istore 7, 2) := by decide +kernel
theorem dX5_readNumbers_33 : decode cX5_readNumbers 33 = .ok (.iconst 0, 1) := by decide +kernel
theorem dX5_readNumbers_34 : decode cX5_readNumbers 34 = .ok (.istore 8, 2) := by decide +kernel
theorem dX5_readNumbers_36 : decode cX5_readNumbers 36 = .ok (.iload 7, 2) := by decide +kernel
theorem dX5_readNumbers_38 : decode cX5_readNumbers 38 = .ok (.iconst 2, 1) := by decide +kernel
theorem dX5_readNumbers_39 : decode cX5_readNumbers 39 = .ok (.if_icmp .ge 41, 3) := by decide +kernel
theorem dX5_readNumbers_42 : decode cX5_readNumbers 42 = .ok (.aload_n 0, 1) := by decide +kernel
theorem dX5_readNumbers_43 : decode cX5_readNumbers 43 = .ok (.iload 5, 2) := by decide +kernel
theorem dX5_readNumbers_45 : decode cX5_readNumbers 45 = .ok (.iload 7, 2) := by decide +kernel
theorem dX5_readNumbers_47 : decode cX5_readNumbers 47 = .ok (.iadd, 1) := by decide +kernel
theorem dX5_readNumbers_48 : decode cX5_readNumbers 48 = .ok (.invokevirtual 65, 3) := by decide +kernel
theorem dX5_readNumbers_51 : decode cX5_readNumbers 51 = .ok (.ifCond .eq 29, 3) := by decide +kernel
theorem dX5_readNumbers_54 : decode cX5_readNumbers 54 = .ok (.iload 8, 2) := by decide +kernel
theorem dX5_readNumbers_56 : decode cX5_readNumbers 56 = .ok (.bipush 10, 2) := by decide +kernel
theorem dX5_readNumbers_58 : decode cX5_readNumbers 58 = .ok (.imul, 1) := by decide +kernel
theorem dX5_readNumbers_59 : decode cX5_readNumbers 59 = .ok (.aload_n 0, 1) := by decide +kernel
theorem dX5_readNumbers_60 : decode cX5_readNumbers 60 = .ok (.iload 5, 2) := by decide +kernel
theorem dX5_readNumbers_62 : decode cX5_readNumbers 62 = .ok (.iload 7, 2) := by decide +kernel
theorem dX5_readNumbers_64 : decode cX5_readNumbers 64 = .ok (.iadd, 1) := by decide +kernel
theorem dX5_readNumbers_65 : decode cX5_readNumbers 65 = .ok (.invokevirtual 31, 3) := by decide +kernel
theorem dX5_readNumbers_68 : decode cX5_readNumbers 68 = .ok (.iadd, 1) := by decide +kernel
theorem dX5_readNumbers_69 : decode cX5_readNumbers 69 = .ok (.bipush 48, 2) := by decide +kernel
theorem dX5_readNumbers_71 : decode cX5_readNumbers 71 = .ok (.isub, 1) := by decide +kernel
theorem dX5_readNumbers_72 : decode cX5_readNumbers 72 = .ok (.istore 8, 2) := by decide +kernel
theorem dX5_readNumbers_74 : decode cX5_readNumbers 74 = .ok (.iinc 7 1, 3) := by decide +kernel
theorem dX5_readNumbers_77 : decode cX5_readNumbers 77 = .ok (.goto (-41), 3) := by decide +kernel
theorem dX5_readNumbers_80 : decode cX5_readNumbers 80 = .ok (.iload 7, 2) := by decide +kernel
theorem dX5_readNumbers_82 : decode cX5_readNumbers 82 = .ok (.ifCond .eq 21, 3) := by decide +kernel
theorem dX5_readNumbers_85 : decode cX5_readNumbers 85 = .ok (.iload 8, 2) := by decide +kernel
theorem dX5_readNumbers_87 : decode cX5_readNumbers 87 = .ok (.aload_n 2, 1) := by decide +kernel
theorem dX5_readNumbers_88 : decode cX5_readNumbers 88 = .ok (.iload 6, 2) := by decide +kernel
theorem dX5_readNumbers_90 : decode cX5_readNumbers 90 = .ok (.iaload, 1) := by decide +kernel
theorem dX5_readNumbers_91 : decode cX5_readNumbers 91 = .ok (.if_icmp .lt 12, 3) := by decide +kernel
theorem dX5_readNumbers_94 : decode cX5_readNumbers 94 = .ok (.iload 8, 2) := by decide +kernel
theorem dX5_readNumbers_96 : decode cX5_readNumbers 96 = .ok (.aload_n 3, 1) := by decide +kernel
theorem dX5_readNumbers_97 : decode cX5_readNumbers 97 = .ok (.iload 6, 2) := by decide +kernel
theorem dX5_readNumbers_99 : decode cX5_readNumbers 99 = .ok (.iaload, 1) := by decide +kernel
theorem dX5_readNumbers_100 : decode cX5_readNumbers 100 = .ok (.if_icmp .le 5, 3) := by decide +kernel
theorem dX5_readNumbers_103 : decode cX5_readNumbers 103 = .ok (.iconst (-1), 1) := by decide +kernel
theorem dX5_readNumbers_104 : decode cX5_readNumbers 104 = .ok (.ireturn, 1) := by decide +kernel
theorem dX5_readNumbers_105 : decode cX5_readNumbers 105 = .ok (.iload 5, 2) := by decide +kernel
theorem dX5_readNumbers_107 : decode cX5_readNumbers 107 = .ok (.iload 7, 2) := by decide +kernel
theorem dX5_readNumbers_109 : decode cX5_readNumbers 109 = .ok (.iadd, 1) := by decide +kernel
theorem dX5_readNumbers_110 : decode cX5_readNumbers 110 = .ok (.istore 5, 2) := by decide +kernel
theorem dX5_readNumbers_112 : decode cX5_readNumbers 112 = .ok (.aload_n 0, 1) := by decide +kernel
theorem dX5_readNumbers_113 : decode cX5_readNumbers 113 = .ok (.iload 5, 2) := by decide +kernel
theorem dX5_readNumbers_115 : decode cX5_readNumbers 115 = .ok (.invokevirtual 31, 3) := by decide +kernel
theorem dX5_readNumbers_118 : decode cX5_readNumbers 118 = .ok (.iload 6, 2) := by decide +kernel
theorem dX5_readNumbers_120 : decode cX5_readNumbers 120 = .ok (.iconst 1, 1) := by decide +kernel
theorem dX5_readNumbers_121 : decode cX5_readNumbers 121 = .ok (.iadd, 1) := by decide +kernel
theorem dX5_readNumbers_122 : decode cX5_readNumbers 122 = .ok (.iload 4, 2) := by decide +kernel
theorem dX5_readNumbers_124 : decode cX5_readNumbers 124 = .ok (.if_icmp .ge 8, 3) := by decide +kernel
theorem dX5_readNumbers_127 : decode cX5_readNumbers 127 = .ok (.bipush 44, 2) := by decide +kernel
theorem dX5_readNumbers_129 : decode cX5_readNumbers 129 = .ok (.goto 5, 3) := by decide +kernel
theorem dX5_readNumbers_132 : decode cX5_readNumbers 132 = .ok (.bipush 59, 2) := by decide +kernel
theorem dX5_readNumbers_134 : decode cX5_readNumbers 134 = .ok (.if_icmp .eq 5, 3) := by decide +kernel
theorem dX5_readNumbers_137 : decode cX5_readNumbers 137 = .ok (.iconst (-1), 1) := by decide +kernel
theorem dX5_readNumbers_138 : decode cX5_readNumbers 138 = .ok (.ireturn, 1) := by decide +kernel
theorem dX5_readNumbers_139 : decode cX5_readNumbers 139 = .ok (.iinc 5 1, 3) := by decide +kernel
theorem dX5_readNumbers_142 : decode cX5_readNumbers 142 = .ok (.aload_n 0, 1) := by decide +kernel
theorem dX5_readNumbers_143 : decode cX5_readNumbers 143 = .ok (.getfield 15, 3) := by decide +kernel
theorem dX5_readNumbers_146 : decode cX5_readNumbers 146 = .ok (.iload 6, 2) := by decide +kernel
theorem dX5_readNumbers_148 : decode cX5_readNumbers 148 = .ok (.iload 8, 2) := by decide +kernel
theorem dX5_readNumbers_150 : decode cX5_readNumbers 150 = .ok (.iastore, 1) := by decide +kernel
theorem dX5_readNumbers_151 : decode cX5_readNumbers 151 = .ok (.iinc 6 1, 3) := by decide +kernel
theorem dX5_readNumbers_154 : decode cX5_readNumbers 154 = .ok (.goto (-131), 3) := by decide +kernel
theorem dX5_readNumbers_157 : decode cX5_readNumbers 157 = .ok (.iload 5, 2) := by decide +kernel
theorem dX5_readNumbers_159 : decode cX5_readNumbers 159 = .ok (.ireturn, 1) := by decide +kernel
theorem dX5_isFigure_0 : decode cX5_isFigure 0 = .ok (.aload_n 0, 1) := by decide +kernel
theorem dX5_isFigure_1 : decode cX5_isFigure 1 = .ok (.iload_n 1, 1) := by decide +kernel
theorem dX5_isFigure_2 : decode cX5_isFigure 2 = .ok (.invokevirtual 31, 3) := by decide +kernel
theorem dX5_isFigure_5 : decode cX5_isFigure 5 = .ok (.bipush 48, 2) := by decide +kernel
theorem dX5_isFigure_7 : decode cX5_isFigure 7 = .ok (.if_icmp .lt 17, 3) := by decide +kernel
theorem dX5_isFigure_10 : decode cX5_isFigure 10 = .ok (.aload_n 0, 1) := by decide +kernel
theorem dX5_isFigure_11 : decode cX5_isFigure 11 = .ok (.iload_n 1, 1) := by decide +kernel
theorem dX5_isFigure_12 : decode cX5_isFigure 12 = .ok (.invokevirtual 31, 3) := by decide +kernel
theorem dX5_isFigure_15 : decode cX5_isFigure 15 = .ok (.bipush 57, 2) := by decide +kernel
theorem dX5_isFigure_17 : decode cX5_isFigure 17 = .ok (.if_icmp .gt 7, 3) := by decide +kernel
theorem dX5_isFigure_20 : decode cX5_isFigure 20 = .ok (.iconst 1, 1) := by decide +kernel
theorem dX5_isFigure_21 : decode cX5_isFigure 21 = .ok (.goto 4, 3) := by decide +kernel
theorem dX5_isFigure_24 : decode cX5_isFigure 24 = .ok (.iconst 0, 1) := by decide +kernel
theorem dX5_isFigure_25 : decode cX5_isFigure 25 = .ok (.ireturn, 1) := by decide +kernel
theorem dX5_letterAt_0 : decode cX5_letterAt 0 = .ok (.iload_n 1, 1) := by decide +kernel
theorem dX5_letterAt_1 : decode cX5_letterAt 1 = .ok (.ifCond .lt 29, 3) := by decide +kernel
theorem dX5_letterAt_4 : decode cX5_letterAt 4 = .ok (.iload_n 1, 1) := by decide +kernel
theorem dX5_letterAt_5 : decode cX5_letterAt 5 = .ok (.aload_n 0, 1) := by decide +kernel
theorem dX5_letterAt_6 : decode cX5_letterAt 6 = .ok (.getfield 18, 3) := by decide +kernel
theorem dX5_letterAt_9 : decode cX5_letterAt 9 = .ok (.if_icmp .ge 21, 3) := by decide +kernel
theorem dX5_letterAt_12 : decode cX5_letterAt 12 = .ok (.iload_n 1, 1) := by decide +kernel
theorem dX5_letterAt_13 : decode cX5_letterAt 13 = .ok (.aload_n 0, 1) := by decide +kernel
theorem dX5_letterAt_14 : decode cX5_letterAt 14 = .ok (.getfield 9, 3) := by decide +kernel
theorem dX5_letterAt_17 : decode cX5_letterAt 17 = .ok (.arraylength, 1) := by decide +kernel
theorem dX5_letterAt_18 : decode cX5_letterAt 18 = .ok (.if_icmp .ge 12, 3) := by decide +kernel
theorem dX5_letterAt_21 : decode cX5_letterAt 21 = .ok (.aload_n 0, 1) := by decide +kernel
theorem dX5_letterAt_22 : decode cX5_letterAt 22 = .ok (.getfield 9, 3) := by decide +kernel
theorem dX5_letterAt_25 : decode cX5_letterAt 25 = .ok (.iload_n 1, 1) := by decide +kernel
theorem dX5_letterAt_26 : decode cX5_letterAt 26 = .ok (.iaload, 1) := by decide +kernel
theorem dX5_letterAt_27 : decode cX5_letterAt 27 = .ok (.goto 4, 3) := by decide +kernel
theorem dX5_letterAt_30 : decode cX5_letterAt 30 = .ok (.iconst 0, 1) := by decide +kernel
theorem dX5_letterAt_31 : decode cX5_letterAt 31 = .ok (.ireturn, 1) := by decide +kernel
theorem dX6_init_0 : decode cX6_init 0 = .ok (.aload_n 0, 1) := by decide +kernel
theorem dX6_init_1 : decode cX6_init 1 = .ok (.invokespecial 1, 3) := by decide +kernel
theorem dX6_init_4 : decode cX6_init 4 = .ok (.aload_n 0, 1) := by decide +kernel
theorem dX6_init_5 : decode cX6_init 5 = .ok (.iconst 0, 1) := by decide +kernel
theorem dX6_init_6 : decode cX6_init 6 = .ok (.putfield 7, 3) := by decide +kernel
theorem dX6_init_9 : decode cX6_init 9 = .ok (.aload_n 0, 1) := by decide +kernel
theorem dX6_init_10 : decode cX6_init 10 = .ok (.iconst 1, 1) := by decide +kernel
theorem dX6_init_11 : decode cX6_init 11 = .ok (.iload_n 2, 1) := by decide +kernel
theorem dX6_init_12 : decode cX6_init 12 = .ok (.invokestatic 13, 3) := by decide +kernel
theorem dX6_init_15 : decode cX6_init 15 = .ok (.anewarray 19, 3) := by decide +kernel
theorem dX6_init_18 : decode cX6_init 18 = .ok (.putfield 21, 3) := by decide +kernel
theorem dX6_init_21 : decode cX6_init 21 = .ok (.iconst 0, 1) := by decide +kernel
theorem dX6_init_22 : decode cX6_init 22 = .ok (.istore_n 3, 1) := by decide +kernel
theorem dX6_init_23 : decode cX6_init 23 = .ok (.iload_n 3, 1) := by decide +kernel
theorem dX6_init_24 : decode cX6_init 24 = .ok (.aload_n 0, 1) := by decide +kernel
theorem dX6_init_25 : decode cX6_init 25 = .ok (.getfield 21, 3) := by decide +kernel
theorem dX6_init_28 : decode cX6_init 28 = .ok (.arraylength, 1) := by decide +kernel
theorem dX6_init_29 : decode cX6_init 29 = .ok (.if_icmp .ge 23, 3) := by decide +kernel
theorem dX6_init_32 : decode cX6_init 32 = .ok (.aload_n 0, 1) := by decide +kernel
theorem dX6_init_33 : decode cX6_init 33 = .ok (.getfield 21, 3) := by decide +kernel
theorem dX6_init_36 : decode cX6_init 36 = .ok (.iload_n 3, 1) := by decide +kernel
theorem dX6_init_37 : decode cX6_init 37 = .ok (.new 19, 3) := by decide +kernel
theorem dX6_init_40 : decode cX6_init 40 = .ok (.dup, 1) := by decide +kernel
theorem dX6_init_41 : decode cX6_init 41 = .ok (.aload_n 1, 1) := by decide +kernel
theorem dX6_init_42 : decode cX6_init 42 = .ok (.invokespecial 25, 3) := by decide +kernel
theorem dX6_init_45 : decode cX6_init 45 = .ok (.aastore, 1) := by decide +kernel
theorem dX6_init_46 : decode cX6_init 46 = .ok (.iinc 3 1, 3) := by decide +kernel
theorem dX6_init_49 : decode cX6_init 49 = .ok (.goto (-26), 3) := by decide +kernel
theorem dX6_init_52 : decode cX6_init 52 = .ok (.return_, 1) := by decide +kernel
theorem dX6_isFull_0 : decode cX6_isFull 0 = .ok (.aload_n 0, 1) := by decide +kernel
theorem dX6_isFull_1 : decode cX6_isFull 1 = .ok (.getfield 7, 3) := by decide +kernel
theorem dX6_isFull_4 : decode cX6_isFull 4 = .ok (.aload_n 0, 1) := by decide +kernel
theorem dX6_isFull_5 : decode cX6_isFull 5 = .ok (.getfield 21, 3) := by decide +kernel
theorem dX6_isFull_8 : decode cX6_isFull 8 = .ok (.arraylength, 1) := by decide +kernel
theorem dX6_isFull_9 : decode cX6_isFull 9 = .ok (.if_icmp .lt 7, 3) := by decide +kernel
theorem dX6_isFull_12 : decode cX6_isFull 12 = .ok (.iconst 1, 1) := by decide +kernel
theorem dX6_isFull_13 : decode cX6_isFull 13 = .ok (.goto 4, 3) := by decide +kernel
theorem dX6_isFull_16 : decode cX6_isFull 16 = .ok (.iconst 0, 1) := by decide +kernel
theorem dX6_isFull_17 : decode cX6_isFull 17 = .ok (.ireturn, 1) := by decide +kernel
theorem dX6_clear_0 : decode cX6_clear 0 = .ok (.aload_n 0, 1) := by decide +kernel
theorem dX6_clear_1 : decode cX6_clear 1 = .ok (.iconst 0, 1) := by decide +kernel
theorem dX6_clear_2 : decode cX6_clear 2 = .ok (.putfield 7, 3) := by decide +kernel
theorem dX6_clear_5 : decode cX6_clear 5 = .ok (.return_, 1) := by decide +kernel
theorem dX6_put_0 : decode cX6_put 0 = .ok (.aload_n 0, 1) := by decide +kernel
theorem dX6_put_1 : decode cX6_put 1 = .ok (.invokevirtual 28, 3) := by decide +kernel
theorem dX6_put_4 : decode cX6_put 4 = .ok (.ifCond .eq 7, 3) := by decide +kernel
theorem dX6_put_7 : decode cX6_put 7 = .ok (.aload_n 0, 1) := by decide +kernel
theorem dX6_put_8 : decode cX6_put 8 = .ok (.invokevirtual 32, 3) := by decide +kernel
theorem dX6_put_11 : decode cX6_put 11 = .ok (.aload_n 0, 1) := by decide +kernel
theorem dX6_put_12 : decode cX6_put 12 = .ok (.getfield 7, 3) := by decide +kernel
theorem dX6_put_15 : decode cX6_put 15 = .ok (.ifCond .lt 15, 3) := by decide +kernel
theorem dX6_put_18 : decode cX6_put 18 = .ok (.aload_n 0, 1) := by decide +kernel
theorem dX6_put_19 : decode cX6_put 19 = .ok (.getfield 7, 3) := by decide +kernel
theorem dX6_put_22 : decode cX6_put 22 = .ok (.aload_n 0, 1) := by decide +kernel
theorem dX6_put_23 : decode cX6_put 23 = .ok (.getfield 21, 3) := by decide +kernel
theorem dX6_put_26 : decode cX6_put 26 = .ok (.arraylength, 1) := by decide +kernel
theorem dX6_put_27 : decode cX6_put 27 = .ok (.if_icmp .lt 4, 3) := by decide +kernel
theorem dX6_put_30 : decode cX6_put 30 = .ok (.return_, 1) := by decide +kernel
theorem dX6_put_31 : decode cX6_put 31 = .ok (.aload_n 0, 1) := by decide +kernel
theorem dX6_put_32 : decode cX6_put 32 = .ok (.getfield 21, 3) := by decide +kernel
theorem dX6_put_35 : decode cX6_put 35 = .ok (.aload_n 0, 1) := by decide +kernel
theorem dX6_put_36 : decode cX6_put 36 = .ok (.getfield 7, 3) := by decide +kernel
theorem dX6_put_39 : decode cX6_put 39 = .ok (.aaload, 1) := by decide +kernel
theorem dX6_put_40 : decode cX6_put 40 = .ok (.astore_n 2, 1) := by decide +kernel
theorem dX6_put_41 : decode cX6_put 41 = .ok (.aload_n 2, 1) := by decide +kernel
theorem dX6_put_42 : decode cX6_put 42 = .ok (.ifnull 18, 3) := by decide +kernel
theorem dX6_put_45 : decode cX6_put 45 = .ok (.aload_n 2, 1) := by decide +kernel
theorem dX6_put_46 : decode cX6_put 46 = .ok (.aload_n 1, 1) := by decide +kernel
theorem dX6_put_47 : decode cX6_put 47 = .ok (.invokevirtual 35, 3) := by decide +kernel
theorem dX6_put_50 : decode cX6_put 50 = .ok (.aload_n 0, 1) := by decide +kernel
theorem dX6_put_51 : decode cX6_put 51 = .ok (.dup, 1) := by decide +kernel
theorem dX6_put_52 : decode cX6_put 52 = .ok (.getfield 7, 3) := by decide +kernel
theorem dX6_put_55 : decode cX6_put 55 = .ok (.iconst 1, 1) := by decide +kernel
theorem dX6_put_56 : decode cX6_put 56 = .ok (.iadd, 1) := by decide +kernel
theorem dX6_put_57 : decode cX6_put 57 = .ok (.putfield 7, 3) := by decide +kernel
theorem dX6_put_60 : decode cX6_put 60 = .ok (.return_, 1) := by decide +kernel
theorem dX6_dropOldest_0 : decode cX6_dropOldest 0 = .ok (.aload_n 0, 1) := by decide +kernel
theorem dX6_dropOldest_1 : decode cX6_dropOldest 1 = .ok (.getfield 21, 3) := by decide +kernel
theorem dX6_dropOldest_4 : decode cX6_dropOldest 4 = .ok (.arraylength, 1) := by decide +kernel
theorem dX6_dropOldest_5 : decode cX6_dropOldest 5 = .ok (.iconst 1, 1) := by decide +kernel
theorem dX6_dropOldest_6 : decode cX6_dropOldest 6 = .ok (.isub, 1) := by decide +kernel
theorem dX6_dropOldest_7 : decode cX6_dropOldest 7 = .ok (.istore_n 1, 1) := by decide +kernel
theorem dX6_dropOldest_8 : decode cX6_dropOldest 8 = .ok (.iload_n 1, 1) := by decide +kernel
theorem dX6_dropOldest_9 : decode cX6_dropOldest 9 = .ok (.ifCond .ge 4, 3) := by decide +kernel
theorem dX6_dropOldest_12 : decode cX6_dropOldest 12 = .ok (.return_, 1) := by decide +kernel
theorem dX6_dropOldest_13 : decode cX6_dropOldest 13 = .ok (.aload_n 0, 1) := by decide +kernel
theorem dX6_dropOldest_14 : decode cX6_dropOldest 14 = .ok (.getfield 21, 3) := by decide +kernel
theorem dX6_dropOldest_17 : decode cX6_dropOldest 17 = .ok (.iconst 0, 1) := by decide +kernel
theorem dX6_dropOldest_18 : decode cX6_dropOldest 18 = .ok (.aaload, 1) := by decide +kernel
theorem dX6_dropOldest_19 : decode cX6_dropOldest 19 = .ok (.astore_n 2, 1) := by decide +kernel
theorem dX6_dropOldest_20 : decode cX6_dropOldest 20 = .ok (.iconst 0, 1) := by decide +kernel
theorem dX6_dropOldest_21 : decode cX6_dropOldest 21 = .ok (.istore_n 3, 1) := by decide +kernel
theorem dX6_dropOldest_22 : decode cX6_dropOldest 22 = .ok (.iload_n 3, 1) := by decide +kernel
theorem dX6_dropOldest_23 : decode cX6_dropOldest 23 = .ok (.iload_n 1, 1) := by decide +kernel
theorem dX6_dropOldest_24 : decode cX6_dropOldest 24 = .ok (.if_icmp .ge 23, 3) := by decide +kernel
theorem dX6_dropOldest_27 : decode cX6_dropOldest 27 = .ok (.aload_n 0, 1) := by decide +kernel
theorem dX6_dropOldest_28 : decode cX6_dropOldest 28 = .ok (.getfield 21, 3) := by decide +kernel
theorem dX6_dropOldest_31 : decode cX6_dropOldest 31 = .ok (.iload_n 3, 1) := by decide +kernel
theorem dX6_dropOldest_32 : decode cX6_dropOldest 32 = .ok (.aload_n 0, 1) := by decide +kernel
theorem dX6_dropOldest_33 : decode cX6_dropOldest 33 = .ok (.getfield 21, 3) := by decide +kernel
theorem dX6_dropOldest_36 : decode cX6_dropOldest 36 = .ok (.iload_n 3, 1) := by decide +kernel
theorem dX6_dropOldest_37 : decode cX6_dropOldest 37 = .ok (.iconst 1, 1) := by decide +kernel
theorem dX6_dropOldest_38 : decode cX6_dropOldest 38 = .ok (.iadd, 1) := by decide +kernel
theorem dX6_dropOldest_39 : decode cX6_dropOldest 39 = .ok (.aaload, 1) := by decide +kernel
theorem dX6_dropOldest_40 : decode cX6_dropOldest 40 = .ok (.aastore, 1) := by decide +kernel
theorem dX6_dropOldest_41 : decode cX6_dropOldest 41 = .ok (.iinc 3 1, 3) := by decide +kernel
theorem dX6_dropOldest_44 : decode cX6_dropOldest 44 = .ok (.goto (-22), 3) := by decide +kernel
theorem dX6_dropOldest_47 : decode cX6_dropOldest 47 = .ok (.aload_n 0, 1) := by decide +kernel
theorem dX6_dropOldest_48 : decode cX6_dropOldest 48 = .ok (.getfield 21, 3) := by decide +kernel
theorem dX6_dropOldest_51 : decode cX6_dropOldest 51 = .ok (.iload_n 1, 1) := by decide +kernel
theorem dX6_dropOldest_52 : decode cX6_dropOldest 52 = .ok (.aload_n 2, 1) := by decide +kernel
theorem dX6_dropOldest_53 : decode cX6_dropOldest 53 = .ok (.aastore, 1) := by decide +kernel
theorem dX6_dropOldest_54 : decode cX6_dropOldest 54 = .ok (.aload_n 0, 1) := by decide +kernel
theorem dX6_dropOldest_55 : decode cX6_dropOldest 55 = .ok (.iload_n 1, 1) := by decide +kernel
theorem dX6_dropOldest_56 : decode cX6_dropOldest 56 = .ok (.putfield 7, 3) := by decide +kernel
theorem dX6_dropOldest_59 : decode cX6_dropOldest 59 = .ok (.return_, 1) := by decide +kernel
theorem dX6_takeInto_0 : decode cX6_takeInto 0 = .ok (.aload_n 0, 1) := by decide +kernel
theorem dX6_takeInto_1 : decode cX6_takeInto 1 = .ok (.getfield 7, 3) := by decide +kernel
theorem dX6_takeInto_4 : decode cX6_takeInto 4 = .ok (.iconst 1, 1) := by decide +kernel
theorem dX6_takeInto_5 : decode cX6_takeInto 5 = .ok (.if_icmp .lt 15, 3) := by decide +kernel
theorem dX6_takeInto_8 : decode cX6_takeInto 8 = .ok (.aload_n 0, 1) := by decide +kernel
theorem dX6_takeInto_9 : decode cX6_takeInto 9 = .ok (.getfield 7, 3) := by decide +kernel
theorem dX6_takeInto_12 : decode cX6_takeInto 12 = .ok (.aload_n 0, 1) := by decide +kernel
theorem dX6_takeInto_13 : decode cX6_takeInto 13 = .ok (.getfield 21, 3) := by decide +kernel
theorem dX6_takeInto_16 : decode cX6_takeInto 16 = .ok (.arraylength, 1) := by decide +kernel
theorem dX6_takeInto_17 : decode cX6_takeInto 17 = .ok (.if_icmp .le 5, 3) := by decide +kernel
theorem dX6_takeInto_20 : decode cX6_takeInto 20 = .ok (.iconst 0, 1) := by decide +kernel
theorem dX6_takeInto_21 : decode cX6_takeInto 21 = .ok (.ireturn, 1) := by decide +kernel
theorem dX6_takeInto_22 : decode cX6_takeInto 22 = .ok (.aload_n 0, 1) := by decide +kernel
theorem dX6_takeInto_23 : decode cX6_takeInto 23 = .ok (.getfield 21, 3) := by decide +kernel
theorem dX6_takeInto_26 : decode cX6_takeInto 26 = .ok (.aload_n 0, 1) := by decide +kernel
theorem dX6_takeInto_27 : decode cX6_takeInto 27 = .ok (.getfield 7, 3) := by decide +kernel
theorem dX6_takeInto_30 : decode cX6_takeInto 30 = .ok (.iconst 1, 1) := by decide +kernel
theorem dX6_takeInto_31 : decode cX6_takeInto 31 = .ok (.isub, 1) := by decide +kernel
theorem dX6_takeInto_32 : decode cX6_takeInto 32 = .ok (.aaload, 1) := by decide +kernel
theorem dX6_takeInto_33 : decode cX6_takeInto 33 = .ok (.astore_n 2, 1) := by decide +kernel
theorem dX6_takeInto_34 : decode cX6_takeInto 34 = .ok (.aload_n 2, 1) := by decide +kernel
theorem dX6_takeInto_35 : decode cX6_takeInto 35 = .ok (.ifnonnull 5, 3) := by decide +kernel
theorem dX6_takeInto_38 : decode cX6_takeInto 38 = .ok (.iconst 0, 1) := by decide +kernel
theorem dX6_takeInto_39 : decode cX6_takeInto 39 = .ok (.ireturn, 1) := by decide +kernel
theorem dX6_takeInto_40 : decode cX6_takeInto 40 = .ok (.aload_n 1, 1) := by decide +kernel
theorem dX6_takeInto_41 : decode cX6_takeInto 41 = .ok (.aload_n 2, 1) := by decide +kernel
theorem dX6_takeInto_42 : decode cX6_takeInto 42 = .ok (.invokevirtual 35, 3) := by decide +kernel
theorem dX6_takeInto_45 : decode cX6_takeInto 45 = .ok (.aload_n 0, 1) := by decide +kernel
theorem dX6_takeInto_46 : decode cX6_takeInto 46 = .ok (.dup, 1) := by decide +kernel
theorem dX6_takeInto_47 : decode cX6_takeInto 47 = .ok (.getfield 7, 3) := by decide +kernel
theorem dX6_takeInto_50 : decode cX6_takeInto 50 = .ok (.iconst 1, 1) := by decide +kernel
theorem dX6_takeInto_51 : decode cX6_takeInto 51 = .ok (.isub, 1) := by decide +kernel
theorem dX6_takeInto_52 : decode cX6_takeInto 52 = .ok (.putfield 7, 3) := by decide +kernel
theorem dX6_takeInto_55 : decode cX6_takeInto 55 = .ok (.iconst 1, 1) := by decide +kernel
theorem dX6_takeInto_56 : decode cX6_takeInto 56 = .ok (.ireturn, 1) := by decide +kernel
theorem dX7_init_0 : decode cX7_init 0 = .ok (.aload_n 0, 1) := by decide +kernel
theorem dX7_init_1 : decode cX7_init 1 = .ok (.invokespecial 3, 3) := by decide +kernel
theorem dX7_init_4 : decode cX7_init 4 = .ok (.aload_n 0, 1) := by decide +kernel
theorem dX7_init_5 : decode cX7_init 5 = .ok (.bipush 7, 2) := by decide +kernel
theorem dX7_init_7 : decode cX7_init 7 = .ok (.newarray .int, 2) := by decide +kernel
theorem dX7_init_9 : decode cX7_init 9 = .ok (.putfield 9, 3) := by decide +kernel
theorem dX7_init_12 : decode cX7_init 12 = .ok (.aload_n 0, 1) := by decide +kernel
theorem dX7_init_13 : decode cX7_init 13 = .ok (.bipush 7, 2) := by decide +kernel
theorem dX7_init_15 : decode cX7_init 15 = .ok (.newarray .int, 2) := by decide +kernel
theorem dX7_init_17 : decode cX7_init 17 = .ok (.putfield 15, 3) := by decide +kernel
theorem dX7_init_20 : decode cX7_init 20 = .ok (.aload_n 0, 1) := by decide +kernel
theorem dX7_init_21 : decode cX7_init 21 = .ok (.bipush 7, 2) := by decide +kernel
theorem dX7_init_23 : decode cX7_init 23 = .ok (.newarray .int, 2) := by decide +kernel
theorem dX7_init_25 : decode cX7_init 25 = .ok (.putfield 18, 3) := by decide +kernel
theorem dX7_init_28 : decode cX7_init 28 = .ok (.aload_n 0, 1) := by decide +kernel
theorem dX7_init_29 : decode cX7_init 29 = .ok (.bipush 7, 2) := by decide +kernel
theorem dX7_init_31 : decode cX7_init 31 = .ok (.newarray .int, 2) := by decide +kernel
theorem dX7_init_33 : decode cX7_init 33 = .ok (.putfield 21, 3) := by decide +kernel
theorem dX7_init_36 : decode cX7_init 36 = .ok (.aload_n 0, 1) := by decide +kernel
theorem dX7_init_37 : decode cX7_init 37 = .ok (.bipush 7, 2) := by decide +kernel
theorem dX7_init_39 : decode cX7_init 39 = .ok (.newarray .int, 2) := by decide +kernel
theorem dX7_init_41 : decode cX7_init 41 = .ok (.putfield 24, 3) := by decide +kernel
theorem dX7_init_44 : decode cX7_init 44 = .ok (.aload_n 0, 1) := by decide +kernel
theorem dX7_init_45 : decode cX7_init 45 = .ok (.iconst 0, 1) := by decide +kernel
theorem dX7_init_46 : decode cX7_init 46 = .ok (.putfield 27, 3) := by decide +kernel
theorem dX7_init_49 : decode cX7_init 49 = .ok (.aload_n 0, 1) := by decide +kernel
theorem dX7_init_50 : decode cX7_init 50 = .ok (.iconst 0, 1) := by decide +kernel
theorem dX7_init_51 : decode cX7_init 51 = .ok (.putfield 31, 3) := by decide +kernel
theorem dX7_init_54 : decode cX7_init 54 = .ok (.aload_n 0, 1) := by decide +kernel
theorem dX7_init_55 : decode cX7_init 55 = .ok (.iconst 1, 1) := by decide +kernel
theorem dX7_init_56 : decode cX7_init 56 = .ok (.putfield 34, 3) := by decide +kernel
theorem dX7_init_59 : decode cX7_init 59 = .ok (.aload_n 0, 1) := by decide +kernel
theorem dX7_init_60 : decode cX7_init 60 = .ok (.aload_n 1, 1) := by decide +kernel
theorem dX7_init_61 : decode cX7_init 61 = .ok (.putfield 38, 3) := by decide +kernel
theorem dX7_init_64 : decode cX7_init 64 = .ok (.return_, 1) := by decide +kernel
theorem dX7_add_0 : decode cX7_add 0 = .ok (.aload_n 0, 1) := by decide +kernel
theorem dX7_add_1 : decode cX7_add 1 = .ok (.getfield 27, 3) := by decide +kernel
theorem dX7_add_4 : decode cX7_add 4 = .ok (.ifCond .lt 12, 3) := by decide +kernel
theorem dX7_add_7 : decode cX7_add 7 = .ok (.aload_n 0, 1) := by decide +kernel
theorem dX7_add_8 : decode cX7_add 8 = .ok (.getfield 27, 3) := by decide +kernel
theorem dX7_add_11 : decode cX7_add 11 = .ok (.bipush 7, 2) := by decide +kernel
theorem dX7_add_13 : decode cX7_add 13 = .ok (.if_icmp .lt 5, 3) := by decide +kernel
theorem dX7_add_16 : decode cX7_add 16 = .ok (.iconst 0, 1) := by decide +kernel
theorem dX7_add_17 : decode cX7_add 17 = .ok (.ireturn, 1) := by decide +kernel
theorem dX7_add_18 : decode cX7_add 18 = .ok (.aload_n 0, 1) := by decide +kernel
theorem dX7_add_19 : decode cX7_add 19 = .ok (.getfield 9, 3) := by decide +kernel
theorem dX7_add_22 : decode cX7_add 22 = .ok (.aload_n 0, 1) := by decide +kernel
theorem dX7_add_23 : decode cX7_add 23 = .ok (.getfield 27, 3) := by decide +kernel
theorem dX7_add_26 : decode cX7_add 26 = .ok (.iload_n 1, 1) := by decide +kernel
theorem dX7_add_27 : decode cX7_add 27 = .ok (.iastore, 1) := by decide +kernel
theorem dX7_add_28 : decode cX7_add 28 = .ok (.aload_n 0, 1) := by decide +kernel
theorem dX7_add_29 : decode cX7_add 29 = .ok (.getfield 15, 3) := by decide +kernel
theorem dX7_add_32 : decode cX7_add 32 = .ok (.aload_n 0, 1) := by decide +kernel
theorem dX7_add_33 : decode cX7_add 33 = .ok (.getfield 27, 3) := by decide +kernel
theorem dX7_add_36 : decode cX7_add 36 = .ok (.iload_n 2, 1) := by decide +kernel
theorem dX7_add_37 : decode cX7_add 37 = .ok (.iastore, 1) := by decide +kernel
theorem dX7_add_38 : decode cX7_add 38 = .ok (.aload_n 0, 1) := by decide +kernel
theorem dX7_add_39 : decode cX7_add 39 = .ok (.dup, 1) := by decide +kernel
theorem dX7_add_40 : decode cX7_add 40 = .ok (.getfield 27, 3) := by decide +kernel
theorem dX7_add_43 : decode cX7_add 43 = .ok (.iconst 1, 1) := by decide +kernel
theorem dX7_add_44 : decode cX7_add 44 = .ok (.iadd, 1) := by decide +kernel
theorem dX7_add_45 : decode cX7_add 45 = .ok (.putfield 27, 3) := by decide +kernel
theorem dX7_add_48 : decode cX7_add 48 = .ok (.aload_n 0, 1) := by decide +kernel
theorem dX7_add_49 : decode cX7_add 49 = .ok (.iconst 1, 1) := by decide +kernel
theorem dX7_add_50 : decode cX7_add 50 = .ok (.putfield 34, 3) := by decide +kernel
theorem dX7_add_53 : decode cX7_add 53 = .ok (.iconst 1, 1) := by decide +kernel
theorem dX7_add_54 : decode cX7_add 54 = .ok (.ireturn, 1) := by decide +kernel
theorem dX7_clear_0 : decode cX7_clear 0 = .ok (.aload_n 0, 1) := by decide +kernel
theorem dX7_clear_1 : decode cX7_clear 1 = .ok (.iconst 0, 1) := by decide +kernel
theorem dX7_clear_2 : decode cX7_clear 2 = .ok (.putfield 27, 3) := by decide +kernel
theorem dX7_clear_5 : decode cX7_clear 5 = .ok (.aload_n 0, 1) := by decide +kernel
theorem dX7_clear_6 : decode cX7_clear 6 = .ok (.iconst 1, 1) := by decide +kernel
theorem dX7_clear_7 : decode cX7_clear 7 = .ok (.putfield 34, 3) := by decide +kernel
theorem dX7_clear_10 : decode cX7_clear 10 = .ok (.return_, 1) := by decide +kernel
theorem dX7_firstOrderAt_0 : decode cX7_firstOrderAt 0 = .ok (.aload_n 0, 1) := by decide +kernel
theorem dX7_firstOrderAt_1 : decode cX7_firstOrderAt 1 = .ok (.getfield 31, 3) := by decide +kernel
theorem dX7_firstOrderAt_4 : decode cX7_firstOrderAt 4 = .ok (.ifCond .le 23, 3) := by decide +kernel
theorem dX7_firstOrderAt_7 : decode cX7_firstOrderAt 7 = .ok (.aload_n 0, 1) := by decide +kernel
theorem dX7_firstOrderAt_8 : decode cX7_firstOrderAt 8 = .ok (.getfield 38, 3) := by decide +kernel
theorem dX7_firstOrderAt_11 : decode cX7_firstOrderAt 11 = .ok (.iload_n 1, 1) := by decide +kernel
theorem dX7_firstOrderAt_12 : decode cX7_firstOrderAt 12 = .ok (.invokevirtual 42, 3) := by decide +kernel
theorem dX7_firstOrderAt_15 : decode cX7_firstOrderAt 15 = .ok (.ifCond .eq 12, 3) := by decide +kernel
theorem dX7_firstOrderAt_18 : decode cX7_firstOrderAt 18 = .ok (.aload_n 0, 1) := by decide +kernel
theorem dX7_firstOrderAt_19 : decode cX7_firstOrderAt 19 = .ok (.getfield 21, 3) := by decide +kernel
theorem dX7_firstOrderAt_22 : decode cX7_firstOrderAt 22 = .ok (.iload_n 1, 1) := by decide +kernel
theorem dX7_firstOrderAt_23 : decode cX7_firstOrderAt 23 = .ok (.iaload, 1) := by decide +kernel
theorem dX7_firstOrderAt_24 : decode cX7_firstOrderAt 24 = .ok (.goto 5, 3) := by decide +kernel
theorem dX7_firstOrderAt_27 : decode cX7_firstOrderAt 27 = .ok (.bipush (-4), 2) := by decide +kernel
theorem dX7_firstOrderAt_29 : decode cX7_firstOrderAt 29 = .ok (.ireturn, 1) := by decide +kernel
theorem dX7_refresh_0 : decode cX7_refresh 0 = .ok (.aload_n 0, 1) := by decide +kernel
theorem dX7_refresh_1 : decode cX7_refresh 1 = .ok (.getfield 34, 3) := by decide +kernel
theorem dX7_refresh_4 : decode cX7_refresh 4 = .ok (.ifCond .ne 4, 3) := by decide +kernel
theorem dX7_refresh_7 : decode cX7_refresh 7 = .ok (.return_, 1) := by decide +kernel
theorem dX7_refresh_8 : decode cX7_refresh 8 = .ok (.aload_n 0, 1) := by decide +kernel
theorem dX7_refresh_9 : decode cX7_refresh 9 = .ok (.iconst 0, 1) := by decide +kernel
theorem dX7_refresh_10 : decode cX7_refresh 10 = .ok (.putfield 34, 3) := by decide +kernel
theorem dX7_refresh_13 : decode cX7_refresh 13 = .ok (.aload_n 0, 1) := by decide +kernel
theorem dX7_refresh_14 : decode cX7_refresh 14 = .ok (.iconst 0, 1) := by decide +kernel
theorem dX7_refresh_15 : decode cX7_refresh 15 = .ok (.putfield 31, 3) := by decide +kernel
theorem dX7_refresh_18 : decode cX7_refresh 18 = .ok (.iconst 0, 1) := by decide +kernel
theorem dX7_refresh_19 : decode cX7_refresh 19 = .ok (.istore_n 1, 1) := by decide +kernel
theorem dX7_refresh_20 : decode cX7_refresh 20 = .ok (.iload_n 1, 1) := by decide +kernel
theorem dX7_refresh_21 : decode cX7_refresh 21 = .ok (.bipush 7, 2) := by decide +kernel
theorem dX7_refresh_23 : decode cX7_refresh 23 = .ok (.if_icmp .ge 27, 3) := by decide +kernel
theorem dX7_refresh_26 : decode cX7_refresh 26 = .ok (.iload_n 1, 1) := by decide +kernel
theorem dX7_refresh_27 : decode cX7_refresh 27 = .ok (.aload_n 0, 1) := by decide +kernel
theorem dX7_refresh_28 : decode cX7_refresh 28 = .ok (.getfield 38, 3) := by decide +kernel
theorem dX7_refresh_31 : decode cX7_refresh 31 = .ok (.getfield 48, 3) := by decide +kernel
theorem dX7_refresh_34 : decode cX7_refresh 34 = .ok (.if_icmp .ge 16, 3) := by decide +kernel
theorem dX7_refresh_37 : decode cX7_refresh 37 = .ok (.aload_n 0, 1) := by decide +kernel
theorem dX7_refresh_38 : decode cX7_refresh 38 = .ok (.getfield 18, 3) := by decide +kernel
theorem dX7_refresh_41 : decode cX7_refresh 41 = .ok (.iload_n 1, 1) := by decide +kernel
theorem dX7_refresh_42 : decode cX7_refresh 42 = .ok (.iload_n 1, 1) := by decide +kernel
theorem dX7_refresh_43 : decode cX7_refresh 43 = .ok (.iastore, 1) := by decide +kernel
theorem dX7_refresh_44 : decode cX7_refresh 44 = .ok (.iinc 1 1, 3) := by decide +kernel
theorem dX7_refresh_47 : decode cX7_refresh 47 = .ok (.goto (-27), 3) := by decide +kernel
theorem dX7_refresh_50 : decode cX7_refresh 50 = .ok (.iconst 1, 1) := by decide +kernel
theorem dX7_refresh_51 : decode cX7_refresh 51 = .ok (.istore_n 1, 1) := by decide +kernel
theorem dX7_refresh_52 : decode cX7_refresh 52 = .ok (.iconst 0, 1) := by decide +kernel
theorem dX7_refresh_53 : decode cX7_refresh 53 = .ok (.istore_n 2, 1) := by decide +kernel
theorem dX7_refresh_54 : decode cX7_refresh 54 = .ok (.iload_n 2, 1) := by decide +kernel
theorem dX7_refresh_55 : decode cX7_refresh 55 = .ok (.ldc 49, 2) := by decide +kernel
theorem dX7_refresh_57 : decode cX7_refresh 57 = .ok (.if_icmp .ge 33, 3) := by decide +kernel
theorem dX7_refresh_60 : decode cX7_refresh 60 = .ok (.iload_n 1, 1) := by decide +kernel
theorem dX7_refresh_61 : decode cX7_refresh 61 = .ok (.ifCond .eq 29, 3) := by decide +kernel
theorem dX7_refresh_64 : decode cX7_refresh 64 = .ok (.aload_n 0, 1) := by decide +kernel
theorem dX7_refresh_65 : decode cX7_refresh 65 = .ok (.invokevirtual 50, 3) := by decide +kernel
theorem dX7_refresh_68 : decode cX7_refresh 68 = .ok (.aload_n 0, 1) := by decide +kernel
theorem dX7_refresh_69 : decode cX7_refresh 69 = .ok (.invokevirtual 53, 3) := by decide +kernel
theorem dX7_refresh_72 : decode cX7_refresh 72 = .ok (.ifCond .eq 7, 3) := by decide +kernel
theorem dX7_refresh_75 : decode cX7_refresh 75 = .ok (.aload_n 0, 1) := by decide +kernel
theorem dX7_refresh_76 : decode cX7_refresh 76 = .ok (.invokevirtual 57, 3) := by decide +kernel
theorem dX7_refresh_79 : decode cX7_refresh 79 = .ok (.aload_n 0, 1) := by decide +kernel
theorem dX7_refresh_80 : decode cX7_refresh 80 = .ok (.invokevirtual 60, 3) := by decide +kernel
theorem dX7_refresh_83 : decode cX7_refresh 83 = .ok (.istore_n 1, 1) := by decide +kernel
theorem dX7_refresh_84 : decode cX7_refresh 84 = .ok (.iinc 2 1, 3) := by decide +kernel
theorem dX7_refresh_87 : decode cX7_refresh 87 = .ok (.goto (-33), 3) := by decide +kernel
theorem dX7_refresh_90 : decode cX7_refresh 90 = .ok (.return_, 1) := by decide +kernel
theorem dX7_noteOrder_0 : decode cX7_noteOrder 0 = .ok (.aload_n 0, 1) := by decide +kernel
theorem dX7_noteOrder_1 : decode cX7_noteOrder 1 = .ok (.getfield 31, 3) := by decide +kernel
theorem dX7_noteOrder_4 : decode cX7_noteOrder 4 = .ok (.ifCond .ne 40, 3) := by decide +kernel
theorem dX7_noteOrder_7 : decode cX7_noteOrder 7 = .ok (.iconst 0, 1) := by decide +kernel
theorem dX7_noteOrder_8 : decode cX7_noteOrder 8 = .ok (.istore_n 1, 1) := by decide +kernel
theorem dX7_noteOrder_9 : decode cX7_noteOrder 9 = .ok (.iload_n 1, 1) := by decide +kernel
theorem dX7_noteOrder_10 : decode cX7_noteOrder 10 = .ok (.bipush 7, 2) := by decide +kernel
theorem dX7_noteOrder_12 : decode cX7_noteOrder 12 = .ok (.if_icmp .ge 32, 3) := by decide +kernel
theorem dX7_noteOrder_15 : decode cX7_noteOrder 15 = .ok (.iload_n 1, 1) := by decide +kernel
theorem dX7_noteOrder_16 : decode cX7_noteOrder 16 = .ok (.aload_n 0, 1) := by decide +kernel
theorem dX7_noteOrder_17 : decode cX7_noteOrder 17 = .ok (.getfield 38, 3) := by decide +kernel
theorem dX7_noteOrder_20 : decode cX7_noteOrder 20 = .ok (.getfield 48, 3) := by decide +kernel
theorem dX7_noteOrder_23 : decode cX7_noteOrder 23 = .ok (.if_icmp .ge 21, 3) := by decide +kernel
theorem dX7_noteOrder_26 : decode cX7_noteOrder 26 = .ok (.aload_n 0, 1) := by decide +kernel
theorem dX7_noteOrder_27 : decode cX7_noteOrder 27 = .ok (.getfield 21, 3) := by decide +kernel
theorem dX7_noteOrder_30 : decode cX7_noteOrder 30 = .ok (.iload_n 1, 1) := by decide +kernel
theorem dX7_noteOrder_31 : decode cX7_noteOrder 31 = .ok (.aload_n 0, 1) := by decide +kernel
theorem dX7_noteOrder_32 : decode cX7_noteOrder 32 = .ok (.getfield 18, 3) := by decide +kernel
theorem dX7_noteOrder_35 : decode cX7_noteOrder 35 = .ok (.iload_n 1, 1) := by decide +kernel
theorem dX7_noteOrder_36 : decode cX7_noteOrder 36 = .ok (.iaload, 1) := by decide +kernel
theorem dX7_noteOrder_37 : decode cX7_noteOrder 37 = .ok (.iastore, 1) := by decide +kernel
theorem dX7_noteOrder_38 : decode cX7_noteOrder 38 = .ok (.iinc 1 1, 3) := by decide +kernel
theorem dX7_noteOrder_41 : decode cX7_noteOrder 41 = .ok (.goto (-32), 3) := by decide +kernel
theorem dX7_noteOrder_44 : decode cX7_noteOrder 44 = .ok (.aload_n 0, 1) := by decide +kernel
theorem dX7_noteOrder_45 : decode cX7_noteOrder 45 = .ok (.dup, 1) := by decide +kernel
theorem dX7_noteOrder_46 : decode cX7_noteOrder 46 = .ok (.getfield 31, 3) := by decide +kernel
theorem dX7_noteOrder_49 : decode cX7_noteOrder 49 = .ok (.iconst 1, 1) := by decide +kernel
theorem dX7_noteOrder_50 : decode cX7_noteOrder 50 = .ok (.iadd, 1) := by decide +kernel
theorem dX7_noteOrder_51 : decode cX7_noteOrder 51 = .ok (.putfield 31, 3) := by decide +kernel
theorem dX7_noteOrder_54 : decode cX7_noteOrder 54 = .ok (.return_, 1) := by decide +kernel
theorem dX7_isAsSeen_0 : decode cX7_isAsSeen 0 = .ok (.iconst 0, 1) := by decide +kernel
theorem dX7_isAsSeen_1 : decode cX7_isAsSeen 1 = .ok (.istore_n 1, 1) := by decide +kernel
theorem dX7_isAsSeen_2 : decode cX7_isAsSeen 2 = .ok (.iload_n 1, 1) := by decide +kernel
theorem dX7_isAsSeen_3 : decode cX7_isAsSeen 3 = .ok (.bipush 7, 2) := by decide +kernel
theorem dX7_isAsSeen_5 : decode cX7_isAsSeen 5 = .ok (.if_icmp .ge 55, 3) := by decide +kernel
theorem dX7_isAsSeen_8 : decode cX7_isAsSeen 8 = .ok (.iload_n 1, 1) := by decide +kernel
theorem dX7_isAsSeen_9 : decode cX7_isAsSeen 9 = .ok (.aload_n 0, 1) := by decide +kernel
theorem dX7_isAsSeen_10 : decode cX7_isAsSeen 10 = .ok (.getfield 27, 3) := by decide +kernel
theorem dX7_isAsSeen_13 : decode cX7_isAsSeen 13 = .ok (.if_icmp .ge 47, 3) := by decide +kernel
theorem dX7_isAsSeen_16 : decode cX7_isAsSeen 16 = .ok (.aload_n 0, 1) := by decide +kernel
theorem dX7_isAsSeen_17 : decode cX7_isAsSeen 17 = .ok (.getfield 38, 3) := by decide +kernel
theorem dX7_isAsSeen_20 : decode cX7_isAsSeen 20 = .ok (.aload_n 0, 1) := by decide +kernel
theorem dX7_isAsSeen_21 : decode cX7_isAsSeen 21 = .ok (.getfield 9, 3) := by decide +kernel
theorem dX7_isAsSeen_24 : decode cX7_isAsSeen 24 = .ok (.iload_n 1, 1) := by decide +kernel
theorem dX7_isAsSeen_25 : decode cX7_isAsSeen 25 = .ok (.iaload, 1) := by decide +kernel
theorem dX7_isAsSeen_26 : decode cX7_isAsSeen 26 = .ok (.invokevirtual 42, 3) := by decide +kernel
theorem dX7_isAsSeen_29 : decode cX7_isAsSeen 29 = .ok (.ifCond .eq 25, 3) := by decide +kernel
theorem dX7_isAsSeen_32 : decode cX7_isAsSeen 32 = .ok (.aload_n 0, 1) := by decide +kernel
theorem dX7_isAsSeen_33 : decode cX7_isAsSeen 33 = .ok (.getfield 24, 3) := by decide +kernel
theorem dX7_isAsSeen_36 : decode cX7_isAsSeen 36 = .ok (.aload_n 0, 1) := by decide +kernel
theorem dX7_isAsSeen_37 : decode cX7_isAsSeen 37 = .ok (.getfield 9, 3) := by decide +kernel
theorem dX7_isAsSeen_40 : decode cX7_isAsSeen 40 = .ok (.iload_n 1, 1) := by decide +kernel
theorem dX7_isAsSeen_41 : decode cX7_isAsSeen 41 = .ok (.iaload, 1) := by decide +kernel
theorem dX7_isAsSeen_42 : decode cX7_isAsSeen 42 = .ok (.iaload, 1) := by decide +kernel
theorem dX7_isAsSeen_43 : decode cX7_isAsSeen 43 = .ok (.aload_n 0, 1) := by decide +kernel
theorem dX7_isAsSeen_44 : decode cX7_isAsSeen 44 = .ok (.getfield 15, 3) := by decide +kernel
theorem dX7_isAsSeen_47 : decode cX7_isAsSeen 47 = .ok (.iload_n 1, 1) := by decide +kernel
theorem dX7_isAsSeen_48 : decode cX7_isAsSeen 48 = .ok (.iaload, 1) := by decide +kernel
theorem dX7_isAsSeen_49 : decode cX7_isAsSeen 49 = .ok (.if_icmp .eq 5, 3) := by decide +kernel
theorem dX7_isAsSeen_52 : decode cX7_isAsSeen 52 = .ok (.iconst 0, 1) := by decide +kernel
theorem dX7_isAsSeen_53 : decode cX7_isAsSeen 53 = .ok (.ireturn, 1) := by decide +kernel
theorem dX7_isAsSeen_54 : decode cX7_isAsSeen 54 = .ok (.iinc 1 1, 3) := by decide +kernel
theorem dX7_isAsSeen_57 : decode cX7_isAsSeen 57 = .ok (.goto (-55), 3) := by decide +kernel
theorem dX7_isAsSeen_60 : decode cX7_isAsSeen 60 = .ok (.iconst 1, 1) := by decide +kernel
theorem dX7_isAsSeen_61 : decode cX7_isAsSeen 61 = .ok (.ireturn, 1) := by decide +kernel
theorem dX7_comeInOrder_0 : decode cX7_comeInOrder 0 = .ok (.iconst 0, 1) := by decide +kernel
theorem dX7_comeInOrder_1 : decode cX7_comeInOrder 1 = .ok (.istore_n 1, 1) := by decide +kernel
theorem dX7_comeInOrder_2 : decode cX7_comeInOrder 2 = .ok (.iload_n 1, 1) := by decide +kernel
theorem dX7_comeInOrder_3 : decode cX7_comeInOrder 3 = .ok (.bipush 7, 2) := by decide +kernel
theorem dX7_comeInOrder_5 : decode cX7_comeInOrder 5 = .ok (.if_icmp .ge 27, 3) := by decide +kernel
theorem dX7_comeInOrder_8 : decode cX7_comeInOrder 8 = .ok (.iload_n 1, 1) := by decide +kernel
theorem dX7_comeInOrder_9 : decode cX7_comeInOrder 9 = .ok (.aload_n 0, 1) := by decide +kernel
theorem dX7_comeInOrder_10 : decode cX7_comeInOrder 10 = .ok (.getfield 38, 3) := by decide +kernel
theorem dX7_comeInOrder_13 : decode cX7_comeInOrder 13 = .ok (.getfield 48, 3) := by decide +kernel
theorem dX7_comeInOrder_16 : decode cX7_comeInOrder 16 = .ok (.if_icmp .ge 16, 3) := by decide +kernel
theorem dX7_comeInOrder_19 : decode cX7_comeInOrder 19 = .ok (.aload_n 0, 1) := by decide +kernel
theorem dX7_comeInOrder_20 : decode cX7_comeInOrder 20 = .ok (.getfield 24, 3) := by decide +kernel
theorem dX7_comeInOrder_23 : decode cX7_comeInOrder 23 = .ok (.iload_n 1, 1) := by decide +kernel
theorem dX7_comeInOrder_24 : decode cX7_comeInOrder 24 = .ok (.iconst 0, 1) := by decide +kernel
theorem dX7_comeInOrder_25 : decode cX7_comeInOrder 25 = .ok (.iastore, 1) := by decide +kernel
theorem dX7_comeInOrder_26 : decode cX7_comeInOrder 26 = .ok (.iinc 1 1, 3) := by decide +kernel
theorem dX7_comeInOrder_29 : decode cX7_comeInOrder 29 = .ok (.goto (-27), 3) := by decide +kernel
theorem dX7_comeInOrder_32 : decode cX7_comeInOrder 32 = .ok (.bipush (-4), 2) := by decide +kernel
theorem dX7_comeInOrder_34 : decode cX7_comeInOrder 34 = .ok (.istore_n 1, 1) := by decide +kernel
theorem dX7_comeInOrder_35 : decode cX7_comeInOrder 35 = .ok (.bipush (-4), 2) := by decide +kernel
theorem dX7_comeInOrder_37 : decode cX7_comeInOrder 37 = .ok (.istore_n 2, 1) := by decide +kernel
theorem dX7_comeInOrder_38 : decode cX7_comeInOrder 38 = .ok (.iconst 0, 1) := by decide +kernel
theorem dX7_comeInOrder_39 : decode cX7_comeInOrder 39 = .ok (.istore_n 3, 1) := by decide +kernel
theorem dX7_comeInOrder_40 : decode cX7_comeInOrder 40 = .ok (.iconst 0, 1) := by decide +kernel
theorem dX7_comeInOrder_41 : decode cX7_comeInOrder 41 = .ok (.istore 4, 2) := by decide +kernel
theorem dX7_comeInOrder_43 : decode cX7_comeInOrder 43 = .ok (.iload 4, 2) := by decide +kernel
theorem dX7_comeInOrder_45 : decode cX7_comeInOrder 45 = .ok (.bipush 7, 2) := by decide +kernel
theorem dX7_comeInOrder_47 : decode cX7_comeInOrder 47 = .ok (.if_icmp .ge 83, 3) := by decide +kernel
theorem dX7_comeInOrder_50 : decode cX7_comeInOrder 50 = .ok (.iload 4, 2) := by decide +kernel
theorem dX7_comeInOrder_52 : decode cX7_comeInOrder 52 = .ok (.aload_n 0, 1) := by decide +kernel
theorem dX7_comeInOrder_53 : decode cX7_comeInOrder 53 = .ok (.getfield 38, 3) := by decide +kernel
theorem dX7_comeInOrder_56 : decode cX7_comeInOrder 56 = .ok (.getfield 48, 3) := by decide +kernel
theorem dX7_comeInOrder_59 : decode cX7_comeInOrder 59 = .ok (.if_icmp .ge 71, 3) := by decide +kernel
theorem dX7_comeInOrder_62 : decode cX7_comeInOrder 62 = .ok (.aload_n 0, 1) := by decide +kernel
theorem dX7_comeInOrder_63 : decode cX7_comeInOrder 63 = .ok (.getfield 18, 3) := by decide +kernel
theorem dX7_comeInOrder_66 : decode cX7_comeInOrder 66 = .ok (.iload 4, 2) := by decide +kernel
theorem dX7_comeInOrder_68 : decode cX7_comeInOrder 68 = .ok (.iaload, 1) := by decide +kernel
theorem dX7_comeInOrder_69 : decode cX7_comeInOrder 69 = .ok (.istore 5, 2) := by decide +kernel
theorem dX7_comeInOrder_71 : decode cX7_comeInOrder 71 = .ok (.aload_n 0, 1) := by decide +kernel
theorem dX7_comeInOrder_72 : decode cX7_comeInOrder 72 = .ok (.getfield 38, 3) := by decide +kernel
theorem dX7_comeInOrder_75 : decode cX7_comeInOrder 75 = .ok (.iload 5, 2) := by decide +kernel
theorem dX7_comeInOrder_77 : decode cX7_comeInOrder 77 = .ok (.invokevirtual 42, 3) := by decide +kernel
theorem dX7_comeInOrder_80 : decode cX7_comeInOrder 80 = .ok (.ifCond .eq 44, 3) := by decide +kernel
theorem dX7_comeInOrder_83 : decode cX7_comeInOrder 83 = .ok (.iload_n 3, 1) := by decide +kernel
theorem dX7_comeInOrder_84 : decode cX7_comeInOrder 84 = .ok (.aload_n 0, 1) := by decide +kernel
theorem dX7_comeInOrder_85 : decode cX7_comeInOrder 85 = .ok (.getfield 38, 3) := by decide +kernel
theorem dX7_comeInOrder_88 : decode cX7_comeInOrder 88 = .ok (.getfield 63, 3) := by decide +kernel
theorem dX7_comeInOrder_91 : decode cX7_comeInOrder 91 = .ok (.iload 5, 2) := by decide +kernel
theorem dX7_comeInOrder_93 : decode cX7_comeInOrder 93 = .ok (.iaload, 1) := by decide +kernel
theorem dX7_comeInOrder_94 : decode cX7_comeInOrder 94 = .ok (.iadd, 1) := by decide +kernel
theorem dX7_comeInOrder_95 : decode cX7_comeInOrder 95 = .ok (.istore_n 3, 1) := by decide +kernel
theorem dX7_comeInOrder_96 : decode cX7_comeInOrder 96 = .ok (.aload_n 0, 1) := by decide +kernel
theorem dX7_comeInOrder_97 : decode cX7_comeInOrder 97 = .ok (.getfield 38, 3) := by decide +kernel
theorem dX7_comeInOrder_100 : decode cX7_comeInOrder 100 = .ok (.getfield 66, 3) := by decide +kernel
theorem dX7_comeInOrder_103 : decode cX7_comeInOrder 103 = .ok (.iload 5, 2) := by decide +kernel
theorem dX7_comeInOrder_105 : decode cX7_comeInOrder 105 = .ok (.iaload, 1) := by decide +kernel
theorem dX7_comeInOrder_106 : decode cX7_comeInOrder 106 = .ok (.iconst 2, 1) := by decide +kernel
theorem dX7_comeInOrder_107 : decode cX7_comeInOrder 107 = .ok (.if_icmp .eq 17, 3) := by decide +kernel
theorem dX7_comeInOrder_110 : decode cX7_comeInOrder 110 = .ok (.aload_n 0, 1) := by decide +kernel
theorem dX7_comeInOrder_111 : decode cX7_comeInOrder 111 = .ok (.iload_n 1, 1) := by decide +kernel
theorem dX7_comeInOrder_112 : decode cX7_comeInOrder 112 = .ok (.iload_n 2, 1) := by decide +kernel
theorem dX7_comeInOrder_113 : decode cX7_comeInOrder 113 = .ok (.iload_n 3, 1) := by decide +kernel
theorem dX7_comeInOrder_114 : decode cX7_comeInOrder 114 = .ok (.invokevirtual 69, 3) := by decide +kernel
theorem dX7_comeInOrder_117 : decode cX7_comeInOrder 117 = .ok (.iload_n 1, 1) := by decide +kernel
theorem dX7_comeInOrder_118 : decode cX7_comeInOrder 118 = .ok (.istore_n 2, 1) := by decide +kernel
theorem dX7_comeInOrder_119 : decode cX7_comeInOrder 119 = .ok (.iload 5, 2) := by decide +kernel
theorem dX7_comeInOrder_121 : decode cX7_comeInOrder 121 = .ok (.istore_n 1, 1) := by decide +kernel
theorem dX7_comeInOrder_122 : decode cX7_comeInOrder 122 = .ok (.iconst 0, 1) := by decide +kernel
theorem dX7_comeInOrder_123 : decode cX7_comeInOrder 123 = .ok (.istore_n 3, 1) := by decide +kernel
theorem dX7_comeInOrder_124 : decode cX7_comeInOrder 124 = .ok (.iinc 4 1, 3) := by decide +kernel
theorem dX7_comeInOrder_127 : decode cX7_comeInOrder 127 = .ok (.goto (-84), 3) := by decide +kernel
theorem dX7_comeInOrder_130 : decode cX7_comeInOrder 130 = .ok (.return_, 1) := by decide +kernel
theorem dX7_payOut_0 : decode cX7_payOut 0 = .ok (.aload_n 0, 1) := by decide +kernel
theorem dX7_payOut_1 : decode cX7_payOut 1 = .ok (.getfield 38, 3) := by decide +kernel
theorem dX7_payOut_4 : decode cX7_payOut 4 = .ok (.iload_n 1, 1) := by decide +kernel
theorem dX7_payOut_5 : decode cX7_payOut 5 = .ok (.invokevirtual 42, 3) := by decide +kernel
theorem dX7_payOut_8 : decode cX7_payOut 8 = .ok (.ifCond .ne 4, 3) := by decide +kernel
theorem dX7_payOut_11 : decode cX7_payOut 11 = .ok (.return_, 1) := by decide +kernel
theorem dX7_payOut_12 : decode cX7_payOut 12 = .ok (.aload_n 0, 1) := by decide +kernel
theorem dX7_payOut_13 : decode cX7_payOut 13 = .ok (.getfield 24, 3) := by decide +kernel
theorem dX7_payOut_16 : decode cX7_payOut 16 = .ok (.iload_n 1, 1) := by decide +kernel
theorem dX7_payOut_17 : decode cX7_payOut 17 = .ok (.dup2, 1) := by decide +kernel
theorem dX7_payOut_18 : decode cX7_payOut 18 = .ok (.iaload, 1) := by decide +kernel
theorem dX7_payOut_19 : decode cX7_payOut 19 = .ok (.iload_n 3, 1) := by decide +kernel
theorem dX7_payOut_20 : decode cX7_payOut 20 = .ok (.iadd, 1) := by decide +kernel
theorem dX7_payOut_21 : decode cX7_payOut 21 = .ok (.iastore, 1) := by decide +kernel
theorem dX7_payOut_22 : decode cX7_payOut 22 = .ok (.aload_n 0, 1) := by decide +kernel
theorem dX7_payOut_23 : decode cX7_payOut 23 = .ok (.getfield 38, 3) := by decide +kernel
theorem dX7_payOut_26 : decode cX7_payOut 26 = .ok (.iload_n 2, 1) := by decide +kernel
theorem dX7_payOut_27 : decode cX7_payOut 27 = .ok (.invokevirtual 42, 3) := by decide +kernel
theorem dX7_payOut_30 : decode cX7_payOut 30 = .ok (.ifCond .eq 35, 3) := by decide +kernel
theorem dX7_payOut_33 : decode cX7_payOut 33 = .ok (.aload_n 0, 1) := by decide +kernel
theorem dX7_payOut_34 : decode cX7_payOut 34 = .ok (.getfield 24, 3) := by decide +kernel
theorem dX7_payOut_37 : decode cX7_payOut 37 = .ok (.iload_n 1, 1) := by decide +kernel
theorem dX7_payOut_38 : decode cX7_payOut 38 = .ok (.iaload, 1) := by decide +kernel
theorem dX7_payOut_39 : decode cX7_payOut 39 = .ok (.iconst 2, 1) := by decide +kernel
theorem dX7_payOut_40 : decode cX7_payOut 40 = .ok (.idiv, 1) := by decide +kernel
theorem dX7_payOut_41 : decode cX7_payOut 41 = .ok (.istore 4, 2) := by decide +kernel
theorem dX7_payOut_43 : decode cX7_payOut 43 = .ok (.aload_n 0, 1) := by decide +kernel
theorem dX7_payOut_44 : decode cX7_payOut 44 = .ok (.getfield 24, 3) := by decide +kernel
theorem dX7_payOut_47 : decode cX7_payOut 47 = .ok (.iload_n 1, 1) := by decide +kernel
theorem dX7_payOut_48 : decode cX7_payOut 48 = .ok (.dup2, 1) := by decide +kernel
theorem dX7_payOut_49 : decode cX7_payOut 49 = .ok (.iaload, 1) := by decide +kernel
theorem dX7_payOut_50 : decode cX7_payOut 50 = .ok (.iload 4, 2) := by decide +kernel
theorem dX7_payOut_52 : decode cX7_payOut 52 = .ok (.isub, 1) := by decide +kernel
theorem dX7_payOut_53 : decode cX7_payOut 53 = .ok (.iastore, 1) := by decide +kernel
theorem dX7_payOut_54 : decode cX7_payOut 54 = .ok (.aload_n 0, 1) := by decide +kernel
theorem dX7_payOut_55 : decode cX7_payOut 55 = .ok (.getfield 24, 3) := by decide +kernel
theorem dX7_payOut_58 : decode cX7_payOut 58 = .ok (.iload_n 2, 1) := by decide +kernel
theorem dX7_payOut_59 : decode cX7_payOut 59 = .ok (.dup2, 1) := by decide +kernel
theorem dX7_payOut_60 : decode cX7_payOut 60 = .ok (.iaload, 1) := by decide +kernel
theorem dX7_payOut_61 : decode cX7_payOut 61 = .ok (.iload 4, 2) := by decide +kernel
theorem dX7_payOut_63 : decode cX7_payOut 63 = .ok (.iadd, 1) := by decide +kernel
theorem dX7_payOut_64 : decode cX7_payOut 64 = .ok (.iastore, 1) := by decide +kernel
theorem dX7_payOut_65 : decode cX7_payOut 65 = .ok (.return_, 1) := by decide +kernel
theorem dX7_nextOrder_0 : decode cX7_nextOrder 0 = .ok (.bipush 7, 2) := by decide +kernel
theorem dX7_nextOrder_2 : decode cX7_nextOrder 2 = .ok (.aload_n 0, 1) := by decide +kernel
theorem dX7_nextOrder_3 : decode cX7_nextOrder 3 = .ok (.getfield 38, 3) := by decide +kernel
theorem dX7_nextOrder_6 : decode cX7_nextOrder 6 = .ok (.getfield 48, 3) := by decide +kernel
theorem dX7_nextOrder_9 : decode cX7_nextOrder 9 = .ok (.invokestatic 73, 3) := by decide +kernel
theorem dX7_nextOrder_12 : decode cX7_nextOrder 12 = .ok (.iconst 1, 1) := by decide +kernel
theorem dX7_nextOrder_13 : decode cX7_nextOrder 13 = .ok (.isub, 1) := by decide +kernel
theorem dX7_nextOrder_14 : decode cX7_nextOrder 14 = .ok (.istore_n 1, 1) := by decide +kernel
theorem dX7_nextOrder_15 : decode cX7_nextOrder 15 = .ok (.iload_n 1, 1) := by decide +kernel
theorem dX7_nextOrder_16 : decode cX7_nextOrder 16 = .ok (.iconst 1, 1) := by decide +kernel
theorem dX7_nextOrder_17 : decode cX7_nextOrder 17 = .ok (.isub, 1) := by decide +kernel
theorem dX7_nextOrder_18 : decode cX7_nextOrder 18 = .ok (.istore_n 2, 1) := by decide +kernel
theorem dX7_nextOrder_19 : decode cX7_nextOrder 19 = .ok (.iload_n 2, 1) := by decide +kernel
theorem dX7_nextOrder_20 : decode cX7_nextOrder 20 = .ok (.ifCond .lt 26, 3) := by decide +kernel
theorem dX7_nextOrder_23 : decode cX7_nextOrder 23 = .ok (.aload_n 0, 1) := by decide +kernel
theorem dX7_nextOrder_24 : decode cX7_nextOrder 24 = .ok (.getfield 18, 3) := by decide +kernel
theorem dX7_nextOrder_27 : decode cX7_nextOrder 27 = .ok (.iload_n 2, 1) := by decide +kernel
theorem dX7_nextOrder_28 : decode cX7_nextOrder 28 = .ok (.iaload, 1) := by decide +kernel
theorem dX7_nextOrder_29 : decode cX7_nextOrder 29 = .ok (.aload_n 0, 1) := by decide +kernel
theorem dX7_nextOrder_30 : decode cX7_nextOrder 30 = .ok (.getfield 18, 3) := by decide +kernel
theorem dX7_nextOrder_33 : decode cX7_nextOrder 33 = .ok (.iload_n 2, 1) := by decide +kernel
theorem dX7_nextOrder_34 : decode cX7_nextOrder 34 = .ok (.iconst 1, 1) := by decide +kernel
theorem dX7_nextOrder_35 : decode cX7_nextOrder 35 = .ok (.iadd, 1) := by decide +kernel
theorem dX7_nextOrder_36 : decode cX7_nextOrder 36 = .ok (.iaload, 1) := by decide +kernel
theorem dX7_nextOrder_37 : decode cX7_nextOrder 37 = .ok (.if_icmp .le 9, 3) := by decide +kernel
theorem dX7_nextOrder_40 : decode cX7_nextOrder 40 = .ok (.iinc 2 (-1), 3) := by decide +kernel
theorem dX7_nextOrder_43 : decode cX7_nextOrder 43 = .ok (.goto (-24), 3) := by decide +kernel
theorem dX7_nextOrder_46 : decode cX7_nextOrder 46 = .ok (.iload_n 2, 1) := by decide +kernel
theorem dX7_nextOrder_47 : decode cX7_nextOrder 47 = .ok (.ifCond .ge 5, 3) := by decide +kernel
theorem dX7_nextOrder_50 : decode cX7_nextOrder 50 = .ok (.iconst 0, 1) := by decide +kernel
theorem dX7_nextOrder_51 : decode cX7_nextOrder 51 = .ok (.ireturn, 1) := by decide +kernel
theorem dX7_nextOrder_52 : decode cX7_nextOrder 52 = .ok (.iload_n 1, 1) := by decide +kernel
theorem dX7_nextOrder_53 : decode cX7_nextOrder 53 = .ok (.istore_n 3, 1) := by decide +kernel
theorem dX7_nextOrder_54 : decode cX7_nextOrder 54 = .ok (.iload_n 3, 1) := by decide +kernel
theorem dX7_nextOrder_55 : decode cX7_nextOrder 55 = .ok (.iload_n 2, 1) := by decide +kernel
theorem dX7_nextOrder_56 : decode cX7_nextOrder 56 = .ok (.if_icmp .le 24, 3) := by decide +kernel
theorem dX7_nextOrder_59 : decode cX7_nextOrder 59 = .ok (.aload_n 0, 1) := by decide +kernel
theorem dX7_nextOrder_60 : decode cX7_nextOrder 60 = .ok (.getfield 18, 3) := by decide +kernel
theorem dX7_nextOrder_63 : decode cX7_nextOrder 63 = .ok (.iload_n 3, 1) := by decide +kernel
theorem dX7_nextOrder_64 : decode cX7_nextOrder 64 = .ok (.iaload, 1) := by decide +kernel
theorem dX7_nextOrder_65 : decode cX7_nextOrder 65 = .ok (.aload_n 0, 1) := by decide +kernel
theorem dX7_nextOrder_66 : decode cX7_nextOrder 66 = .ok (.getfield 18, 3) := by decide +kernel
theorem dX7_nextOrder_69 : decode cX7_nextOrder 69 = .ok (.iload_n 2, 1) := by decide +kernel
theorem dX7_nextOrder_70 : decode cX7_nextOrder 70 = .ok (.iaload, 1) := by decide +kernel
theorem dX7_nextOrder_71 : decode cX7_nextOrder 71 = .ok (.if_icmp .ge 9, 3) := by decide +kernel
theorem dX7_nextOrder_74 : decode cX7_nextOrder 74 = .ok (.iinc 3 (-1), 3) := by decide +kernel
theorem dX7_nextOrder_77 : decode cX7_nextOrder 77 = .ok (.goto (-23), 3) := by decide +kernel
theorem dX7_nextOrder_80 : decode cX7_nextOrder 80 = .ok (.aload_n 0, 1) := by decide +kernel
theorem dX7_nextOrder_81 : decode cX7_nextOrder 81 = .ok (.iload_n 2, 1) := by decide +kernel
theorem dX7_nextOrder_82 : decode cX7_nextOrder 82 = .ok (.iload_n 3, 1) := by decide +kernel
theorem dX7_nextOrder_83 : decode cX7_nextOrder 83 = .ok (.invokevirtual 79, 3) := by decide +kernel
theorem dX7_nextOrder_86 : decode cX7_nextOrder 86 = .ok (.iload_n 2, 1) := by decide +kernel
theorem dX7_nextOrder_87 : decode cX7_nextOrder 87 = .ok (.iconst 1, 1) := by decide +kernel
theorem dX7_nextOrder_88 : decode cX7_nextOrder 88 = .ok (.iadd, 1) := by decide +kernel
theorem dX7_nextOrder_89 : decode cX7_nextOrder 89 = .ok (.istore 4, 2) := by decide +kernel
theorem dX7_nextOrder_91 : decode cX7_nextOrder 91 = .ok (.iload_n 1, 1) := by decide +kernel
theorem dX7_nextOrder_92 : decode cX7_nextOrder 92 = .ok (.istore 5, 2) := by decide +kernel
theorem dX7_nextOrder_94 : decode cX7_nextOrder 94 = .ok (.iload 4, 2) := by decide +kernel
theorem dX7_nextOrder_96 : decode cX7_nextOrder 96 = .ok (.iload 5, 2) := by decide +kernel
theorem dX7_nextOrder_98 : decode cX7_nextOrder 98 = .ok (.if_icmp .ge 20, 3) := by decide +kernel
theorem dX7_nextOrder_101 : decode cX7_nextOrder 101 = .ok (.aload_n 0, 1) := by decide +kernel
theorem dX7_nextOrder_102 : decode cX7_nextOrder 102 = .ok (.iload 4, 2) := by decide +kernel
theorem dX7_nextOrder_104 : decode cX7_nextOrder 104 = .ok (.iload 5, 2) := by decide +kernel
theorem dX7_nextOrder_106 : decode cX7_nextOrder 106 = .ok (.invokevirtual 79, 3) := by decide +kernel
theorem dX7_nextOrder_109 : decode cX7_nextOrder 109 = .ok (.iinc 4 1, 3) := by decide +kernel
theorem dX7_nextOrder_112 : decode cX7_nextOrder 112 = .ok (.iinc 5 (-1), 3) := by decide +kernel
theorem dX7_nextOrder_115 : decode cX7_nextOrder 115 = .ok (.goto (-21), 3) := by decide +kernel
theorem dX7_nextOrder_118 : decode cX7_nextOrder 118 = .ok (.iconst 1, 1) := by decide +kernel
theorem dX7_nextOrder_119 : decode cX7_nextOrder 119 = .ok (.ireturn, 1) := by decide +kernel
theorem dX7_swap_0 : decode cX7_swap 0 = .ok (.aload_n 0, 1) := by decide +kernel
theorem dX7_swap_1 : decode cX7_swap 1 = .ok (.getfield 38, 3) := by decide +kernel
theorem dX7_swap_4 : decode cX7_swap 4 = .ok (.iload_n 1, 1) := by decide +kernel
theorem dX7_swap_5 : decode cX7_swap 5 = .ok (.invokevirtual 42, 3) := by decide +kernel
theorem dX7_swap_8 : decode cX7_swap 8 = .ok (.ifCond .eq 40, 3) := by decide +kernel
theorem dX7_swap_11 : decode cX7_swap 11 = .ok (.aload_n 0, 1) := by decide +kernel
theorem dX7_swap_12 : decode cX7_swap 12 = .ok (.getfield 38, 3) := by decide +kernel
theorem dX7_swap_15 : decode cX7_swap 15 = .ok (.iload_n 2, 1) := by decide +kernel
theorem dX7_swap_16 : decode cX7_swap 16 = .ok (.invokevirtual 42, 3) := by decide +kernel
theorem dX7_swap_19 : decode cX7_swap 19 = .ok (.ifCond .eq 29, 3) := by decide +kernel
theorem dX7_swap_22 : decode cX7_swap 22 = .ok (.aload_n 0, 1) := by decide +kernel
theorem dX7_swap_23 : decode cX7_swap 23 = .ok (.getfield 18, 3) := by decide +kernel
theorem dX7_swap_26 : decode cX7_swap 26 = .ok (.iload_n 1, 1) := by decide +kernel
theorem dX7_swap_27 : decode cX7_swap 27 = .ok (.iaload, 1) := by decide +kernel
theorem dX7_swap_28 : decode cX7_swap 28 = .ok (.istore_n 3, 1) := by decide +kernel
theorem dX7_swap_29 : decode cX7_swap 29 = .ok (.aload_n 0, 1) := by decide +kernel
theorem dX7_swap_30 : decode cX7_swap 30 = .ok (.getfield 18, 3) := by decide +kernel
theorem dX7_swap_33 : decode cX7_swap 33 = .ok (.iload_n 1, 1) := by decide +kernel
theorem dX7_swap_34 : decode cX7_swap 34 = .ok (.aload_n 0, 1) := by decide +kernel
theorem dX7_swap_35 : decode cX7_swap 35 = .ok (.getfield 18, 3) := by decide +kernel
theorem dX7_swap_38 : decode cX7_swap 38 = .ok (.iload_n 2, 1) := by decide +kernel
theorem dX7_swap_39 : decode cX7_swap 39 = .ok (.iaload, 1) := by decide +kernel
theorem dX7_swap_40 : decode cX7_swap 40 = .ok (.iastore, 1) := by decide +kernel
theorem dX7_swap_41 : decode cX7_swap 41 = .ok (.aload_n 0, 1) := by decide +kernel
theorem dX7_swap_42 : decode cX7_swap 42 = .ok (.getfield 18, 3) := by decide +kernel
theorem dX7_swap_45 : decode cX7_swap 45 = .ok (.iload_n 2, 1) := by decide +kernel
theorem dX7_swap_46 : decode cX7_swap 46 = .ok (.iload_n 3, 1) := by decide +kernel
theorem dX7_swap_47 : decode cX7_swap 47 = .ok (.iastore, 1) := by decide +kernel
theorem dX7_swap_48 : decode cX7_swap 48 = .ok (.return_, 1) := by decide +kernel
theorem dX8_init_0 : decode cX8_init 0 = .ok (.aload_n 0, 1) := by decide +kernel
theorem dX8_init_1 : decode cX8_init 1 = .ok (.invokespecial 1, 3) := by decide +kernel
theorem dX8_init_4 : decode cX8_init 4 = .ok (.aload_n 0, 1) := by decide +kernel
theorem dX8_init_5 : decode cX8_init 5 = .ok (.new 7, 3) := by decide +kernel
theorem dX8_init_8 : decode cX8_init 8 = .ok (.dup, 1) := by decide +kernel
theorem dX8_init_9 : decode cX8_init 9 = .ok (.invokespecial 9, 3) := by decide +kernel
theorem dX8_init_12 : decode cX8_init 12 = .ok (.putfield 10, 3) := by decide +kernel
theorem dX8_init_15 : decode cX8_init 15 = .ok (.aload_n 0, 1) := by decide +kernel
theorem dX8_init_16 : decode cX8_init 16 = .ok (.new 16, 3) := by decide +kernel
theorem dX8_init_19 : decode cX8_init 19 = .ok (.dup, 1) := by decide +kernel
theorem dX8_init_20 : decode cX8_init 20 = .ok (.invokespecial 18, 3) := by decide +kernel
theorem dX8_init_23 : decode cX8_init 23 = .ok (.putfield 19, 3) := by decide +kernel
theorem dX8_init_26 : decode cX8_init 26 = .ok (.aload_n 0, 1) := by decide +kernel
theorem dX8_init_27 : decode cX8_init 27 = .ok (.new 16, 3) := by decide +kernel
theorem dX8_init_30 : decode cX8_init 30 = .ok (.dup, 1) := by decide +kernel
theorem dX8_init_31 : decode cX8_init 31 = .ok (.invokespecial 18, 3) := by decide +kernel
theorem dX8_init_34 : decode cX8_init 34 = .ok (.putfield 23, 3) := by decide +kernel
theorem dX8_init_37 : decode cX8_init 37 = .ok (.aload_n 0, 1) := by decide +kernel
theorem dX8_init_38 : decode cX8_init 38 = .ok (.new 26, 3) := by decide +kernel
theorem dX8_init_41 : decode cX8_init 41 = .ok (.dup, 1) := by decide +kernel
theorem dX8_init_42 : decode cX8_init 42 = .ok (.aload_n 0, 1) := by decide +kernel
theorem dX8_init_43 : decode cX8_init 43 = .ok (.getfield 19, 3) := by decide +kernel
theorem dX8_init_46 : decode cX8_init 46 = .ok (.invokespecial 28, 3) := by decide +kernel
theorem dX8_init_49 : decode cX8_init 49 = .ok (.putfield 31, 3) := by decide +kernel
theorem dX8_init_52 : decode cX8_init 52 = .ok (.aload_n 0, 1) := by decide +kernel
theorem dX8_init_53 : decode cX8_init 53 = .ok (.new 26, 3) := by decide +kernel
theorem dX8_init_56 : decode cX8_init 56 = .ok (.dup, 1) := by decide +kernel
theorem dX8_init_57 : decode cX8_init 57 = .ok (.aload_n 0, 1) := by decide +kernel
theorem dX8_init_58 : decode cX8_init 58 = .ok (.getfield 19, 3) := by decide +kernel
theorem dX8_init_61 : decode cX8_init 61 = .ok (.invokespecial 28, 3) := by decide +kernel
theorem dX8_init_64 : decode cX8_init 64 = .ok (.putfield 35, 3) := by decide +kernel
theorem dX8_init_67 : decode cX8_init 67 = .ok (.aload_n 0, 1) := by decide +kernel
theorem dX8_init_68 : decode cX8_init 68 = .ok (.new 38, 3) := by decide +kernel
theorem dX8_init_71 : decode cX8_init 71 = .ok (.dup, 1) := by decide +kernel
theorem dX8_init_72 : decode cX8_init 72 = .ok (.aload_n 0, 1) := by decide +kernel
theorem dX8_init_73 : decode cX8_init 73 = .ok (.getfield 19, 3) := by decide +kernel
theorem dX8_init_76 : decode cX8_init 76 = .ok (.invokespecial 40, 3) := by decide +kernel
theorem dX8_init_79 : decode cX8_init 79 = .ok (.putfield 41, 3) := by decide +kernel
theorem dX8_init_82 : decode cX8_init 82 = .ok (.aload_n 0, 1) := by decide +kernel
theorem dX8_init_83 : decode cX8_init 83 = .ok (.new 45, 3) := by decide +kernel
theorem dX8_init_86 : decode cX8_init 86 = .ok (.dup, 1) := by decide +kernel
theorem dX8_init_87 : decode cX8_init 87 = .ok (.aload_n 0, 1) := by decide +kernel
theorem dX8_init_88 : decode cX8_init 88 = .ok (.getfield 19, 3) := by decide +kernel
theorem dX8_init_91 : decode cX8_init 91 = .ok (.bipush 8, 2) := by decide +kernel
theorem dX8_init_93 : decode cX8_init 93 = .ok (.invokespecial 47, 3) := by decide +kernel
theorem dX8_init_96 : decode cX8_init 96 = .ok (.putfield 50, 3) := by decide +kernel
theorem dX8_init_99 : decode cX8_init 99 = .ok (.aload_n 0, 1) := by decide +kernel
theorem dX8_init_100 : decode cX8_init 100 = .ok (.new 45, 3) := by decide +kernel
theorem dX8_init_103 : decode cX8_init 103 = .ok (.dup, 1) := by decide +kernel
theorem dX8_init_104 : decode cX8_init 104 = .ok (.aload_n 0, 1) := by decide +kernel
theorem dX8_init_105 : decode cX8_init 105 = .ok (.getfield 19, 3) := by decide +kernel
theorem dX8_init_108 : decode cX8_init 108 = .ok (.iconst 2, 1) := by decide +kernel
theorem dX8_init_109 : decode cX8_init 109 = .ok (.invokespecial 47, 3) := by decide +kernel
theorem dX8_init_112 : decode cX8_init 112 = .ok (.putfield 54, 3) := by decide +kernel
theorem dX8_init_115 : decode cX8_init 115 = .ok (.aload_n 0, 1) := by decide +kernel
theorem dX8_init_116 : decode cX8_init 116 = .ok (.new 57, 3) := by decide +kernel
theorem dX8_init_119 : decode cX8_init 119 = .ok (.dup, 1) := by decide +kernel
theorem dX8_init_120 : decode cX8_init 120 = .ok (.aload_n 0, 1) := by decide +kernel
theorem dX8_init_121 : decode cX8_init 121 = .ok (.getfield 19, 3) := by decide +kernel
theorem dX8_init_124 : decode cX8_init 124 = .ok (.invokespecial 59, 3) := by decide +kernel
theorem dX8_init_127 : decode cX8_init 127 = .ok (.putfield 60, 3) := by decide +kernel
theorem dX8_init_130 : decode cX8_init 130 = .ok (.aload_n 0, 1) := by decide +kernel
theorem dX8_init_131 : decode cX8_init 131 = .ok (.new 64, 3) := by decide +kernel
theorem dX8_init_134 : decode cX8_init 134 = .ok (.dup, 1) := by decide +kernel
theorem dX8_init_135 : decode cX8_init 135 = .ok (.aload_n 0, 1) := by decide +kernel
theorem dX8_init_136 : decode cX8_init 136 = .ok (.getfield 19, 3) := by decide +kernel
theorem dX8_init_139 : decode cX8_init 139 = .ok (.invokespecial 66, 3) := by decide +kernel
theorem dX8_init_142 : decode cX8_init 142 = .ok (.putfield 67, 3) := by decide +kernel
theorem dX8_init_145 : decode cX8_init 145 = .ok (.aload_n 0, 1) := by decide +kernel
theorem dX8_init_146 : decode cX8_init 146 = .ok (.new 71, 3) := by decide +kernel
theorem dX8_init_149 : decode cX8_init 149 = .ok (.dup, 1) := by decide +kernel
theorem dX8_init_150 : decode cX8_init 150 = .ok (.aload_n 0, 1) := by decide +kernel
theorem dX8_init_151 : decode cX8_init 151 = .ok (.getfield 19, 3) := by decide +kernel
theorem dX8_init_154 : decode cX8_init 154 = .ok (.invokespecial 73, 3) := by decide +kernel
theorem dX8_init_157 : decode cX8_init 157 = .ok (.putfield 74, 3) := by decide +kernel
theorem dX8_init_160 : decode cX8_init 160 = .ok (.iconst 0, 1) := by decide +kernel
theorem dX8_init_161 : decode cX8_init 161 = .ok (.istore_n 1, 1) := by decide +kernel
theorem dX8_init_162 : decode cX8_init 162 = .ok (.iload_n 1, 1) := by decide +kernel
theorem dX8_init_163 : decode cX8_init 163 = .ok (.ldc 78, 2) := by decide +kernel
theorem dX8_init_165 : decode cX8_init 165 = .ok (.invokevirtual 80, 3) := by decide +kernel
theorem dX8_init_168 : decode cX8_init 168 = .ok (.if_icmp .ge 23, 3) := by decide +kernel
theorem dX8_init_171 : decode cX8_init 171 = .ok (.aload_n 0, 1) := by decide +kernel
theorem dX8_init_172 : decode cX8_init 172 = .ok (.getfield 10, 3) := by decide +kernel
theorem dX8_init_175 : decode cX8_init 175 = .ok (.ldc 78, 2) := by decide +kernel
theorem dX8_init_177 : decode cX8_init 177 = .ok (.iload_n 1, 1) := by decide +kernel
theorem dX8_init_178 : decode cX8_init 178 = .ok (.invokevirtual 86, 3) := by decide +kernel
theorem dX8_init_181 : decode cX8_init 181 = .ok (.invokevirtual 90, 3) := by decide +kernel
theorem dX8_init_184 : decode cX8_init 184 = .ok (.pop, 1) := by decide +kernel
theorem dX8_init_185 : decode cX8_init 185 = .ok (.iinc 1 1, 3) := by decide +kernel
theorem dX8_init_188 : decode cX8_init 188 = .ok (.goto (-26), 3) := by decide +kernel
theorem dX8_init_191 : decode cX8_init 191 = .ok (.aload_n 0, 1) := by decide +kernel
theorem dX8_init_192 : decode cX8_init 192 = .ok (.invokevirtual 94, 3) := by decide +kernel
theorem dX8_init_195 : decode cX8_init 195 = .ok (.pop, 1) := by decide +kernel
theorem dX8_init_196 : decode cX8_init 196 = .ok (.aload_n 0, 1) := by decide +kernel
theorem dX8_init_197 : decode cX8_init 197 = .ok (.getfield 10, 3) := by decide +kernel
theorem dX8_init_200 : decode cX8_init 200 = .ok (.invokevirtual 98, 3) := by decide +kernel
theorem dX8_init_203 : decode cX8_init 203 = .ok (.return_, 1) := by decide +kernel
theorem dX8_write_0 : decode cX8_write 0 = .ok (.iload_n 1, 1) := by decide +kernel
theorem dX8_write_1 : decode cX8_write 1 = .ok (.bipush 32, 2) := by decide +kernel
theorem dX8_write_3 : decode cX8_write 3 = .ok (.if_icmp .lt 9, 3) := by decide +kernel
theorem dX8_write_6 : decode cX8_write 6 = .ok (.iload_n 1, 1) := by decide +kernel
theorem dX8_write_7 : decode cX8_write 7 = .ok (.bipush 126, 2) := by decide +kernel
theorem dX8_write_9 : decode cX8_write 9 = .ok (.if_icmp .le 5, 3) := by decide +kernel
theorem dX8_write_12 : decode cX8_write 12 = .ok (.iconst (-1), 1) := by decide +kernel
theorem dX8_write_13 : decode cX8_write 13 = .ok (.ireturn, 1) := by decide +kernel
theorem dX8_write_14 : decode cX8_write 14 = .ok (.aload_n 0, 1) := by decide +kernel
theorem dX8_write_15 : decode cX8_write 15 = .ok (.getfield 10, 3) := by decide +kernel
theorem dX8_write_18 : decode cX8_write 18 = .ok (.iload_n 1, 1) := by decide +kernel
theorem dX8_write_19 : decode cX8_write 19 = .ok (.invokevirtual 90, 3) := by decide +kernel
theorem dX8_write_22 : decode cX8_write 22 = .ok (.ifCond .eq 13, 3) := by decide +kernel
theorem dX8_write_25 : decode cX8_write 25 = .ok (.aload_n 0, 1) := by decide +kernel
theorem dX8_write_26 : decode cX8_write 26 = .ok (.getfield 10, 3) := by decide +kernel
theorem dX8_write_29 : decode cX8_write 29 = .ok (.getfield 101, 3) := by decide +kernel
theorem dX8_write_32 : decode cX8_write 32 = .ok (.goto 5, 3) := by decide +kernel
theorem dX8_write_35 : decode cX8_write 35 = .ok (.bipush (-3), 2) := by decide +kernel
theorem dX8_write_37 : decode cX8_write 37 = .ok (.ireturn, 1) := by decide +kernel
theorem dX8_wipe_0 : decode cX8_wipe 0 = .ok (.aload_n 0, 1) := by decide +kernel
theorem dX8_wipe_1 : decode cX8_wipe 1 = .ok (.getfield 10, 3) := by decide +kernel
theorem dX8_wipe_4 : decode cX8_wipe 4 = .ok (.getfield 101, 3) := by decide +kernel
theorem dX8_wipe_7 : decode cX8_wipe 7 = .ok (.istore_n 1, 1) := by decide +kernel
theorem dX8_wipe_8 : decode cX8_wipe 8 = .ok (.aload_n 0, 1) := by decide +kernel
theorem dX8_wipe_9 : decode cX8_wipe 9 = .ok (.getfield 10, 3) := by decide +kernel
theorem dX8_wipe_12 : decode cX8_wipe 12 = .ok (.invokevirtual 98, 3) := by decide +kernel
theorem dX8_wipe_15 : decode cX8_wipe 15 = .ok (.iload_n 1, 1) := by decide +kernel
theorem dX8_wipe_16 : decode cX8_wipe 16 = .ok (.ireturn, 1) := by decide +kernel
theorem dX8_fault_0 : decode cX8_fault 0 = .ok (.aload_n 0, 1) := by decide +kernel
theorem dX8_fault_1 : decode cX8_fault 1 = .ok (.getfield 10, 3) := by decide +kernel
theorem dX8_fault_4 : decode cX8_fault 4 = .ok (.aload_n 0, 1) := by decide +kernel
theorem dX8_fault_5 : decode cX8_fault 5 = .ok (.getfield 23, 3) := by decide +kernel
theorem dX8_fault_8 : decode cX8_fault 8 = .ok (.invokevirtual 104, 3) := by decide +kernel
theorem dX8_fault_11 : decode cX8_fault 11 = .ok (.ireturn, 1) := by decide +kernel
theorem dX8_lay_0 : decode cX8_lay 0 = .ok (.aload_n 0, 1) := by decide +kernel
theorem dX8_lay_1 : decode cX8_lay 1 = .ok (.invokevirtual 94, 3) := by decide +kernel
theorem dX8_lay_4 : decode cX8_lay 4 = .ok (.ifCond .eq 13, 3) := by decide +kernel
theorem dX8_lay_7 : decode cX8_lay 7 = .ok (.aload_n 0, 1) := by decide +kernel
theorem dX8_lay_8 : decode cX8_lay 8 = .ok (.getfield 19, 3) := by decide +kernel
theorem dX8_lay_11 : decode cX8_lay 11 = .ok (.getfield 108, 3) := by decide +kernel
theorem dX8_lay_14 : decode cX8_lay 14 = .ok (.goto 5, 3) := by decide +kernel
theorem dX8_lay_17 : decode cX8_lay 17 = .ok (.bipush (-2), 2) := by decide +kernel
theorem dX8_lay_19 : decode cX8_lay 19 = .ok (.ireturn, 1) := by decide +kernel
theorem dX8_guest_0 : decode cX8_guest 0 = .ok (.aload_n 0, 1) := by decide +kernel
theorem dX8_guest_1 : decode cX8_guest 1 = .ok (.getfield 19, 3) := by decide +kernel
theorem dX8_guest_4 : decode cX8_guest 4 = .ok (.iload_n 1, 1) := by decide +kernel
theorem dX8_guest_5 : decode cX8_guest 5 = .ok (.invokevirtual 111, 3) := by decide +kernel
theorem dX8_guest_8 : decode cX8_guest 8 = .ok (.ifCond .ne 5, 3) := by decide +kernel
theorem dX8_guest_11 : decode cX8_guest 11 = .ok (.iconst (-1), 1) := by decide +kernel
theorem dX8_guest_12 : decode cX8_guest 12 = .ok (.ireturn, 1) := by decide +kernel
theorem dX8_guest_13 : decode cX8_guest 13 = .ok (.iload_n 2, 1) := by decide +kernel
theorem dX8_guest_14 : decode cX8_guest 14 = .ok (.tableswitch 70 0 3 #[30, 40, 50, 60], 30) := by decide +kernel
theorem dX8_guest_44 : decode cX8_guest 44 = .ok (.aload_n 0, 1) := by decide +kernel
theorem dX8_guest_45 : decode cX8_guest 45 = .ok (.getfield 19, 3) := by decide +kernel
theorem dX8_guest_48 : decode cX8_guest 48 = .ok (.getfield 114, 3) := by decide +kernel
theorem dX8_guest_51 : decode cX8_guest 51 = .ok (.iload_n 1, 1) := by decide +kernel
theorem dX8_guest_52 : decode cX8_guest 52 = .ok (.iaload, 1) := by decide +kernel
theorem dX8_guest_53 : decode cX8_guest 53 = .ok (.ireturn, 1) := by decide +kernel
theorem dX8_guest_54 : decode cX8_guest 54 = .ok (.aload_n 0, 1) := by decide +kernel
theorem dX8_guest_55 : decode cX8_guest 55 = .ok (.getfield 19, 3) := by decide +kernel
theorem dX8_guest_58 : decode cX8_guest 58 = .ok (.getfield 118, 3) := by decide +kernel
theorem dX8_guest_61 : decode cX8_guest 61 = .ok (.iload_n 1, 1) := by decide +kernel
theorem dX8_guest_62 : decode cX8_guest 62 = .ok (.iaload, 1) := by decide +kernel
theorem dX8_guest_63 : decode cX8_guest 63 = .ok (.ireturn, 1) := by decide +kernel
theorem dX8_guest_64 : decode cX8_guest 64 = .ok (.aload_n 0, 1) := by decide +kernel
theorem dX8_guest_65 : decode cX8_guest 65 = .ok (.getfield 19, 3) := by decide +kernel
theorem dX8_guest_68 : decode cX8_guest 68 = .ok (.getfield 121, 3) := by decide +kernel
theorem dX8_guest_71 : decode cX8_guest 71 = .ok (.iload_n 1, 1) := by decide +kernel
theorem dX8_guest_72 : decode cX8_guest 72 = .ok (.iaload, 1) := by decide +kernel
theorem dX8_guest_73 : decode cX8_guest 73 = .ok (.ireturn, 1) := by decide +kernel
theorem dX8_guest_74 : decode cX8_guest 74 = .ok (.aload_n 0, 1) := by decide +kernel
theorem dX8_guest_75 : decode cX8_guest 75 = .ok (.getfield 19, 3) := by decide +kernel
theorem dX8_guest_78 : decode cX8_guest 78 = .ok (.getfield 124, 3) := by decide +kernel
theorem dX8_guest_81 : decode cX8_guest 81 = .ok (.iload_n 1, 1) := by decide +kernel
theorem dX8_guest_82 : decode cX8_guest 82 = .ok (.iaload, 1) := by decide +kernel
theorem dX8_guest_83 : decode cX8_guest 83 = .ok (.ireturn, 1) := by decide +kernel
theorem dX8_guest_84 : decode cX8_guest 84 = .ok (.iconst (-1), 1) := by decide +kernel
theorem dX8_guest_85 : decode cX8_guest 85 = .ok (.ireturn, 1) := by decide +kernel
theorem dX8_state_0 : decode cX8_state 0 = .ok (.aload_n 0, 1) := by decide +kernel
theorem dX8_state_1 : decode cX8_state 1 = .ok (.getfield 19, 3) := by decide +kernel
theorem dX8_state_4 : decode cX8_state 4 = .ok (.iload_n 1, 1) := by decide +kernel
theorem dX8_state_5 : decode cX8_state 5 = .ok (.invokevirtual 111, 3) := by decide +kernel
theorem dX8_state_8 : decode cX8_state 8 = .ok (.ifCond .ne 5, 3) := by decide +kernel
theorem dX8_state_11 : decode cX8_state 11 = .ok (.iconst (-1), 1) := by decide +kernel
theorem dX8_state_12 : decode cX8_state 12 = .ok (.ireturn, 1) := by decide +kernel
theorem dX8_state_13 : decode cX8_state 13 = .ok (.iload_n 2, 1) := by decide +kernel
theorem dX8_state_14 : decode cX8_state 14 = .ok (.tableswitch 112 0 6 #[42, 52, 62, 72, 82, 92, 102], 42) := by decide +kernel
theorem dX8_state_56 : decode cX8_state 56 = .ok (.aload_n 0, 1) := by decide +kernel
theorem dX8_state_57 : decode cX8_state 57 = .ok (.getfield 31, 3) := by decide +kernel
theorem dX8_state_60 : decode cX8_state 60 = .ok (.getfield 127, 3) := by decide +kernel
theorem dX8_state_63 : decode cX8_state 63 = .ok (.iload_n 1, 1) := by decide +kernel
theorem dX8_state_64 : decode cX8_state 64 = .ok (.iaload, 1) := by decide +kernel
theorem dX8_state_65 : decode cX8_state 65 = .ok (.ireturn, 1) := by decide +kernel
theorem dX8_state_66 : decode cX8_state 66 = .ok (.aload_n 0, 1) := by decide +kernel
theorem dX8_state_67 : decode cX8_state 67 = .ok (.getfield 31, 3) := by decide +kernel
theorem dX8_state_70 : decode cX8_state 70 = .ok (.getfield 130, 3) := by decide +kernel
theorem dX8_state_73 : decode cX8_state 73 = .ok (.iload_n 1, 1) := by decide +kernel
theorem dX8_state_74 : decode cX8_state 74 = .ok (.iaload, 1) := by decide +kernel
theorem dX8_state_75 : decode cX8_state 75 = .ok (.ireturn, 1) := by decide +kernel
theorem dX8_state_76 : decode cX8_state 76 = .ok (.aload_n 0, 1) := by decide +kernel
theorem dX8_state_77 : decode cX8_state 77 = .ok (.getfield 31, 3) := by decide +kernel
theorem dX8_state_80 : decode cX8_state 80 = .ok (.getfield 133, 3) := by decide +kernel
theorem dX8_state_83 : decode cX8_state 83 = .ok (.iload_n 1, 1) := by decide +kernel
theorem dX8_state_84 : decode cX8_state 84 = .ok (.iaload, 1) := by decide +kernel
theorem dX8_state_85 : decode cX8_state 85 = .ok (.ireturn, 1) := by decide +kernel
theorem dX8_state_86 : decode cX8_state 86 = .ok (.aload_n 0, 1) := by decide +kernel
theorem dX8_state_87 : decode cX8_state 87 = .ok (.getfield 31, 3) := by decide +kernel
theorem dX8_state_90 : decode cX8_state 90 = .ok (.getfield 136, 3) := by decide +kernel
theorem dX8_state_93 : decode cX8_state 93 = .ok (.iload_n 1, 1) := by decide +kernel
theorem dX8_state_94 : decode cX8_state 94 = .ok (.iaload, 1) := by decide +kernel
theorem dX8_state_95 : decode cX8_state 95 = .ok (.ireturn, 1) := by decide +kernel
theorem dX8_state_96 : decode cX8_state 96 = .ok (.aload_n 0, 1) := by decide +kernel
theorem dX8_state_97 : decode cX8_state 97 = .ok (.getfield 31, 3) := by decide +kernel
theorem dX8_state_100 : decode cX8_state 100 = .ok (.getfield 139, 3) := by decide +kernel
theorem dX8_state_103 : decode cX8_state 103 = .ok (.iload_n 1, 1) := by decide +kernel
theorem dX8_state_104 : decode cX8_state 104 = .ok (.iaload, 1) := by decide +kernel
theorem dX8_state_105 : decode cX8_state 105 = .ok (.ireturn, 1) := by decide +kernel
theorem dX8_state_106 : decode cX8_state 106 = .ok (.aload_n 0, 1) := by decide +kernel
theorem dX8_state_107 : decode cX8_state 107 = .ok (.getfield 31, 3) := by decide +kernel
theorem dX8_state_110 : decode cX8_state 110 = .ok (.getfield 142, 3) := by decide +kernel
theorem dX8_state_113 : decode cX8_state 113 = .ok (.iload_n 1, 1) := by decide +kernel
theorem dX8_state_114 : decode cX8_state 114 = .ok (.iaload, 1) := by decide +kernel
theorem dX8_state_115 : decode cX8_state 115 = .ok (.ireturn, 1) := by decide +kernel
theorem dX8_state_116 : decode cX8_state 116 = .ok (.aload_n 0, 1) := by decide +kernel
theorem dX8_state_117 : decode cX8_state 117 = .ok (.getfield 31, 3) := by decide +kernel
theorem dX8_state_120 : decode cX8_state 120 = .ok (.getfield 145, 3) := by decide +kernel
theorem dX8_state_123 : decode cX8_state 123 = .ok (.iload_n 1, 1) := by decide +kernel
theorem dX8_state_124 : decode cX8_state 124 = .ok (.iaload, 1) := by decide +kernel
theorem dX8_state_125 : decode cX8_state 125 = .ok (.ireturn, 1) := by decide +kernel
theorem dX8_state_126 : decode cX8_state 126 = .ok (.iconst (-1), 1) := by decide +kernel
theorem dX8_state_127 : decode cX8_state 127 = .ok (.ireturn, 1) := by decide +kernel
theorem dX8_pass_0 : decode cX8_pass 0 = .ok (.iload_n 1, 1) := by decide +kernel
theorem dX8_pass_1 : decode cX8_pass 1 = .ok (.iconst 1, 1) := by decide +kernel
theorem dX8_pass_2 : decode cX8_pass 2 = .ok (.if_icmp .lt 9, 3) := by decide +kernel
theorem dX8_pass_5 : decode cX8_pass 5 = .ok (.iload_n 1, 1) := by decide +kernel
theorem dX8_pass_6 : decode cX8_pass 6 = .ok (.bipush 24, 2) := by decide +kernel
theorem dX8_pass_8 : decode cX8_pass 8 = .ok (.if_icmp .le 5, 3) := by decide +kernel
theorem dX8_pass_11 : decode cX8_pass 11 = .ok (.iconst (-1), 1) := by decide +kernel
theorem dX8_pass_12 : decode cX8_pass 12 = .ok (.ireturn, 1) := by decide +kernel
theorem dX8_pass_13 : decode cX8_pass 13 = .ok (.aload_n 0, 1) := by decide +kernel
theorem dX8_pass_14 : decode cX8_pass 14 = .ok (.invokevirtual 148, 3) := by decide +kernel
theorem dX8_pass_17 : decode cX8_pass 17 = .ok (.iconst 0, 1) := by decide +kernel
theorem dX8_pass_18 : decode cX8_pass 18 = .ok (.istore_n 2, 1) := by decide +kernel
theorem dX8_pass_19 : decode cX8_pass 19 = .ok (.iload_n 2, 1) := by decide +kernel
theorem dX8_pass_20 : decode cX8_pass 20 = .ok (.iload_n 1, 1) := by decide +kernel
theorem dX8_pass_21 : decode cX8_pass 21 = .ok (.if_icmp .ge 16, 3) := by decide +kernel
theorem dX8_pass_24 : decode cX8_pass 24 = .ok (.aload_n 0, 1) := by decide +kernel
theorem dX8_pass_25 : decode cX8_pass 25 = .ok (.getfield 31, 3) := by decide +kernel
theorem dX8_pass_28 : decode cX8_pass 28 = .ok (.invokevirtual 151, 3) := by decide +kernel
theorem dX8_pass_31 : decode cX8_pass 31 = .ok (.iinc 2 1, 3) := by decide +kernel
theorem dX8_pass_34 : decode cX8_pass 34 = .ok (.goto (-15), 3) := by decide +kernel
theorem dX8_pass_37 : decode cX8_pass 37 = .ok (.aload_n 0, 1) := by decide +kernel
theorem dX8_pass_38 : decode cX8_pass 38 = .ok (.getfield 31, 3) := by decide +kernel
theorem dX8_pass_41 : decode cX8_pass 41 = .ok (.getfield 154, 3) := by decide +kernel
theorem dX8_pass_44 : decode cX8_pass 44 = .ok (.ireturn, 1) := by decide +kernel
theorem dX8_book_0 : decode cX8_book 0 = .ok (.aload_n 0, 1) := by decide +kernel
theorem dX8_book_1 : decode cX8_book 1 = .ok (.getfield 19, 3) := by decide +kernel
theorem dX8_book_4 : decode cX8_book 4 = .ok (.iload_n 1, 1) := by decide +kernel
theorem dX8_book_5 : decode cX8_book 5 = .ok (.invokevirtual 111, 3) := by decide +kernel
theorem dX8_book_8 : decode cX8_book 8 = .ok (.ifCond .eq 13, 3) := by decide +kernel
theorem dX8_book_11 : decode cX8_book 11 = .ok (.iload_n 2, 1) := by decide +kernel
theorem dX8_book_12 : decode cX8_book 12 = .ok (.ifCond .lt 9, 3) := by decide +kernel
theorem dX8_book_15 : decode cX8_book 15 = .ok (.iload_n 2, 1) := by decide +kernel
theorem dX8_book_16 : decode cX8_book 16 = .ok (.bipush 40, 2) := by decide +kernel
theorem dX8_book_18 : decode cX8_book 18 = .ok (.if_icmp .le 5, 3) := by decide +kernel
theorem dX8_book_21 : decode cX8_book 21 = .ok (.iconst (-1), 1) := by decide +kernel
theorem dX8_book_22 : decode cX8_book 22 = .ok (.ireturn, 1) := by decide +kernel
theorem dX8_book_23 : decode cX8_book 23 = .ok (.aload_n 0, 1) := by decide +kernel
theorem dX8_book_24 : decode cX8_book 24 = .ok (.getfield 31, 3) := by decide +kernel
theorem dX8_book_27 : decode cX8_book 27 = .ok (.iload_n 1, 1) := by decide +kernel
theorem dX8_book_28 : decode cX8_book 28 = .ok (.invokevirtual 157, 3) := by decide +kernel
theorem dX8_book_31 : decode cX8_book 31 = .ok (.ifCond .eq 14, 3) := by decide +kernel
theorem dX8_book_34 : decode cX8_book 34 = .ok (.iload_n 2, 1) := by decide +kernel
theorem dX8_book_35 : decode cX8_book 35 = .ok (.aload_n 0, 1) := by decide +kernel
theorem dX8_book_36 : decode cX8_book 36 = .ok (.getfield 31, 3) := by decide +kernel
theorem dX8_book_39 : decode cX8_book 39 = .ok (.getfield 154, 3) := by decide +kernel
theorem dX8_book_42 : decode cX8_book 42 = .ok (.if_icmp .ge 6, 3) := by decide +kernel
theorem dX8_book_45 : decode cX8_book 45 = .ok (.bipush (-2), 2) := by decide +kernel
theorem dX8_book_47 : decode cX8_book 47 = .ok (.ireturn, 1) := by decide +kernel
theorem dX8_book_48 : decode cX8_book 48 = .ok (.aload_n 0, 1) := by decide +kernel
theorem dX8_book_49 : decode cX8_book 49 = .ok (.invokevirtual 148, 3) := by decide +kernel
theorem dX8_book_52 : decode cX8_book 52 = .ok (.aload_n 0, 1) := by decide +kernel
theorem dX8_book_53 : decode cX8_book 53 = .ok (.getfield 31, 3) := by decide +kernel
theorem dX8_book_56 : decode cX8_book 56 = .ok (.getfield 130, 3) := by decide +kernel
theorem dX8_book_59 : decode cX8_book 59 = .ok (.iload_n 1, 1) := by decide +kernel
theorem dX8_book_60 : decode cX8_book 60 = .ok (.iaload, 1) := by decide +kernel
theorem dX8_book_61 : decode cX8_book 61 = .ok (.istore_n 3, 1) := by decide +kernel
theorem dX8_book_62 : decode cX8_book 62 = .ok (.aload_n 0, 1) := by decide +kernel
theorem dX8_book_63 : decode cX8_book 63 = .ok (.getfield 31, 3) := by decide +kernel
theorem dX8_book_66 : decode cX8_book 66 = .ok (.iload_n 1, 1) := by decide +kernel
theorem dX8_book_67 : decode cX8_book 67 = .ok (.iload_n 2, 1) := by decide +kernel
theorem dX8_book_68 : decode cX8_book 68 = .ok (.invokevirtual 160, 3) := by decide +kernel
theorem dX8_book_71 : decode cX8_book 71 = .ok (.iload_n 3, 1) := by decide +kernel
theorem dX8_book_72 : decode cX8_book 72 = .ok (.ireturn, 1) := by decide +kernel
theorem dX8_call_0 : decode cX8_call 0 = .ok (.aload_n 0, 1) := by decide +kernel
theorem dX8_call_1 : decode cX8_call 1 = .ok (.getfield 19, 3) := by decide +kernel
theorem dX8_call_4 : decode cX8_call 4 = .ok (.iload_n 1, 1) := by decide +kernel
theorem dX8_call_5 : decode cX8_call 5 = .ok (.invokevirtual 111, 3) := by decide +kernel
theorem dX8_call_8 : decode cX8_call 8 = .ok (.ifCond .ne 5, 3) := by decide +kernel
theorem dX8_call_11 : decode cX8_call 11 = .ok (.iconst (-1), 1) := by decide +kernel
theorem dX8_call_12 : decode cX8_call 12 = .ok (.ireturn, 1) := by decide +kernel
theorem dX8_call_13 : decode cX8_call 13 = .ok (.aload_n 0, 1) := by decide +kernel
theorem dX8_call_14 : decode cX8_call 14 = .ok (.getfield 31, 3) := by decide +kernel
theorem dX8_call_17 : decode cX8_call 17 = .ok (.iload_n 1, 1) := by decide +kernel
theorem dX8_call_18 : decode cX8_call 18 = .ok (.invokevirtual 157, 3) := by decide +kernel
theorem dX8_call_21 : decode cX8_call 21 = .ok (.ifCond .ne 6, 3) := by decide +kernel
theorem dX8_call_24 : decode cX8_call 24 = .ok (.bipush (-2), 2) := by decide +kernel
theorem dX8_call_26 : decode cX8_call 26 = .ok (.ireturn, 1) := by decide +kernel
theorem dX8_call_27 : decode cX8_call 27 = .ok (.aload_n 0, 1) := by decide +kernel
theorem dX8_call_28 : decode cX8_call 28 = .ok (.invokevirtual 148, 3) := by decide +kernel
theorem dX8_call_31 : decode cX8_call 31 = .ok (.aload_n 0, 1) := by decide +kernel
theorem dX8_call_32 : decode cX8_call 32 = .ok (.getfield 31, 3) := by decide +kernel
theorem dX8_call_35 : decode cX8_call 35 = .ok (.iload_n 1, 1) := by decide +kernel
theorem dX8_call_36 : decode cX8_call 36 = .ok (.invokevirtual 164, 3) := by decide +kernel
theorem dX8_call_39 : decode cX8_call 39 = .ok (.aload_n 0, 1) := by decide +kernel
theorem dX8_call_40 : decode cX8_call 40 = .ok (.getfield 31, 3) := by decide +kernel
theorem dX8_call_43 : decode cX8_call 43 = .ok (.iconst 0, 1) := by decide +kernel
theorem dX8_call_44 : decode cX8_call 44 = .ok (.invokevirtual 168, 3) := by decide +kernel
theorem dX8_call_47 : decode cX8_call 47 = .ok (.ireturn, 1) := by decide +kernel
theorem dX8_change_0 : decode cX8_change 0 = .ok (.aload_n 0, 1) := by decide +kernel
theorem dX8_change_1 : decode cX8_change 1 = .ok (.getfield 19, 3) := by decide +kernel
theorem dX8_change_4 : decode cX8_change 4 = .ok (.iload_n 1, 1) := by decide +kernel
theorem dX8_change_5 : decode cX8_change 5 = .ok (.invokevirtual 111, 3) := by decide +kernel
theorem dX8_change_8 : decode cX8_change 8 = .ok (.ifCond .eq 19, 3) := by decide +kernel
theorem dX8_change_11 : decode cX8_change 11 = .ok (.aload_n 0, 1) := by decide +kernel
theorem dX8_change_12 : decode cX8_change 12 = .ok (.getfield 19, 3) := by decide +kernel
theorem dX8_change_15 : decode cX8_change 15 = .ok (.iload_n 2, 1) := by decide +kernel
theorem dX8_change_16 : decode cX8_change 16 = .ok (.invokevirtual 111, 3) := by decide +kernel
theorem dX8_change_19 : decode cX8_change 19 = .ok (.ifCond .eq 8, 3) := by decide +kernel
theorem dX8_change_22 : decode cX8_change 22 = .ok (.iload_n 1, 1) := by decide +kernel
theorem dX8_change_23 : decode cX8_change 23 = .ok (.iload_n 2, 1) := by decide +kernel
theorem dX8_change_24 : decode cX8_change 24 = .ok (.if_icmp .ne 5, 3) := by decide +kernel
theorem dX8_change_27 : decode cX8_change 27 = .ok (.iconst (-1), 1) := by decide +kernel
theorem dX8_change_28 : decode cX8_change 28 = .ok (.ireturn, 1) := by decide +kernel
theorem dX8_change_29 : decode cX8_change 29 = .ok (.aload_n 0, 1) := by decide +kernel
theorem dX8_change_30 : decode cX8_change 30 = .ok (.getfield 31, 3) := by decide +kernel
theorem dX8_change_33 : decode cX8_change 33 = .ok (.iload_n 1, 1) := by decide +kernel
theorem dX8_change_34 : decode cX8_change 34 = .ok (.invokevirtual 157, 3) := by decide +kernel
theorem dX8_change_37 : decode cX8_change 37 = .ok (.ifCond .eq 14, 3) := by decide +kernel
theorem dX8_change_40 : decode cX8_change 40 = .ok (.aload_n 0, 1) := by decide +kernel
theorem dX8_change_41 : decode cX8_change 41 = .ok (.getfield 31, 3) := by decide +kernel
theorem dX8_change_44 : decode cX8_change 44 = .ok (.iload_n 2, 1) := by decide +kernel
theorem dX8_change_45 : decode cX8_change 45 = .ok (.invokevirtual 157, 3) := by decide +kernel
theorem dX8_change_48 : decode cX8_change 48 = .ok (.ifCond .ne 6, 3) := by decide +kernel
theorem dX8_change_51 : decode cX8_change 51 = .ok (.bipush (-2), 2) := by decide +kernel
theorem dX8_change_53 : decode cX8_change 53 = .ok (.ireturn, 1) := by decide +kernel
theorem dX8_change_54 : decode cX8_change 54 = .ok (.aload_n 0, 1) := by decide +kernel
theorem dX8_change_55 : decode cX8_change 55 = .ok (.invokevirtual 148, 3) := by decide +kernel
theorem dX8_change_58 : decode cX8_change 58 = .ok (.aload_n 0, 1) := by decide +kernel
theorem dX8_change_59 : decode cX8_change 59 = .ok (.getfield 31, 3) := by decide +kernel
theorem dX8_change_62 : decode cX8_change 62 = .ok (.iload_n 1, 1) := by decide +kernel
theorem dX8_change_63 : decode cX8_change 63 = .ok (.iload_n 2, 1) := by decide +kernel
theorem dX8_change_64 : decode cX8_change 64 = .ok (.invokevirtual 172, 3) := by decide +kernel
theorem dX8_change_67 : decode cX8_change 67 = .ok (.aload_n 0, 1) := by decide +kernel
theorem dX8_change_68 : decode cX8_change 68 = .ok (.getfield 31, 3) := by decide +kernel
theorem dX8_change_71 : decode cX8_change 71 = .ok (.getfield 133, 3) := by decide +kernel
theorem dX8_change_74 : decode cX8_change 74 = .ok (.iload_n 1, 1) := by decide +kernel
theorem dX8_change_75 : decode cX8_change 75 = .ok (.iaload, 1) := by decide +kernel
theorem dX8_change_76 : decode cX8_change 76 = .ok (.ireturn, 1) := by decide +kernel
theorem dX8_undo_0 : decode cX8_undo 0 = .ok (.aload_n 0, 1) := by decide +kernel
theorem dX8_undo_1 : decode cX8_undo 1 = .ok (.getfield 50, 3) := by decide +kernel
theorem dX8_undo_4 : decode cX8_undo 4 = .ok (.aload_n 0, 1) := by decide +kernel
theorem dX8_undo_5 : decode cX8_undo 5 = .ok (.getfield 31, 3) := by decide +kernel
theorem dX8_undo_8 : decode cX8_undo 8 = .ok (.invokevirtual 175, 3) := by decide +kernel
theorem dX8_undo_11 : decode cX8_undo 11 = .ok (.ifCond .ne 6, 3) := by decide +kernel
theorem dX8_undo_14 : decode cX8_undo 14 = .ok (.bipush (-2), 2) := by decide +kernel
theorem dX8_undo_16 : decode cX8_undo 16 = .ok (.ireturn, 1) := by decide +kernel
theorem dX8_undo_17 : decode cX8_undo 17 = .ok (.aload_n 0, 1) := by decide +kernel
theorem dX8_undo_18 : decode cX8_undo 18 = .ok (.getfield 60, 3) := by decide +kernel
theorem dX8_undo_21 : decode cX8_undo 21 = .ok (.invokevirtual 179, 3) := by decide +kernel
theorem dX8_undo_24 : decode cX8_undo 24 = .ok (.aload_n 0, 1) := by decide +kernel
theorem dX8_undo_25 : decode cX8_undo 25 = .ok (.getfield 50, 3) := by decide +kernel
theorem dX8_undo_28 : decode cX8_undo 28 = .ok (.getfield 182, 3) := by decide +kernel
theorem dX8_undo_31 : decode cX8_undo 31 = .ok (.ireturn, 1) := by decide +kernel
theorem dX8_freed_0 : decode cX8_freed 0 = .ok (.aload_n 0, 1) := by decide +kernel
theorem dX8_freed_1 : decode cX8_freed 1 = .ok (.getfield 19, 3) := by decide +kernel
theorem dX8_freed_4 : decode cX8_freed 4 = .ok (.iload_n 1, 1) := by decide +kernel
theorem dX8_freed_5 : decode cX8_freed 5 = .ok (.invokevirtual 111, 3) := by decide +kernel
theorem dX8_freed_8 : decode cX8_freed 8 = .ok (.ifCond .ne 5, 3) := by decide +kernel
theorem dX8_freed_11 : decode cX8_freed 11 = .ok (.iconst (-1), 1) := by decide +kernel
theorem dX8_freed_12 : decode cX8_freed 12 = .ok (.ireturn, 1) := by decide +kernel
theorem dX8_freed_13 : decode cX8_freed 13 = .ok (.aload_n 0, 1) := by decide +kernel
theorem dX8_freed_14 : decode cX8_freed 14 = .ok (.getfield 41, 3) := by decide +kernel
theorem dX8_freed_17 : decode cX8_freed 17 = .ok (.aload_n 0, 1) := by decide +kernel
theorem dX8_freed_18 : decode cX8_freed 18 = .ok (.getfield 31, 3) := by decide +kernel
theorem dX8_freed_21 : decode cX8_freed 21 = .ok (.invokevirtual 183, 3) := by decide +kernel
theorem dX8_freed_24 : decode cX8_freed 24 = .ok (.aload_n 0, 1) := by decide +kernel
theorem dX8_freed_25 : decode cX8_freed 25 = .ok (.getfield 41, 3) := by decide +kernel
theorem dX8_freed_28 : decode cX8_freed 28 = .ok (.getfield 187, 3) := by decide +kernel
theorem dX8_freed_31 : decode cX8_freed 31 = .ok (.iload_n 1, 1) := by decide +kernel
theorem dX8_freed_32 : decode cX8_freed 32 = .ok (.iaload, 1) := by decide +kernel
theorem dX8_freed_33 : decode cX8_freed 33 = .ok (.invokestatic 190, 3) := by decide +kernel
theorem dX8_freed_36 : decode cX8_freed 36 = .ok (.ireturn, 1) := by decide +kernel
theorem dX8_task_0 : decode cX8_task 0 = .ok (.aload_n 0, 1) := by decide +kernel
theorem dX8_task_1 : decode cX8_task 1 = .ok (.getfield 19, 3) := by decide +kernel
theorem dX8_task_4 : decode cX8_task 4 = .ok (.iload_n 1, 1) := by decide +kernel
theorem dX8_task_5 : decode cX8_task 5 = .ok (.invokevirtual 111, 3) := by decide +kernel
theorem dX8_task_8 : decode cX8_task 8 = .ok (.ifCond .ne 5, 3) := by decide +kernel
theorem dX8_task_11 : decode cX8_task 11 = .ok (.iconst (-1), 1) := by decide +kernel
theorem dX8_task_12 : decode cX8_task 12 = .ok (.ireturn, 1) := by decide +kernel
theorem dX8_task_13 : decode cX8_task 13 = .ok (.aload_n 0, 1) := by decide +kernel
theorem dX8_task_14 : decode cX8_task 14 = .ok (.getfield 41, 3) := by decide +kernel
theorem dX8_task_17 : decode cX8_task 17 = .ok (.aload_n 0, 1) := by decide +kernel
theorem dX8_task_18 : decode cX8_task 18 = .ok (.getfield 31, 3) := by decide +kernel
theorem dX8_task_21 : decode cX8_task 21 = .ok (.invokevirtual 183, 3) := by decide +kernel
theorem dX8_task_24 : decode cX8_task 24 = .ok (.aload_n 0, 1) := by decide +kernel
theorem dX8_task_25 : decode cX8_task 25 = .ok (.getfield 31, 3) := by decide +kernel
theorem dX8_task_28 : decode cX8_task 28 = .ok (.iload_n 1, 1) := by decide +kernel
theorem dX8_task_29 : decode cX8_task 29 = .ok (.invokevirtual 193, 3) := by decide +kernel
theorem dX8_task_32 : decode cX8_task 32 = .ok (.aload_n 0, 1) := by decide +kernel
theorem dX8_task_33 : decode cX8_task 33 = .ok (.getfield 41, 3) := by decide +kernel
theorem dX8_task_36 : decode cX8_task 36 = .ok (.getfield 196, 3) := by decide +kernel
theorem dX8_task_39 : decode cX8_task 39 = .ok (.iload_n 1, 1) := by decide +kernel
theorem dX8_task_40 : decode cX8_task 40 = .ok (.iaload, 1) := by decide +kernel
theorem dX8_task_41 : decode cX8_task 41 = .ok (.iadd, 1) := by decide +kernel
theorem dX8_task_42 : decode cX8_task 42 = .ok (.ireturn, 1) := by decide +kernel
theorem dX8_early_0 : decode cX8_early 0 = .ok (.aload_n 0, 1) := by decide +kernel
theorem dX8_early_1 : decode cX8_early 1 = .ok (.getfield 19, 3) := by decide +kernel
theorem dX8_early_4 : decode cX8_early 4 = .ok (.iload_n 1, 1) := by decide +kernel
theorem dX8_early_5 : decode cX8_early 5 = .ok (.invokevirtual 111, 3) := by decide +kernel
theorem dX8_early_8 : decode cX8_early 8 = .ok (.ifCond .eq 12, 3) := by decide +kernel
theorem dX8_early_11 : decode cX8_early 11 = .ok (.iload_n 2, 1) := by decide +kernel
theorem dX8_early_12 : decode cX8_early 12 = .ok (.ifCond .lt 8, 3) := by decide +kernel
theorem dX8_early_15 : decode cX8_early 15 = .ok (.iload_n 2, 1) := by decide +kernel
theorem dX8_early_16 : decode cX8_early 16 = .ok (.iconst 1, 1) := by decide +kernel
theorem dX8_early_17 : decode cX8_early 17 = .ok (.if_icmp .le 5, 3) := by decide +kernel
theorem dX8_early_20 : decode cX8_early 20 = .ok (.iconst (-1), 1) := by decide +kernel
theorem dX8_early_21 : decode cX8_early 21 = .ok (.ireturn, 1) := by decide +kernel
theorem dX8_early_22 : decode cX8_early 22 = .ok (.aload_n 0, 1) := by decide +kernel
theorem dX8_early_23 : decode cX8_early 23 = .ok (.getfield 31, 3) := by decide +kernel
theorem dX8_early_26 : decode cX8_early 26 = .ok (.iload_n 1, 1) := by decide +kernel
theorem dX8_early_27 : decode cX8_early 27 = .ok (.invokevirtual 157, 3) := by decide +kernel
theorem dX8_early_30 : decode cX8_early 30 = .ok (.ifCond .ne 6, 3) := by decide +kernel
theorem dX8_early_33 : decode cX8_early 33 = .ok (.bipush (-2), 2) := by decide +kernel
theorem dX8_early_35 : decode cX8_early 35 = .ok (.ireturn, 1) := by decide +kernel
theorem dX8_early_36 : decode cX8_early 36 = .ok (.aload_n 0, 1) := by decide +kernel
theorem dX8_early_37 : decode cX8_early 37 = .ok (.getfield 35, 3) := by decide +kernel
theorem dX8_early_40 : decode cX8_early 40 = .ok (.aload_n 0, 1) := by decide +kernel
theorem dX8_early_41 : decode cX8_early 41 = .ok (.getfield 31, 3) := by decide +kernel
theorem dX8_early_44 : decode cX8_early 44 = .ok (.invokevirtual 199, 3) := by decide +kernel
theorem dX8_early_47 : decode cX8_early 47 = .ok (.bipush (-4), 2) := by decide +kernel
theorem dX8_early_49 : decode cX8_early 49 = .ok (.istore_n 3, 1) := by decide +kernel
theorem dX8_early_50 : decode cX8_early 50 = .ok (.bipush (-4), 2) := by decide +kernel
theorem dX8_early_52 : decode cX8_early 52 = .ok (.istore 4, 2) := by decide +kernel
theorem dX8_early_54 : decode cX8_early 54 = .ok (.iconst 0, 1) := by decide +kernel
theorem dX8_early_55 : decode cX8_early 55 = .ok (.aload_n 0, 1) := by decide +kernel
theorem dX8_early_56 : decode cX8_early 56 = .ok (.getfield 31, 3) := by decide +kernel
theorem dX8_early_59 : decode cX8_early 59 = .ok (.getfield 154, 3) := by decide +kernel
theorem dX8_early_62 : decode cX8_early 62 = .ok (.invokestatic 202, 3) := by decide +kernel
theorem dX8_early_65 : decode cX8_early 65 = .ok (.istore 5, 2) := by decide +kernel
theorem dX8_early_67 : decode cX8_early 67 = .ok (.iload 5, 2) := by decide +kernel
theorem dX8_early_69 : decode cX8_early 69 = .ok (.bipush 40, 2) := by decide +kernel
theorem dX8_early_71 : decode cX8_early 71 = .ok (.if_icmp .gt 64, 3) := by decide +kernel
theorem dX8_early_74 : decode cX8_early 74 = .ok (.aload_n 0, 1) := by decide +kernel
theorem dX8_early_75 : decode cX8_early 75 = .ok (.getfield 35, 3) := by decide +kernel
theorem dX8_early_78 : decode cX8_early 78 = .ok (.iload_n 1, 1) := by decide +kernel
theorem dX8_early_79 : decode cX8_early 79 = .ok (.iload 5, 2) := by decide +kernel
theorem dX8_early_81 : decode cX8_early 81 = .ok (.invokevirtual 160, 3) := by decide +kernel
theorem dX8_early_84 : decode cX8_early 84 = .ok (.aload_n 0, 1) := by decide +kernel
theorem dX8_early_85 : decode cX8_early 85 = .ok (.getfield 41, 3) := by decide +kernel
theorem dX8_early_88 : decode cX8_early 88 = .ok (.aload_n 0, 1) := by decide +kernel
theorem dX8_early_89 : decode cX8_early 89 = .ok (.getfield 35, 3) := by decide +kernel
theorem dX8_early_92 : decode cX8_early 92 = .ok (.invokevirtual 183, 3) := by decide +kernel
theorem dX8_early_95 : decode cX8_early 95 = .ok (.iload_n 3, 1) := by decide +kernel
theorem dX8_early_96 : decode cX8_early 96 = .ok (.bipush (-4), 2) := by decide +kernel
theorem dX8_early_98 : decode cX8_early 98 = .ok (.if_icmp .eq 17, 3) := by decide +kernel
theorem dX8_early_101 : decode cX8_early 101 = .ok (.aload_n 0, 1) := by decide +kernel
theorem dX8_early_102 : decode cX8_early 102 = .ok (.getfield 41, 3) := by decide +kernel
theorem dX8_early_105 : decode cX8_early 105 = .ok (.getfield 196, 3) := by decide +kernel
theorem dX8_early_108 : decode cX8_early 108 = .ok (.iload_n 1, 1) := by decide +kernel
theorem dX8_early_109 : decode cX8_early 109 = .ok (.iaload, 1) := by decide +kernel
theorem dX8_early_110 : decode cX8_early 110 = .ok (.iload 4, 2) := by decide +kernel
theorem dX8_early_112 : decode cX8_early 112 = .ok (.if_icmp .ge 17, 3) := by decide +kernel
theorem dX8_early_115 : decode cX8_early 115 = .ok (.iload 5, 2) := by decide +kernel
theorem dX8_early_117 : decode cX8_early 117 = .ok (.istore_n 3, 1) := by decide +kernel
theorem dX8_early_118 : decode cX8_early 118 = .ok (.aload_n 0, 1) := by decide +kernel
theorem dX8_early_119 : decode cX8_early 119 = .ok (.getfield 41, 3) := by decide +kernel
theorem dX8_early_122 : decode cX8_early 122 = .ok (.getfield 196, 3) := by decide +kernel
theorem dX8_early_125 : decode cX8_early 125 = .ok (.iload_n 1, 1) := by decide +kernel
theorem dX8_early_126 : decode cX8_early 126 = .ok (.iaload, 1) := by decide +kernel
theorem dX8_early_127 : decode cX8_early 127 = .ok (.istore 4, 2) := by decide +kernel
theorem dX8_early_129 : decode cX8_early 129 = .ok (.iinc 5 1, 3) := by decide +kernel
theorem dX8_early_132 : decode cX8_early 132 = .ok (.goto (-65), 3) := by decide +kernel
theorem dX8_early_135 : decode cX8_early 135 = .ok (.iload_n 2, 1) := by decide +kernel
theorem dX8_early_136 : decode cX8_early 136 = .ok (.ifCond .ne 7, 3) := by decide +kernel
theorem dX8_early_139 : decode cX8_early 139 = .ok (.iload_n 3, 1) := by decide +kernel
theorem dX8_early_140 : decode cX8_early 140 = .ok (.goto 5, 3) := by decide +kernel
theorem dX8_early_143 : decode cX8_early 143 = .ok (.iload 4, 2) := by decide +kernel
theorem dX8_early_145 : decode cX8_early 145 = .ok (.ireturn, 1) := by decide +kernel
theorem dX8_done_0 : decode cX8_done 0 = .ok (.aload_n 0, 1) := by decide +kernel
theorem dX8_done_1 : decode cX8_done 1 = .ok (.getfield 41, 3) := by decide +kernel
theorem dX8_done_4 : decode cX8_done 4 = .ok (.aload_n 0, 1) := by decide +kernel
theorem dX8_done_5 : decode cX8_done 5 = .ok (.getfield 31, 3) := by decide +kernel
theorem dX8_done_8 : decode cX8_done 8 = .ok (.invokevirtual 183, 3) := by decide +kernel
theorem dX8_done_11 : decode cX8_done 11 = .ok (.aload_n 0, 1) := by decide +kernel
theorem dX8_done_12 : decode cX8_done 12 = .ok (.getfield 41, 3) := by decide +kernel
theorem dX8_done_15 : decode cX8_done 15 = .ok (.getfield 208, 3) := by decide +kernel
theorem dX8_done_18 : decode cX8_done 18 = .ok (.invokestatic 190, 3) := by decide +kernel
theorem dX8_done_21 : decode cX8_done 21 = .ok (.ireturn, 1) := by decide +kernel
theorem dX8_deal_0 : decode cX8_deal 0 = .ok (.iload_n 1, 1) := by decide +kernel
theorem dX8_deal_1 : decode cX8_deal 1 = .ok (.iconst (-1), 1) := by decide +kernel
theorem dX8_deal_2 : decode cX8_deal 2 = .ok (.if_icmp .eq 16, 3) := by decide +kernel
theorem dX8_deal_5 : decode cX8_deal 5 = .ok (.aload_n 0, 1) := by decide +kernel
theorem dX8_deal_6 : decode cX8_deal 6 = .ok (.getfield 19, 3) := by decide +kernel
theorem dX8_deal_9 : decode cX8_deal 9 = .ok (.iload_n 1, 1) := by decide +kernel
theorem dX8_deal_10 : decode cX8_deal 10 = .ok (.invokevirtual 111, 3) := by decide +kernel
theorem dX8_deal_13 : decode cX8_deal 13 = .ok (.ifCond .ne 5, 3) := by decide +kernel
theorem dX8_deal_16 : decode cX8_deal 16 = .ok (.iconst (-1), 1) := by decide +kernel
theorem dX8_deal_17 : decode cX8_deal 17 = .ok (.ireturn, 1) := by decide +kernel
theorem dX8_deal_18 : decode cX8_deal 18 = .ok (.aload_n 0, 1) := by decide +kernel
theorem dX8_deal_19 : decode cX8_deal 19 = .ok (.getfield 60, 3) := by decide +kernel
theorem dX8_deal_22 : decode cX8_deal 22 = .ok (.aload_n 0, 1) := by decide +kernel
theorem dX8_deal_23 : decode cX8_deal 23 = .ok (.getfield 31, 3) := by decide +kernel
theorem dX8_deal_26 : decode cX8_deal 26 = .ok (.invokevirtual 211, 3) := by decide +kernel
theorem dX8_deal_29 : decode cX8_deal 29 = .ok (.iload_n 1, 1) := by decide +kernel
theorem dX8_deal_30 : decode cX8_deal 30 = .ok (.iconst (-1), 1) := by decide +kernel
theorem dX8_deal_31 : decode cX8_deal 31 = .ok (.if_icmp .ne 16, 3) := by decide +kernel
theorem dX8_deal_34 : decode cX8_deal 34 = .ok (.aload_n 0, 1) := by decide +kernel
theorem dX8_deal_35 : decode cX8_deal 35 = .ok (.getfield 60, 3) := by decide +kernel
theorem dX8_deal_38 : decode cX8_deal 38 = .ok (.getfield 214, 3) := by decide +kernel
theorem dX8_deal_41 : decode cX8_deal 41 = .ok (.invokestatic 190, 3) := by decide +kernel
theorem dX8_deal_44 : decode cX8_deal 44 = .ok (.goto 11, 3) := by decide +kernel
theorem dX8_deal_47 : decode cX8_deal 47 = .ok (.aload_n 0, 1) := by decide +kernel
theorem dX8_deal_48 : decode cX8_deal 48 = .ok (.getfield 60, 3) := by decide +kernel
theorem dX8_deal_51 : decode cX8_deal 51 = .ok (.iload_n 1, 1) := by decide +kernel
theorem dX8_deal_52 : decode cX8_deal 52 = .ok (.invokevirtual 217, 3) := by decide +kernel
theorem dX8_deal_55 : decode cX8_deal 55 = .ok (.ireturn, 1) := by decide +kernel
theorem dX8_off_0 : decode cX8_off 0 = .ok (.iload_n 1, 1) := by decide +kernel
theorem dX8_off_1 : decode cX8_off 1 = .ok (.ifCond .lt 8, 3) := by decide +kernel
theorem dX8_off_4 : decode cX8_off 4 = .ok (.iload_n 1, 1) := by decide +kernel
theorem dX8_off_5 : decode cX8_off 5 = .ok (.iconst 1, 1) := by decide +kernel
theorem dX8_off_6 : decode cX8_off 6 = .ok (.if_icmp .le 5, 3) := by decide +kernel
theorem dX8_off_9 : decode cX8_off 9 = .ok (.iconst (-1), 1) := by decide +kernel
theorem dX8_off_10 : decode cX8_off 10 = .ok (.ireturn, 1) := by decide +kernel
theorem dX8_off_11 : decode cX8_off 11 = .ok (.bipush (-4), 2) := by decide +kernel
theorem dX8_off_13 : decode cX8_off 13 = .ok (.istore_n 2, 1) := by decide +kernel
theorem dX8_off_14 : decode cX8_off 14 = .ok (.bipush 100, 2) := by decide +kernel
theorem dX8_off_16 : decode cX8_off 16 = .ok (.istore_n 3, 1) := by decide +kernel
theorem dX8_off_17 : decode cX8_off 17 = .ok (.iconst 0, 1) := by decide +kernel
theorem dX8_off_18 : decode cX8_off 18 = .ok (.istore 4, 2) := by decide +kernel
theorem dX8_off_20 : decode cX8_off 20 = .ok (.iload 4, 2) := by decide +kernel
theorem dX8_off_22 : decode cX8_off 22 = .ok (.bipush 7, 2) := by decide +kernel
theorem dX8_off_24 : decode cX8_off 24 = .ok (.if_icmp .ge 86, 3) := by decide +kernel
theorem dX8_off_27 : decode cX8_off 27 = .ok (.iload 4, 2) := by decide +kernel
theorem dX8_off_29 : decode cX8_off 29 = .ok (.aload_n 0, 1) := by decide +kernel
theorem dX8_off_30 : decode cX8_off 30 = .ok (.getfield 19, 3) := by decide +kernel
theorem dX8_off_33 : decode cX8_off 33 = .ok (.getfield 108, 3) := by decide +kernel
theorem dX8_off_36 : decode cX8_off 36 = .ok (.if_icmp .ge 74, 3) := by decide +kernel
theorem dX8_off_39 : decode cX8_off 39 = .ok (.aload_n 0, 1) := by decide +kernel
theorem dX8_off_40 : decode cX8_off 40 = .ok (.getfield 31, 3) := by decide +kernel
theorem dX8_off_43 : decode cX8_off 43 = .ok (.iload 4, 2) := by decide +kernel
theorem dX8_off_45 : decode cX8_off 45 = .ok (.invokevirtual 157, 3) := by decide +kernel
theorem dX8_off_48 : decode cX8_off 48 = .ok (.ifCond .eq 56, 3) := by decide +kernel
theorem dX8_off_51 : decode cX8_off 51 = .ok (.aload_n 0, 1) := by decide +kernel
theorem dX8_off_52 : decode cX8_off 52 = .ok (.getfield 35, 3) := by decide +kernel
theorem dX8_off_55 : decode cX8_off 55 = .ok (.aload_n 0, 1) := by decide +kernel
theorem dX8_off_56 : decode cX8_off 56 = .ok (.getfield 31, 3) := by decide +kernel
theorem dX8_off_59 : decode cX8_off 59 = .ok (.invokevirtual 199, 3) := by decide +kernel
theorem dX8_off_62 : decode cX8_off 62 = .ok (.aload_n 0, 1) := by decide +kernel
theorem dX8_off_63 : decode cX8_off 63 = .ok (.getfield 35, 3) := by decide +kernel
theorem dX8_off_66 : decode cX8_off 66 = .ok (.iload 4, 2) := by decide +kernel
theorem dX8_off_68 : decode cX8_off 68 = .ok (.invokevirtual 164, 3) := by decide +kernel
theorem dX8_off_71 : decode cX8_off 71 = .ok (.aload_n 0, 1) := by decide +kernel
theorem dX8_off_72 : decode cX8_off 72 = .ok (.getfield 41, 3) := by decide +kernel
theorem dX8_off_75 : decode cX8_off 75 = .ok (.aload_n 0, 1) := by decide +kernel
theorem dX8_off_76 : decode cX8_off 76 = .ok (.getfield 35, 3) := by decide +kernel
theorem dX8_off_79 : decode cX8_off 79 = .ok (.invokevirtual 183, 3) := by decide +kernel
theorem dX8_off_82 : decode cX8_off 82 = .ok (.aload_n 0, 1) := by decide +kernel
theorem dX8_off_83 : decode cX8_off 83 = .ok (.getfield 41, 3) := by decide +kernel
theorem dX8_off_86 : decode cX8_off 86 = .ok (.getfield 208, 3) := by decide +kernel
theorem dX8_off_89 : decode cX8_off 89 = .ok (.iload_n 3, 1) := by decide +kernel
theorem dX8_off_90 : decode cX8_off 90 = .ok (.if_icmp .ge 14, 3) := by decide +kernel
theorem dX8_off_93 : decode cX8_off 93 = .ok (.iload 4, 2) := by decide +kernel
theorem dX8_off_95 : decode cX8_off 95 = .ok (.istore_n 2, 1) := by decide +kernel
theorem dX8_off_96 : decode cX8_off 96 = .ok (.aload_n 0, 1) := by decide +kernel
theorem dX8_off_97 : decode cX8_off 97 = .ok (.getfield 41, 3) := by decide +kernel
theorem dX8_off_100 : decode cX8_off 100 = .ok (.getfield 208, 3) := by decide +kernel
theorem dX8_off_103 : decode cX8_off 103 = .ok (.istore_n 3, 1) := by decide +kernel
theorem dX8_off_104 : decode cX8_off 104 = .ok (.iinc 4 1, 3) := by decide +kernel
theorem dX8_off_107 : decode cX8_off 107 = .ok (.goto (-87), 3) := by decide +kernel
theorem dX8_off_110 : decode cX8_off 110 = .ok (.iload_n 2, 1) := by decide +kernel
theorem dX8_off_111 : decode cX8_off 111 = .ok (.bipush (-4), 2) := by decide +kernel
theorem dX8_off_113 : decode cX8_off 113 = .ok (.if_icmp .ne 6, 3) := by decide +kernel
theorem dX8_off_116 : decode cX8_off 116 = .ok (.bipush (-4), 2) := by decide +kernel
theorem dX8_off_118 : decode cX8_off 118 = .ok (.ireturn, 1) := by decide +kernel
theorem dX8_off_119 : decode cX8_off 119 = .ok (.iload_n 1, 1) := by decide +kernel
theorem dX8_off_120 : decode cX8_off 120 = .ok (.ifCond .ne 7, 3) := by decide +kernel
theorem dX8_off_123 : decode cX8_off 123 = .ok (.iload_n 2, 1) := by decide +kernel
theorem dX8_off_124 : decode cX8_off 124 = .ok (.goto 4, 3) := by decide +kernel
theorem dX8_off_127 : decode cX8_off 127 = .ok (.iload_n 3, 1) := by decide +kernel
theorem dX8_off_128 : decode cX8_off 128 = .ok (.ireturn, 1) := by decide +kernel
theorem dX8_see_0 : decode cX8_see 0 = .ok (.aload_n 0, 1) := by decide +kernel
theorem dX8_see_1 : decode cX8_see 1 = .ok (.getfield 19, 3) := by decide +kernel
theorem dX8_see_4 : decode cX8_see 4 = .ok (.iload_n 1, 1) := by decide +kernel
theorem dX8_see_5 : decode cX8_see 5 = .ok (.invokevirtual 111, 3) := by decide +kernel
theorem dX8_see_8 : decode cX8_see 8 = .ok (.ifCond .eq 14, 3) := by decide +kernel
theorem dX8_see_11 : decode cX8_see 11 = .ok (.iload_n 2, 1) := by decide +kernel
theorem dX8_see_12 : decode cX8_see 12 = .ok (.ifCond .lt 10, 3) := by decide +kernel
theorem dX8_see_15 : decode cX8_see 15 = .ok (.iload_n 2, 1) := by decide +kernel
theorem dX8_see_16 : decode cX8_see 16 = .ok (.sipush 200, 3) := by decide +kernel
theorem dX8_see_19 : decode cX8_see 19 = .ok (.if_icmp .le 5, 3) := by decide +kernel
theorem dX8_see_22 : decode cX8_see 22 = .ok (.iconst (-1), 1) := by decide +kernel
theorem dX8_see_23 : decode cX8_see 23 = .ok (.ireturn, 1) := by decide +kernel
theorem dX8_see_24 : decode cX8_see 24 = .ok (.aload_n 0, 1) := by decide +kernel
theorem dX8_see_25 : decode cX8_see 25 = .ok (.getfield 67, 3) := by decide +kernel
theorem dX8_see_28 : decode cX8_see 28 = .ok (.iload_n 1, 1) := by decide +kernel
theorem dX8_see_29 : decode cX8_see 29 = .ok (.iload_n 2, 1) := by decide +kernel
theorem dX8_see_30 : decode cX8_see 30 = .ok (.invokevirtual 220, 3) := by decide +kernel
theorem dX8_see_33 : decode cX8_see 33 = .ok (.ifCond .eq 13, 3) := by decide +kernel
theorem dX8_see_36 : decode cX8_see 36 = .ok (.aload_n 0, 1) := by decide +kernel
theorem dX8_see_37 : decode cX8_see 37 = .ok (.getfield 67, 3) := by decide +kernel
theorem dX8_see_40 : decode cX8_see 40 = .ok (.getfield 224, 3) := by decide +kernel
theorem dX8_see_43 : decode cX8_see 43 = .ok (.goto 5, 3) := by decide +kernel
theorem dX8_see_46 : decode cX8_see 46 = .ok (.bipush (-3), 2) := by decide +kernel
theorem dX8_see_48 : decode cX8_see 48 = .ok (.ireturn, 1) := by decide +kernel
theorem dX8_forget_0 : decode cX8_forget 0 = .ok (.aload_n 0, 1) := by decide +kernel
theorem dX8_forget_1 : decode cX8_forget 1 = .ok (.getfield 67, 3) := by decide +kernel
theorem dX8_forget_4 : decode cX8_forget 4 = .ok (.getfield 224, 3) := by decide +kernel
theorem dX8_forget_7 : decode cX8_forget 7 = .ok (.istore_n 1, 1) := by decide +kernel
theorem dX8_forget_8 : decode cX8_forget 8 = .ok (.aload_n 0, 1) := by decide +kernel
theorem dX8_forget_9 : decode cX8_forget 9 = .ok (.getfield 67, 3) := by decide +kernel
theorem dX8_forget_12 : decode cX8_forget 12 = .ok (.invokevirtual 225, 3) := by decide +kernel
theorem dX8_forget_15 : decode cX8_forget 15 = .ok (.iload_n 1, 1) := by decide +kernel
theorem dX8_forget_16 : decode cX8_forget 16 = .ok (.ireturn, 1) := by decide +kernel
theorem dX8_orders_0 : decode cX8_orders 0 = .ok (.iload_n 1, 1) := by decide +kernel
theorem dX8_orders_1 : decode cX8_orders 1 = .ok (.iconst (-1), 1) := by decide +kernel
theorem dX8_orders_2 : decode cX8_orders 2 = .ok (.if_icmp .eq 16, 3) := by decide +kernel
theorem dX8_orders_5 : decode cX8_orders 5 = .ok (.aload_n 0, 1) := by decide +kernel
theorem dX8_orders_6 : decode cX8_orders 6 = .ok (.getfield 19, 3) := by decide +kernel
theorem dX8_orders_9 : decode cX8_orders 9 = .ok (.iload_n 1, 1) := by decide +kernel
theorem dX8_orders_10 : decode cX8_orders 10 = .ok (.invokevirtual 111, 3) := by decide +kernel
theorem dX8_orders_13 : decode cX8_orders 13 = .ok (.ifCond .ne 5, 3) := by decide +kernel
theorem dX8_orders_16 : decode cX8_orders 16 = .ok (.iconst (-1), 1) := by decide +kernel
theorem dX8_orders_17 : decode cX8_orders 17 = .ok (.ireturn, 1) := by decide +kernel
theorem dX8_orders_18 : decode cX8_orders 18 = .ok (.aload_n 0, 1) := by decide +kernel
theorem dX8_orders_19 : decode cX8_orders 19 = .ok (.getfield 67, 3) := by decide +kernel
theorem dX8_orders_22 : decode cX8_orders 22 = .ok (.invokevirtual 226, 3) := by decide +kernel
theorem dX8_orders_25 : decode cX8_orders 25 = .ok (.iload_n 1, 1) := by decide +kernel
theorem dX8_orders_26 : decode cX8_orders 26 = .ok (.iconst (-1), 1) := by decide +kernel
theorem dX8_orders_27 : decode cX8_orders 27 = .ok (.if_icmp .ne 13, 3) := by decide +kernel
theorem dX8_orders_30 : decode cX8_orders 30 = .ok (.aload_n 0, 1) := by decide +kernel
theorem dX8_orders_31 : decode cX8_orders 31 = .ok (.getfield 67, 3) := by decide +kernel
theorem dX8_orders_34 : decode cX8_orders 34 = .ok (.getfield 228, 3) := by decide +kernel
theorem dX8_orders_37 : decode cX8_orders 37 = .ok (.goto 11, 3) := by decide +kernel
theorem dX8_orders_40 : decode cX8_orders 40 = .ok (.aload_n 0, 1) := by decide +kernel
theorem dX8_orders_41 : decode cX8_orders 41 = .ok (.getfield 67, 3) := by decide +kernel
theorem dX8_orders_44 : decode cX8_orders 44 = .ok (.iload_n 1, 1) := by decide +kernel
theorem dX8_orders_45 : decode cX8_orders 45 = .ok (.invokevirtual 231, 3) := by decide +kernel
theorem dX8_orders_48 : decode cX8_orders 48 = .ok (.ireturn, 1) := by decide +kernel
theorem dX8_absent_0 : decode cX8_absent 0 = .ok (.aload_n 0, 1) := by decide +kernel
theorem dX8_absent_1 : decode cX8_absent 1 = .ok (.getfield 19, 3) := by decide +kernel
theorem dX8_absent_4 : decode cX8_absent 4 = .ok (.iload_n 1, 1) := by decide +kernel
theorem dX8_absent_5 : decode cX8_absent 5 = .ok (.invokevirtual 111, 3) := by decide +kernel
theorem dX8_absent_8 : decode cX8_absent 8 = .ok (.ifCond .eq 22, 3) := by decide +kernel
theorem dX8_absent_11 : decode cX8_absent 11 = .ok (.iload_n 2, 1) := by decide +kernel
theorem dX8_absent_12 : decode cX8_absent 12 = .ok (.ifCond .lt 18, 3) := by decide +kernel
theorem dX8_absent_15 : decode cX8_absent 15 = .ok (.iload_n 2, 1) := by decide +kernel
theorem dX8_absent_16 : decode cX8_absent 16 = .ok (.bipush 10, 2) := by decide +kernel
theorem dX8_absent_18 : decode cX8_absent 18 = .ok (.if_icmp .gt 12, 3) := by decide +kernel
theorem dX8_absent_21 : decode cX8_absent 21 = .ok (.iload_n 3, 1) := by decide +kernel
theorem dX8_absent_22 : decode cX8_absent 22 = .ok (.ifCond .lt 8, 3) := by decide +kernel
theorem dX8_absent_25 : decode cX8_absent 25 = .ok (.iload_n 3, 1) := by decide +kernel
theorem dX8_absent_26 : decode cX8_absent 26 = .ok (.iconst 1, 1) := by decide +kernel
theorem dX8_absent_27 : decode cX8_absent 27 = .ok (.if_icmp .le 5, 3) := by decide +kernel
theorem dX8_absent_30 : decode cX8_absent 30 = .ok (.iconst (-1), 1) := by decide +kernel
theorem dX8_absent_31 : decode cX8_absent 31 = .ok (.ireturn, 1) := by decide +kernel
theorem dX8_absent_32 : decode cX8_absent 32 = .ok (.aload_n 0, 1) := by decide +kernel
theorem dX8_absent_33 : decode cX8_absent 33 = .ok (.getfield 74, 3) := by decide +kernel
theorem dX8_absent_36 : decode cX8_absent 36 = .ok (.aload_n 0, 1) := by decide +kernel
theorem dX8_absent_37 : decode cX8_absent 37 = .ok (.getfield 31, 3) := by decide +kernel
theorem dX8_absent_40 : decode cX8_absent 40 = .ok (.iload_n 1, 1) := by decide +kernel
theorem dX8_absent_41 : decode cX8_absent 41 = .ok (.iload_n 2, 1) := by decide +kernel
theorem dX8_absent_42 : decode cX8_absent 42 = .ok (.invokevirtual 234, 3) := by decide +kernel
theorem dX8_absent_45 : decode cX8_absent 45 = .ok (.iload_n 3, 1) := by decide +kernel
theorem dX8_absent_46 : decode cX8_absent 46 = .ok (.ifCond .ne 13, 3) := by decide +kernel
theorem dX8_absent_49 : decode cX8_absent 49 = .ok (.aload_n 0, 1) := by decide +kernel
theorem dX8_absent_50 : decode cX8_absent 50 = .ok (.getfield 74, 3) := by decide +kernel
theorem dX8_absent_53 : decode cX8_absent 53 = .ok (.getfield 238, 3) := by decide +kernel
theorem dX8_absent_56 : decode cX8_absent 56 = .ok (.goto 10, 3) := by decide +kernel
theorem dX8_absent_59 : decode cX8_absent 59 = .ok (.aload_n 0, 1) := by decide +kernel
theorem dX8_absent_60 : decode cX8_absent 60 = .ok (.getfield 74, 3) := by decide +kernel
theorem dX8_absent_63 : decode cX8_absent 63 = .ok (.getfield 241, 3) := by decide +kernel
theorem dX8_absent_66 : decode cX8_absent 66 = .ok (.ireturn, 1) := by decide +kernel
theorem dX8_season_0 : decode cX8_season 0 = .ok (.iload_n 1, 1) := by decide +kernel
theorem dX8_season_1 : decode cX8_season 1 = .ok (.ifCond .lt 30, 3) := by decide +kernel
theorem dX8_season_4 : decode cX8_season 4 = .ok (.iload_n 1, 1) := by decide +kernel
theorem dX8_season_5 : decode cX8_season 5 = .ok (.sipush 9999, 3) := by decide +kernel
theorem dX8_season_8 : decode cX8_season 8 = .ok (.if_icmp .gt 23, 3) := by decide +kernel
theorem dX8_season_11 : decode cX8_season 11 = .ok (.iload_n 2, 1) := by decide +kernel
theorem dX8_season_12 : decode cX8_season 12 = .ok (.iconst 1, 1) := by decide +kernel
theorem dX8_season_13 : decode cX8_season 13 = .ok (.if_icmp .lt 18, 3) := by decide +kernel
theorem dX8_season_16 : decode cX8_season 16 = .ok (.iload_n 2, 1) := by decide +kernel
theorem dX8_season_17 : decode cX8_season 17 = .ok (.bipush 60, 2) := by decide +kernel
theorem dX8_season_19 : decode cX8_season 19 = .ok (.if_icmp .gt 12, 3) := by decide +kernel
theorem dX8_season_22 : decode cX8_season 22 = .ok (.iload_n 3, 1) := by decide +kernel
theorem dX8_season_23 : decode cX8_season 23 = .ok (.ifCond .lt 8, 3) := by decide +kernel
theorem dX8_season_26 : decode cX8_season 26 = .ok (.iload_n 3, 1) := by decide +kernel
theorem dX8_season_27 : decode cX8_season 27 = .ok (.iconst 1, 1) := by decide +kernel
theorem dX8_season_28 : decode cX8_season 28 = .ok (.if_icmp .le 5, 3) := by decide +kernel
theorem dX8_season_31 : decode cX8_season 31 = .ok (.iconst (-1), 1) := by decide +kernel
theorem dX8_season_32 : decode cX8_season 32 = .ok (.ireturn, 1) := by decide +kernel
theorem dX8_season_33 : decode cX8_season 33 = .ok (.aload_n 0, 1) := by decide +kernel
theorem dX8_season_34 : decode cX8_season 34 = .ok (.getfield 35, 3) := by decide +kernel
theorem dX8_season_37 : decode cX8_season 37 = .ok (.aload_n 0, 1) := by decide +kernel
theorem dX8_season_38 : decode cX8_season 38 = .ok (.getfield 31, 3) := by decide +kernel
theorem dX8_season_41 : decode cX8_season 41 = .ok (.invokevirtual 199, 3) := by decide +kernel
theorem dX8_season_44 : decode cX8_season 44 = .ok (.iconst 0, 1) := by decide +kernel
theorem dX8_season_45 : decode cX8_season 45 = .ok (.istore 4, 2) := by decide +kernel
theorem dX8_season_47 : decode cX8_season 47 = .ok (.iload 4, 2) := by decide +kernel
theorem dX8_season_49 : decode cX8_season 49 = .ok (.iload_n 2, 1) := by decide +kernel
theorem dX8_season_50 : decode cX8_season 50 = .ok (.if_icmp .ge 29, 3) := by decide +kernel
theorem dX8_season_53 : decode cX8_season 53 = .ok (.aload_n 0, 1) := by decide +kernel
theorem dX8_season_54 : decode cX8_season 54 = .ok (.getfield 35, 3) := by decide +kernel
theorem dX8_season_57 : decode cX8_season 57 = .ok (.iload_n 1, 1) := by decide +kernel
theorem dX8_season_58 : decode cX8_season 58 = .ok (.iload 4, 2) := by decide +kernel
theorem dX8_season_60 : decode cX8_season 60 = .ok (.invokestatic 244, 3) := by decide +kernel
theorem dX8_season_63 : decode cX8_season 63 = .ok (.invokevirtual 247, 3) := by decide +kernel
theorem dX8_season_66 : decode cX8_season 66 = .ok (.aload_n 0, 1) := by decide +kernel
theorem dX8_season_67 : decode cX8_season 67 = .ok (.getfield 35, 3) := by decide +kernel
theorem dX8_season_70 : decode cX8_season 70 = .ok (.invokevirtual 151, 3) := by decide +kernel
theorem dX8_season_73 : decode cX8_season 73 = .ok (.iinc 4 1, 3) := by decide +kernel
theorem dX8_season_76 : decode cX8_season 76 = .ok (.goto (-29), 3) := by decide +kernel
theorem dX8_season_79 : decode cX8_season 79 = .ok (.iload_n 3, 1) := by decide +kernel
theorem dX8_season_80 : decode cX8_season 80 = .ok (.ifCond .ne 14, 3) := by decide +kernel
theorem dX8_season_83 : decode cX8_season 83 = .ok (.aload_n 0, 1) := by decide +kernel
theorem dX8_season_84 : decode cX8_season 84 = .ok (.getfield 35, 3) := by decide +kernel
theorem dX8_season_87 : decode cX8_season 87 = .ok (.iconst 2, 1) := by decide +kernel
theorem dX8_season_88 : decode cX8_season 88 = .ok (.invokevirtual 168, 3) := by decide +kernel
theorem dX8_season_91 : decode cX8_season 91 = .ok (.goto 10, 3) := by decide +kernel
theorem dX8_season_94 : decode cX8_season 94 = .ok (.aload_n 0, 1) := by decide +kernel
theorem dX8_season_95 : decode cX8_season 95 = .ok (.getfield 35, 3) := by decide +kernel
theorem dX8_season_98 : decode cX8_season 98 = .ok (.invokevirtual 250, 3) := by decide +kernel
theorem dX8_season_101 : decode cX8_season 101 = .ok (.ireturn, 1) := by decide +kernel
theorem dX8_keep_0 : decode cX8_keep 0 = .ok (.aload_n 0, 1) := by decide +kernel
theorem dX8_keep_1 : decode cX8_keep 1 = .ok (.getfield 54, 3) := by decide +kernel
theorem dX8_keep_4 : decode cX8_keep 4 = .ok (.invokevirtual 253, 3) := by decide +kernel
theorem dX8_keep_7 : decode cX8_keep 7 = .ok (.ifCond .eq 6, 3) := by decide +kernel
theorem dX8_keep_10 : decode cX8_keep 10 = .ok (.bipush (-3), 2) := by decide +kernel
theorem dX8_keep_12 : decode cX8_keep 12 = .ok (.ireturn, 1) := by decide +kernel
theorem dX8_keep_13 : decode cX8_keep 13 = .ok (.aload_n 0, 1) := by decide +kernel
theorem dX8_keep_14 : decode cX8_keep 14 = .ok (.getfield 54, 3) := by decide +kernel
theorem dX8_keep_17 : decode cX8_keep 17 = .ok (.aload_n 0, 1) := by decide +kernel
theorem dX8_keep_18 : decode cX8_keep 18 = .ok (.getfield 31, 3) := by decide +kernel
theorem dX8_keep_21 : decode cX8_keep 21 = .ok (.invokevirtual 256, 3) := by decide +kernel
theorem dX8_keep_24 : decode cX8_keep 24 = .ok (.aload_n 0, 1) := by decide +kernel
theorem dX8_keep_25 : decode cX8_keep 25 = .ok (.getfield 54, 3) := by decide +kernel
theorem dX8_keep_28 : decode cX8_keep 28 = .ok (.getfield 182, 3) := by decide +kernel
theorem dX8_keep_31 : decode cX8_keep 31 = .ok (.ireturn, 1) := by decide +kernel
theorem dX8_back_0 : decode cX8_back 0 = .ok (.aload_n 0, 1) := by decide +kernel
theorem dX8_back_1 : decode cX8_back 1 = .ok (.getfield 54, 3) := by decide +kernel
theorem dX8_back_4 : decode cX8_back 4 = .ok (.aload_n 0, 1) := by decide +kernel
theorem dX8_back_5 : decode cX8_back 5 = .ok (.getfield 31, 3) := by decide +kernel
theorem dX8_back_8 : decode cX8_back 8 = .ok (.invokevirtual 175, 3) := by decide +kernel
theorem dX8_back_11 : decode cX8_back 11 = .ok (.ifCond .ne 6, 3) := by decide +kernel
theorem dX8_back_14 : decode cX8_back 14 = .ok (.bipush (-2), 2) := by decide +kernel
theorem dX8_back_16 : decode cX8_back 16 = .ok (.ireturn, 1) := by decide +kernel
theorem dX8_back_17 : decode cX8_back 17 = .ok (.aload_n 0, 1) := by decide +kernel
theorem dX8_back_18 : decode cX8_back 18 = .ok (.getfield 50, 3) := by decide +kernel
theorem dX8_back_21 : decode cX8_back 21 = .ok (.invokevirtual 259, 3) := by decide +kernel
theorem dX8_back_24 : decode cX8_back 24 = .ok (.aload_n 0, 1) := by decide +kernel
theorem dX8_back_25 : decode cX8_back 25 = .ok (.getfield 60, 3) := by decide +kernel
theorem dX8_back_28 : decode cX8_back 28 = .ok (.invokevirtual 179, 3) := by decide +kernel
theorem dX8_back_31 : decode cX8_back 31 = .ok (.aload_n 0, 1) := by decide +kernel
theorem dX8_back_32 : decode cX8_back 32 = .ok (.getfield 54, 3) := by decide +kernel
theorem dX8_back_35 : decode cX8_back 35 = .ok (.getfield 182, 3) := by decide +kernel
theorem dX8_back_38 : decode cX8_back 38 = .ok (.ireturn, 1) := by decide +kernel
theorem dX8_count_0 : decode cX8_count 0 = .ok (.iload_n 1, 1) := by decide +kernel
theorem dX8_count_1 : decode cX8_count 1 = .ok (.tableswitch 175 0 12 #[67, 75, 83, 92, 101, 110, 119, 127, 135, 143, 151, 159, 167], 67) := by decide +kernel
theorem dX8_count_68 : decode cX8_count 68 = .ok (.aload_n 0, 1) := by decide +kernel
theorem dX8_count_69 : decode cX8_count 69 = .ok (.getfield 19, 3) := by decide +kernel
theorem dX8_count_72 : decode cX8_count 72 = .ok (.getfield 108, 3) := by decide +kernel
theorem dX8_count_75 : decode cX8_count 75 = .ok (.ireturn, 1) := by decide +kernel
theorem dX8_count_76 : decode cX8_count 76 = .ok (.aload_n 0, 1) := by decide +kernel
theorem dX8_count_77 : decode cX8_count 77 = .ok (.getfield 31, 3) := by decide +kernel
theorem dX8_count_80 : decode cX8_count 80 = .ok (.getfield 154, 3) := by decide +kernel
theorem dX8_count_83 : decode cX8_count 83 = .ok (.ireturn, 1) := by decide +kernel
theorem dX8_count_84 : decode cX8_count 84 = .ok (.aload_n 0, 1) := by decide +kernel
theorem dX8_count_85 : decode cX8_count 85 = .ok (.getfield 31, 3) := by decide +kernel
theorem dX8_count_88 : decode cX8_count 88 = .ok (.iconst 0, 1) := by decide +kernel
theorem dX8_count_89 : decode cX8_count 89 = .ok (.invokevirtual 168, 3) := by decide +kernel
theorem dX8_count_92 : decode cX8_count 92 = .ok (.ireturn, 1) := by decide +kernel
theorem dX8_count_93 : decode cX8_count 93 = .ok (.aload_n 0, 1) := by decide +kernel
theorem dX8_count_94 : decode cX8_count 94 = .ok (.getfield 31, 3) := by decide +kernel
theorem dX8_count_97 : decode cX8_count 97 = .ok (.iconst 1, 1) := by decide +kernel
theorem dX8_count_98 : decode cX8_count 98 = .ok (.invokevirtual 168, 3) := by decide +kernel
theorem dX8_count_101 : decode cX8_count 101 = .ok (.ireturn, 1) := by decide +kernel
theorem dX8_count_102 : decode cX8_count 102 = .ok (.aload_n 0, 1) := by decide +kernel
theorem dX8_count_103 : decode cX8_count 103 = .ok (.getfield 31, 3) := by decide +kernel
theorem dX8_count_106 : decode cX8_count 106 = .ok (.iconst 2, 1) := by decide +kernel
theorem dX8_count_107 : decode cX8_count 107 = .ok (.invokevirtual 168, 3) := by decide +kernel
theorem dX8_count_110 : decode cX8_count 110 = .ok (.ireturn, 1) := by decide +kernel
theorem dX8_count_111 : decode cX8_count 111 = .ok (.aload_n 0, 1) := by decide +kernel
theorem dX8_count_112 : decode cX8_count 112 = .ok (.getfield 31, 3) := by decide +kernel
theorem dX8_count_115 : decode cX8_count 115 = .ok (.iconst 3, 1) := by decide +kernel
theorem dX8_count_116 : decode cX8_count 116 = .ok (.invokevirtual 168, 3) := by decide +kernel
theorem dX8_count_119 : decode cX8_count 119 = .ok (.ireturn, 1) := by decide +kernel
theorem dX8_count_120 : decode cX8_count 120 = .ok (.aload_n 0, 1) := by decide +kernel
theorem dX8_count_121 : decode cX8_count 121 = .ok (.getfield 31, 3) := by decide +kernel
theorem dX8_count_124 : decode cX8_count 124 = .ok (.getfield 260, 3) := by decide +kernel
theorem dX8_count_127 : decode cX8_count 127 = .ok (.ireturn, 1) := by decide +kernel
theorem dX8_count_128 : decode cX8_count 128 = .ok (.aload_n 0, 1) := by decide +kernel
theorem dX8_count_129 : decode cX8_count 129 = .ok (.getfield 31, 3) := by decide +kernel
theorem dX8_count_132 : decode cX8_count 132 = .ok (.invokevirtual 250, 3) := by decide +kernel
theorem dX8_count_135 : decode cX8_count 135 = .ok (.ireturn, 1) := by decide +kernel
theorem dX8_count_136 : decode cX8_count 136 = .ok (.aload_n 0, 1) := by decide +kernel
theorem dX8_count_137 : decode cX8_count 137 = .ok (.getfield 31, 3) := by decide +kernel
theorem dX8_count_140 : decode cX8_count 140 = .ok (.invokevirtual 263, 3) := by decide +kernel
theorem dX8_count_143 : decode cX8_count 143 = .ok (.ireturn, 1) := by decide +kernel
theorem dX8_count_144 : decode cX8_count 144 = .ok (.aload_n 0, 1) := by decide +kernel
theorem dX8_count_145 : decode cX8_count 145 = .ok (.getfield 67, 3) := by decide +kernel
theorem dX8_count_148 : decode cX8_count 148 = .ok (.getfield 224, 3) := by decide +kernel
theorem dX8_count_151 : decode cX8_count 151 = .ok (.ireturn, 1) := by decide +kernel
theorem dX8_count_152 : decode cX8_count 152 = .ok (.aload_n 0, 1) := by decide +kernel
theorem dX8_count_153 : decode cX8_count 153 = .ok (.getfield 50, 3) := by decide +kernel
theorem dX8_count_156 : decode cX8_count 156 = .ok (.getfield 182, 3) := by decide +kernel
theorem dX8_count_159 : decode cX8_count 159 = .ok (.ireturn, 1) := by decide +kernel
theorem dX8_count_160 : decode cX8_count 160 = .ok (.aload_n 0, 1) := by decide +kernel
theorem dX8_count_161 : decode cX8_count 161 = .ok (.getfield 54, 3) := by decide +kernel
theorem dX8_count_164 : decode cX8_count 164 = .ok (.getfield 182, 3) := by decide +kernel
theorem dX8_count_167 : decode cX8_count 167 = .ok (.ireturn, 1) := by decide +kernel
theorem dX8_count_168 : decode cX8_count 168 = .ok (.aload_n 0, 1) := by decide +kernel
theorem dX8_count_169 : decode cX8_count 169 = .ok (.getfield 10, 3) := by decide +kernel
theorem dX8_count_172 : decode cX8_count 172 = .ok (.getfield 101, 3) := by decide +kernel
theorem dX8_count_175 : decode cX8_count 175 = .ok (.ireturn, 1) := by decide +kernel
theorem dX8_count_176 : decode cX8_count 176 = .ok (.iconst (-1), 1) := by decide +kernel
theorem dX8_count_177 : decode cX8_count 177 = .ok (.ireturn, 1) := by decide +kernel
theorem dX8_layScript_0 : decode cX8_layScript 0 = .ok (.aload_n 0, 1) := by decide +kernel
theorem dX8_layScript_1 : decode cX8_layScript 1 = .ok (.getfield 10, 3) := by decide +kernel
theorem dX8_layScript_4 : decode cX8_layScript 4 = .ok (.aload_n 0, 1) := by decide +kernel
theorem dX8_layScript_5 : decode cX8_layScript 5 = .ok (.getfield 23, 3) := by decide +kernel
theorem dX8_layScript_8 : decode cX8_layScript 8 = .ok (.invokevirtual 104, 3) := by decide +kernel
theorem dX8_layScript_11 : decode cX8_layScript 11 = .ok (.bipush (-4), 2) := by decide +kernel
theorem dX8_layScript_13 : decode cX8_layScript 13 = .ok (.if_icmp .ne 14, 3) := by decide +kernel
theorem dX8_layScript_16 : decode cX8_layScript 16 = .ok (.aload_n 0, 1) := by decide +kernel
theorem dX8_layScript_17 : decode cX8_layScript 17 = .ok (.getfield 23, 3) := by decide +kernel
theorem dX8_layScript_20 : decode cX8_layScript 20 = .ok (.getfield 108, 3) := by decide +kernel
theorem dX8_layScript_23 : decode cX8_layScript 23 = .ok (.iconst 1, 1) := by decide +kernel
theorem dX8_layScript_24 : decode cX8_layScript 24 = .ok (.if_icmp .ge 5, 3) := by decide +kernel
theorem dX8_layScript_27 : decode cX8_layScript 27 = .ok (.iconst 0, 1) := by decide +kernel
theorem dX8_layScript_28 : decode cX8_layScript 28 = .ok (.ireturn, 1) := by decide +kernel
theorem dX8_layScript_29 : decode cX8_layScript 29 = .ok (.aload_n 0, 1) := by decide +kernel
theorem dX8_layScript_30 : decode cX8_layScript 30 = .ok (.getfield 19, 3) := by decide +kernel
theorem dX8_layScript_33 : decode cX8_layScript 33 = .ok (.aload_n 0, 1) := by decide +kernel
theorem dX8_layScript_34 : decode cX8_layScript 34 = .ok (.getfield 23, 3) := by decide +kernel
theorem dX8_layScript_37 : decode cX8_layScript 37 = .ok (.invokevirtual 266, 3) := by decide +kernel
theorem dX8_layScript_40 : decode cX8_layScript 40 = .ok (.aload_n 0, 1) := by decide +kernel
theorem dX8_layScript_41 : decode cX8_layScript 41 = .ok (.getfield 31, 3) := by decide +kernel
theorem dX8_layScript_44 : decode cX8_layScript 44 = .ok (.invokevirtual 268, 3) := by decide +kernel
theorem dX8_layScript_47 : decode cX8_layScript 47 = .ok (.aload_n 0, 1) := by decide +kernel
theorem dX8_layScript_48 : decode cX8_layScript 48 = .ok (.getfield 50, 3) := by decide +kernel
theorem dX8_layScript_51 : decode cX8_layScript 51 = .ok (.invokevirtual 259, 3) := by decide +kernel
theorem dX8_layScript_54 : decode cX8_layScript 54 = .ok (.aload_n 0, 1) := by decide +kernel
theorem dX8_layScript_55 : decode cX8_layScript 55 = .ok (.getfield 54, 3) := by decide +kernel
theorem dX8_layScript_58 : decode cX8_layScript 58 = .ok (.invokevirtual 259, 3) := by decide +kernel
theorem dX8_layScript_61 : decode cX8_layScript 61 = .ok (.aload_n 0, 1) := by decide +kernel
theorem dX8_layScript_62 : decode cX8_layScript 62 = .ok (.getfield 67, 3) := by decide +kernel
theorem dX8_layScript_65 : decode cX8_layScript 65 = .ok (.invokevirtual 225, 3) := by decide +kernel
theorem dX8_layScript_68 : decode cX8_layScript 68 = .ok (.aload_n 0, 1) := by decide +kernel
theorem dX8_layScript_69 : decode cX8_layScript 69 = .ok (.getfield 60, 3) := by decide +kernel
theorem dX8_layScript_72 : decode cX8_layScript 72 = .ok (.invokevirtual 179, 3) := by decide +kernel
theorem dX8_layScript_75 : decode cX8_layScript 75 = .ok (.iconst 1, 1) := by decide +kernel
theorem dX8_layScript_76 : decode cX8_layScript 76 = .ok (.ireturn, 1) := by decide +kernel
theorem dX8_beginAct_0 : decode cX8_beginAct 0 = .ok (.aload_n 0, 1) := by decide +kernel
theorem dX8_beginAct_1 : decode cX8_beginAct 1 = .ok (.getfield 50, 3) := by decide +kernel
theorem dX8_beginAct_4 : decode cX8_beginAct 4 = .ok (.aload_n 0, 1) := by decide +kernel
theorem dX8_beginAct_5 : decode cX8_beginAct 5 = .ok (.getfield 31, 3) := by decide +kernel
theorem dX8_beginAct_8 : decode cX8_beginAct 8 = .ok (.invokevirtual 256, 3) := by decide +kernel
theorem dX8_beginAct_11 : decode cX8_beginAct 11 = .ok (.aload_n 0, 1) := by decide +kernel
theorem dX8_beginAct_12 : decode cX8_beginAct 12 = .ok (.getfield 60, 3) := by decide +kernel
theorem dX8_beginAct_15 : decode cX8_beginAct 15 = .ok (.invokevirtual 179, 3) := by decide +kernel
theorem dX8_beginAct_18 : decode cX8_beginAct 18 = .ok (.return_, 1) := by decide +kernel
theorem dX8_withinHorizon_0 : decode cX8_withinHorizon 0 = .ok (.iload_n 0, 1) := by decide +kernel
theorem dX8_withinHorizon_1 : decode cX8_withinHorizon 1 = .ok (.bipush 99, 2) := by decide +kernel
theorem dX8_withinHorizon_3 : decode cX8_withinHorizon 3 = .ok (.if_icmp .gt 7, 3) := by decide +kernel
theorem dX8_withinHorizon_6 : decode cX8_withinHorizon 6 = .ok (.iload_n 0, 1) := by decide +kernel
theorem dX8_withinHorizon_7 : decode cX8_withinHorizon 7 = .ok (.goto 5, 3) := by decide +kernel
theorem dX8_withinHorizon_10 : decode cX8_withinHorizon 10 = .ok (.bipush (-4), 2) := by decide +kernel
theorem dX8_withinHorizon_12 : decode cX8_withinHorizon 12 = .ok (.ireturn, 1) := by decide +kernel
theorem dX8_drawOf_0 : decode cX8_drawOf 0 = .ok (.ldc2_w 271, 3) := by decide +kernel
theorem dX8_drawOf_3 : decode cX8_drawOf 3 = .ok (.iload_n 0, 1) := by decide +kernel
theorem dX8_drawOf_4 : decode cX8_drawOf 4 = .ok (.i2l, 1) := by decide +kernel
theorem dX8_drawOf_5 : decode cX8_drawOf 5 = .ok (.lmul, 1) := by decide +kernel
theorem dX8_drawOf_6 : decode cX8_drawOf 6 = .ok (.ldc2_w 273, 3) := by decide +kernel
theorem dX8_drawOf_9 : decode cX8_drawOf 9 = .ok (.iload_n 1, 1) := by decide +kernel
theorem dX8_drawOf_10 : decode cX8_drawOf 10 = .ok (.i2l, 1) := by decide +kernel
theorem dX8_drawOf_11 : decode cX8_drawOf 11 = .ok (.lmul, 1) := by decide +kernel
theorem dX8_drawOf_12 : decode cX8_drawOf 12 = .ok (.ladd, 1) := by decide +kernel
theorem dX8_drawOf_13 : decode cX8_drawOf 13 = .ok (.lconst 1, 1) := by decide +kernel
theorem dX8_drawOf_14 : decode cX8_drawOf 14 = .ok (.ladd, 1) := by decide +kernel
theorem dX8_drawOf_15 : decode cX8_drawOf 15 = .ok (.lstore_n 2, 1) := by decide +kernel
theorem dX8_drawOf_16 : decode cX8_drawOf 16 = .ok (.lload_n 2, 1) := by decide +kernel
theorem dX8_drawOf_17 : decode cX8_drawOf 17 = .ok (.lload_n 2, 1) := by decide +kernel
theorem dX8_drawOf_18 : decode cX8_drawOf 18 = .ok (.lmul, 1) := by decide +kernel
theorem dX8_drawOf_19 : decode cX8_drawOf 19 = .ok (.ldc2_w 275, 3) := by decide +kernel
theorem dX8_drawOf_22 : decode cX8_drawOf 22 = .ok (.lrem, 1) := by decide +kernel
theorem dX8_drawOf_23 : decode cX8_drawOf 23 = .ok (.l2i, 1) := by decide +kernel
theorem dX8_drawOf_24 : decode cX8_drawOf 24 = .ok (.ireturn, 1) := by decide +kernel
theorem dX9_init_0 : decode cX9_init 0 = .ok (.aload_n 0, 1) := by decide +kernel
theorem dX9_init_1 : decode cX9_init 1 = .ok (.invokespecial 1, 3) := by decide +kernel
theorem dX9_init_4 : decode cX9_init 4 = .ok (.aload_n 0, 1) := by decide +kernel
theorem dX9_init_5 : decode cX9_init 5 = .ok (.sipush 612, 3) := by decide +kernel
theorem dX9_init_8 : decode cX9_init 8 = .ok (.newarray .int, 2) := by decide +kernel
theorem dX9_init_10 : decode cX9_init 10 = .ok (.putfield 7, 3) := by decide +kernel
theorem dX9_init_13 : decode cX9_init 13 = .ok (.aload_n 0, 1) := by decide +kernel
theorem dX9_init_14 : decode cX9_init 14 = .ok (.bipush 7, 2) := by decide +kernel
theorem dX9_init_16 : decode cX9_init 16 = .ok (.newarray .int, 2) := by decide +kernel
theorem dX9_init_18 : decode cX9_init 18 = .ok (.putfield 13, 3) := by decide +kernel
theorem dX9_init_21 : decode cX9_init 21 = .ok (.aload_n 0, 1) := by decide +kernel
