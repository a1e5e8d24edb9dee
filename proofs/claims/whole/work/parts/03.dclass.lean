theorem dX0_init_0 : decode cX0_init 0 = .ok (.aload_n 0, 1) := by decide +kernel
theorem dX0_init_1 : decode cX0_init 1 = .ok (.invokespecial 1, 3) := by decide +kernel
theorem dX0_init_4 : decode cX0_init 4 = .ok (.aload_n 0, 1) := by decide +kernel
theorem dX0_init_5 : decode cX0_init 5 = .ok (.bipush 60, 2) := by decide +kernel
theorem dX0_init_7 : decode cX0_init 7 = .ok (.newarray .int, 2) := by decide +kernel
theorem dX0_init_9 : decode cX0_init 9 = .ok (.putfield 9, 3) := by decide +kernel
theorem dX0_init_12 : decode cX0_init 12 = .ok (.aload_n 0, 1) := by decide +kernel
theorem dX0_init_13 : decode cX0_init 13 = .ok (.bipush 60, 2) := by decide +kernel
theorem dX0_init_15 : decode cX0_init 15 = .ok (.newarray .int, 2) := by decide +kernel
theorem dX0_init_17 : decode cX0_init 17 = .ok (.putfield 13, 3) := by decide +kernel
theorem dX0_init_20 : decode cX0_init 20 = .ok (.aload_n 0, 1) := by decide +kernel
theorem dX0_init_21 : decode cX0_init 21 = .ok (.bipush 60, 2) := by decide +kernel
theorem dX0_init_23 : decode cX0_init 23 = .ok (.newarray .int, 2) := by decide +kernel
theorem dX0_init_25 : decode cX0_init 25 = .ok (.putfield 16, 3) := by decide +kernel
theorem dX0_init_28 : decode cX0_init 28 = .ok (.aload_n 0, 1) := by decide +kernel
theorem dX0_init_29 : decode cX0_init 29 = .ok (.bipush 60, 2) := by decide +kernel
theorem dX0_init_31 : decode cX0_init 31 = .ok (.newarray .int, 2) := by decide +kernel
theorem dX0_init_33 : decode cX0_init 33 = .ok (.putfield 19, 3) := by decide +kernel
theorem dX0_init_36 : decode cX0_init 36 = .ok (.return_, 1) := by decide +kernel
theorem dX0_add_0 : decode cX0_add 0 = .ok (.aload_n 0, 1) := by decide +kernel
theorem dX0_add_1 : decode cX0_add 1 = .ok (.getfield 22, 3) := by decide +kernel
theorem dX0_add_4 : decode cX0_add 4 = .ok (.bipush 60, 2) := by decide +kernel
theorem dX0_add_6 : decode cX0_add 6 = .ok (.if_icmp .ge 54, 3) := by decide +kernel
theorem dX0_add_9 : decode cX0_add 9 = .ok (.aload_n 0, 1) := by decide +kernel
theorem dX0_add_10 : decode cX0_add 10 = .ok (.getfield 9, 3) := by decide +kernel
theorem dX0_add_13 : decode cX0_add 13 = .ok (.aload_n 0, 1) := by decide +kernel
theorem dX0_add_14 : decode cX0_add 14 = .ok (.getfield 22, 3) := by decide +kernel
theorem dX0_add_17 : decode cX0_add 17 = .ok (.iload_n 1, 1) := by decide +kernel
theorem dX0_add_18 : decode cX0_add 18 = .ok (.iastore, 1) := by decide +kernel
theorem dX0_add_19 : decode cX0_add 19 = .ok (.aload_n 0, 1) := by decide +kernel
theorem dX0_add_20 : decode cX0_add 20 = .ok (.getfield 13, 3) := by decide +kernel
theorem dX0_add_23 : decode cX0_add 23 = .ok (.aload_n 0, 1) := by decide +kernel
theorem dX0_add_24 : decode cX0_add 24 = .ok (.getfield 22, 3) := by decide +kernel
theorem dX0_add_27 : decode cX0_add 27 = .ok (.iload_n 2, 1) := by decide +kernel
theorem dX0_add_28 : decode cX0_add 28 = .ok (.iastore, 1) := by decide +kernel
theorem dX0_add_29 : decode cX0_add 29 = .ok (.aload_n 0, 1) := by decide +kernel
theorem dX0_add_30 : decode cX0_add 30 = .ok (.getfield 16, 3) := by decide +kernel
theorem dX0_add_33 : decode cX0_add 33 = .ok (.aload_n 0, 1) := by decide +kernel
theorem dX0_add_34 : decode cX0_add 34 = .ok (.getfield 22, 3) := by decide +kernel
theorem dX0_add_37 : decode cX0_add 37 = .ok (.iload_n 3, 1) := by decide +kernel
theorem dX0_add_38 : decode cX0_add 38 = .ok (.iastore, 1) := by decide +kernel
theorem dX0_add_39 : decode cX0_add 39 = .ok (.aload_n 0, 1) := by decide +kernel
theorem dX0_add_40 : decode cX0_add 40 = .ok (.getfield 19, 3) := by decide +kernel
theorem dX0_add_43 : decode cX0_add 43 = .ok (.aload_n 0, 1) := by decide +kernel
theorem dX0_add_44 : decode cX0_add 44 = .ok (.getfield 22, 3) := by decide +kernel
theorem dX0_add_47 : decode cX0_add 47 = .ok (.iload 4, 2) := by decide +kernel
theorem dX0_add_49 : decode cX0_add 49 = .ok (.iastore, 1) := by decide +kernel
theorem dX0_add_50 : decode cX0_add 50 = .ok (.aload_n 0, 1) := by decide +kernel
theorem dX0_add_51 : decode cX0_add 51 = .ok (.dup, 1) := by decide +kernel
theorem dX0_add_52 : decode cX0_add 52 = .ok (.getfield 22, 3) := by decide +kernel
theorem dX0_add_55 : decode cX0_add 55 = .ok (.iconst 1, 1) := by decide +kernel
theorem dX0_add_56 : decode cX0_add 56 = .ok (.iadd, 1) := by decide +kernel
theorem dX0_add_57 : decode cX0_add 57 = .ok (.putfield 22, 3) := by decide +kernel
theorem dX0_add_60 : decode cX0_add 60 = .ok (.return_, 1) := by decide +kernel
theorem dX0_clear_0 : decode cX0_clear 0 = .ok (.aload_n 0, 1) := by decide +kernel
theorem dX0_clear_1 : decode cX0_clear 1 = .ok (.iconst 0, 1) := by decide +kernel
theorem dX0_clear_2 : decode cX0_clear 2 = .ok (.putfield 22, 3) := by decide +kernel
theorem dX0_clear_5 : decode cX0_clear 5 = .ok (.return_, 1) := by decide +kernel
theorem dX0_copyFrom_0 : decode cX0_copyFrom 0 = .ok (.aload_n 1, 1) := by decide +kernel
theorem dX0_copyFrom_1 : decode cX0_copyFrom 1 = .ok (.getfield 9, 3) := by decide +kernel
theorem dX0_copyFrom_4 : decode cX0_copyFrom 4 = .ok (.iconst 0, 1) := by decide +kernel
theorem dX0_copyFrom_5 : decode cX0_copyFrom 5 = .ok (.aload_n 0, 1) := by decide +kernel
theorem dX0_copyFrom_6 : decode cX0_copyFrom 6 = .ok (.getfield 9, 3) := by decide +kernel
theorem dX0_copyFrom_9 : decode cX0_copyFrom 9 = .ok (.iconst 0, 1) := by decide +kernel
theorem dX0_copyFrom_10 : decode cX0_copyFrom 10 = .ok (.bipush 60, 2) := by decide +kernel
theorem dX0_copyFrom_12 : decode cX0_copyFrom 12 = .ok (.invokestatic 26, 3) := by decide +kernel
theorem dX0_copyFrom_15 : decode cX0_copyFrom 15 = .ok (.aload_n 1, 1) := by decide +kernel
theorem dX0_copyFrom_16 : decode cX0_copyFrom 16 = .ok (.getfield 13, 3) := by decide +kernel
theorem dX0_copyFrom_19 : decode cX0_copyFrom 19 = .ok (.iconst 0, 1) := by decide +kernel
theorem dX0_copyFrom_20 : decode cX0_copyFrom 20 = .ok (.aload_n 0, 1) := by decide +kernel
theorem dX0_copyFrom_21 : decode cX0_copyFrom 21 = .ok (.getfield 13, 3) := by decide +kernel
theorem dX0_copyFrom_24 : decode cX0_copyFrom 24 = .ok (.iconst 0, 1) := by decide +kernel
theorem dX0_copyFrom_25 : decode cX0_copyFrom 25 = .ok (.bipush 60, 2) := by decide +kernel
theorem dX0_copyFrom_27 : decode cX0_copyFrom 27 = .ok (.invokestatic 26, 3) := by decide +kernel
theorem dX0_copyFrom_30 : decode cX0_copyFrom 30 = .ok (.aload_n 1, 1) := by decide +kernel
theorem dX0_copyFrom_31 : decode cX0_copyFrom 31 = .ok (.getfield 16, 3) := by decide +kernel
theorem dX0_copyFrom_34 : decode cX0_copyFrom 34 = .ok (.iconst 0, 1) := by decide +kernel
theorem dX0_copyFrom_35 : decode cX0_copyFrom 35 = .ok (.aload_n 0, 1) := by decide +kernel
theorem dX0_copyFrom_36 : decode cX0_copyFrom 36 = .ok (.getfield 16, 3) := by decide +kernel
theorem dX0_copyFrom_39 : decode cX0_copyFrom 39 = .ok (.iconst 0, 1) := by decide +kernel
theorem dX0_copyFrom_40 : decode cX0_copyFrom 40 = .ok (.bipush 60, 2) := by decide +kernel
theorem dX0_copyFrom_42 : decode cX0_copyFrom 42 = .ok (.invokestatic 26, 3) := by decide +kernel
theorem dX0_copyFrom_45 : decode cX0_copyFrom 45 = .ok (.aload_n 1, 1) := by decide +kernel
theorem dX0_copyFrom_46 : decode cX0_copyFrom 46 = .ok (.getfield 19, 3) := by decide +kernel
theorem dX0_copyFrom_49 : decode cX0_copyFrom 49 = .ok (.iconst 0, 1) := by decide +kernel
theorem dX0_copyFrom_50 : decode cX0_copyFrom 50 = .ok (.aload_n 0, 1) := by decide +kernel
theorem dX0_copyFrom_51 : decode cX0_copyFrom 51 = .ok (.getfield 19, 3) := by decide +kernel
theorem dX0_copyFrom_54 : decode cX0_copyFrom 54 = .ok (.iconst 0, 1) := by decide +kernel
theorem dX0_copyFrom_55 : decode cX0_copyFrom 55 = .ok (.bipush 60, 2) := by decide +kernel
theorem dX0_copyFrom_57 : decode cX0_copyFrom 57 = .ok (.invokestatic 26, 3) := by decide +kernel
theorem dX0_copyFrom_60 : decode cX0_copyFrom 60 = .ok (.aload_n 0, 1) := by decide +kernel
theorem dX0_copyFrom_61 : decode cX0_copyFrom 61 = .ok (.aload_n 1, 1) := by decide +kernel
theorem dX0_copyFrom_62 : decode cX0_copyFrom 62 = .ok (.getfield 22, 3) := by decide +kernel
theorem dX0_copyFrom_65 : decode cX0_copyFrom 65 = .ok (.putfield 22, 3) := by decide +kernel
theorem dX0_copyFrom_68 : decode cX0_copyFrom 68 = .ok (.return_, 1) := by decide +kernel
theorem dX1_init_0 : decode cX1_init 0 = .ok (.aload_n 0, 1) := by decide +kernel
theorem dX1_init_1 : decode cX1_init 1 = .ok (.invokespecial 1, 3) := by decide +kernel
theorem dX1_init_4 : decode cX1_init 4 = .ok (.return_, 1) := by decide +kernel
theorem dX1_clear_0 : decode cX1_clear 0 = .ok (.aload_n 0, 1) := by decide +kernel
theorem dX1_clear_1 : decode cX1_clear 1 = .ok (.iconst 0, 1) := by decide +kernel
theorem dX1_clear_2 : decode cX1_clear 2 = .ok (.putfield 7, 3) := by decide +kernel
theorem dX1_clear_5 : decode cX1_clear 5 = .ok (.aload_n 0, 1) := by decide +kernel
theorem dX1_clear_6 : decode cX1_clear 6 = .ok (.iconst 0, 1) := by decide +kernel
theorem dX1_clear_7 : decode cX1_clear 7 = .ok (.putfield 13, 3) := by decide +kernel
theorem dX1_clear_10 : decode cX1_clear 10 = .ok (.aload_n 0, 1) := by decide +kernel
theorem dX1_clear_11 : decode cX1_clear 11 = .ok (.iconst 1, 1) := by decide +kernel
theorem dX1_clear_12 : decode cX1_clear 12 = .ok (.putfield 16, 3) := by decide +kernel
theorem dX1_clear_15 : decode cX1_clear 15 = .ok (.return_, 1) := by decide +kernel
theorem dX1_copyFrom_0 : decode cX1_copyFrom 0 = .ok (.aload_n 0, 1) := by decide +kernel
theorem dX1_copyFrom_1 : decode cX1_copyFrom 1 = .ok (.aload_n 1, 1) := by decide +kernel
theorem dX1_copyFrom_2 : decode cX1_copyFrom 2 = .ok (.getfield 7, 3) := by decide +kernel
theorem dX1_copyFrom_5 : decode cX1_copyFrom 5 = .ok (.putfield 7, 3) := by decide +kernel
theorem dX1_copyFrom_8 : decode cX1_copyFrom 8 = .ok (.aload_n 0, 1) := by decide +kernel
theorem dX1_copyFrom_9 : decode cX1_copyFrom 9 = .ok (.aload_n 1, 1) := by decide +kernel
theorem dX1_copyFrom_10 : decode cX1_copyFrom 10 = .ok (.getfield 13, 3) := by decide +kernel
theorem dX1_copyFrom_13 : decode cX1_copyFrom 13 = .ok (.putfield 13, 3) := by decide +kernel
theorem dX1_copyFrom_16 : decode cX1_copyFrom 16 = .ok (.aload_n 0, 1) := by decide +kernel
theorem dX1_copyFrom_17 : decode cX1_copyFrom 17 = .ok (.aload_n 1, 1) := by decide +kernel
theorem dX1_copyFrom_18 : decode cX1_copyFrom 18 = .ok (.getfield 16, 3) := by decide +kernel
theorem dX1_copyFrom_21 : decode cX1_copyFrom 21 = .ok (.putfield 16, 3) := by decide +kernel
theorem dX1_copyFrom_24 : decode cX1_copyFrom 24 = .ok (.return_, 1) := by decide +kernel
theorem dX2_init_0 : decode cX2_init 0 = .ok (.aload_n 0, 1) := by decide +kernel
theorem dX2_init_1 : decode cX2_init 1 = .ok (.invokespecial 3, 3) := by decide +kernel
theorem dX2_init_4 : decode cX2_init 4 = .ok (.aload_n 0, 1) := by decide +kernel
theorem dX2_init_5 : decode cX2_init 5 = .ok (.bipush 6, 2) := by decide +kernel
theorem dX2_init_7 : decode cX2_init 7 = .ok (.newarray .int, 2) := by decide +kernel
theorem dX2_init_9 : decode cX2_init 9 = .ok (.putfield 9, 3) := by decide +kernel
theorem dX2_init_12 : decode cX2_init 12 = .ok (.return_, 1) := by decide +kernel
theorem dX2_isEmpty_0 : decode cX2_isEmpty 0 = .ok (.aload_n 0, 1) := by decide +kernel
theorem dX2_isEmpty_1 : decode cX2_isEmpty 1 = .ok (.getfield 15, 3) := by decide +kernel
theorem dX2_isEmpty_4 : decode cX2_isEmpty 4 = .ok (.ifCond .ne 7, 3) := by decide +kernel
theorem dX2_isEmpty_7 : decode cX2_isEmpty 7 = .ok (.iconst 1, 1) := by decide +kernel
theorem dX2_isEmpty_8 : decode cX2_isEmpty 8 = .ok (.goto 4, 3) := by decide +kernel
theorem dX2_isEmpty_11 : decode cX2_isEmpty 11 = .ok (.iconst 0, 1) := by decide +kernel
theorem dX2_isEmpty_12 : decode cX2_isEmpty 12 = .ok (.ireturn, 1) := by decide +kernel
theorem dX2_at_0 : decode cX2_at 0 = .ok (.iload_n 1, 1) := by decide +kernel
theorem dX2_at_1 : decode cX2_at 1 = .ok (.ifCond .lt 20, 3) := by decide +kernel
theorem dX2_at_4 : decode cX2_at 4 = .ok (.iload_n 1, 1) := by decide +kernel
theorem dX2_at_5 : decode cX2_at 5 = .ok (.aload_n 0, 1) := by decide +kernel
theorem dX2_at_6 : decode cX2_at 6 = .ok (.getfield 15, 3) := by decide +kernel
theorem dX2_at_9 : decode cX2_at 9 = .ok (.if_icmp .ge 12, 3) := by decide +kernel
theorem dX2_at_12 : decode cX2_at 12 = .ok (.aload_n 0, 1) := by decide +kernel
theorem dX2_at_13 : decode cX2_at 13 = .ok (.getfield 9, 3) := by decide +kernel
theorem dX2_at_16 : decode cX2_at 16 = .ok (.iload_n 1, 1) := by decide +kernel
theorem dX2_at_17 : decode cX2_at 17 = .ok (.iaload, 1) := by decide +kernel
theorem dX2_at_18 : decode cX2_at 18 = .ok (.goto 5, 3) := by decide +kernel
theorem dX2_at_21 : decode cX2_at 21 = .ok (.bipush (-8), 2) := by decide +kernel
theorem dX2_at_23 : decode cX2_at 23 = .ok (.ireturn, 1) := by decide +kernel
theorem dX2_append_0 : decode cX2_append 0 = .ok (.aload_n 0, 1) := by decide +kernel
theorem dX2_append_1 : decode cX2_append 1 = .ok (.getfield 15, 3) := by decide +kernel
theorem dX2_append_4 : decode cX2_append 4 = .ok (.bipush 6, 2) := by decide +kernel
theorem dX2_append_6 : decode cX2_append 6 = .ok (.if_icmp .ge 23, 3) := by decide +kernel
theorem dX2_append_9 : decode cX2_append 9 = .ok (.aload_n 0, 1) := by decide +kernel
theorem dX2_append_10 : decode cX2_append 10 = .ok (.getfield 9, 3) := by decide +kernel
theorem dX2_append_13 : decode cX2_append 13 = .ok (.aload_n 0, 1) := by decide +kernel
theorem dX2_append_14 : decode cX2_append 14 = .ok (.getfield 15, 3) := by decide +kernel
theorem dX2_append_17 : decode cX2_append 17 = .ok (.iload_n 1, 1) := by decide +kernel
theorem dX2_append_18 : decode cX2_append 18 = .ok (.iastore, 1) := by decide +kernel
theorem dX2_append_19 : decode cX2_append 19 = .ok (.aload_n 0, 1) := by decide +kernel
theorem dX2_append_20 : decode cX2_append 20 = .ok (.dup, 1) := by decide +kernel
theorem dX2_append_21 : decode cX2_append 21 = .ok (.getfield 15, 3) := by decide +kernel
theorem dX2_append_24 : decode cX2_append 24 = .ok (.iconst 1, 1) := by decide +kernel
theorem dX2_append_25 : decode cX2_append 25 = .ok (.iadd, 1) := by decide +kernel
theorem dX2_append_26 : decode cX2_append 26 = .ok (.putfield 15, 3) := by decide +kernel
theorem dX2_append_29 : decode cX2_append 29 = .ok (.return_, 1) := by decide +kernel
theorem dX2_putFirst_0 : decode cX2_putFirst 0 = .ok (.aload_n 0, 1) := by decide +kernel
theorem dX2_putFirst_1 : decode cX2_putFirst 1 = .ok (.getfield 15, 3) := by decide +kernel
theorem dX2_putFirst_4 : decode cX2_putFirst 4 = .ok (.bipush 6, 2) := by decide +kernel
theorem dX2_putFirst_6 : decode cX2_putFirst 6 = .ok (.if_icmp .ge 49, 3) := by decide +kernel
theorem dX2_putFirst_9 : decode cX2_putFirst 9 = .ok (.aload_n 0, 1) := by decide +kernel
theorem dX2_putFirst_10 : decode cX2_putFirst 10 = .ok (.getfield 15, 3) := by decide +kernel
theorem dX2_putFirst_13 : decode cX2_putFirst 13 = .ok (.istore_n 2, 1) := by decide +kernel
theorem dX2_putFirst_14 : decode cX2_putFirst 14 = .ok (.iload_n 2, 1) := by decide +kernel
theorem dX2_putFirst_15 : decode cX2_putFirst 15 = .ok (.ifCond .le 23, 3) := by decide +kernel
theorem dX2_putFirst_18 : decode cX2_putFirst 18 = .ok (.aload_n 0, 1) := by decide +kernel
theorem dX2_putFirst_19 : decode cX2_putFirst 19 = .ok (.getfield 9, 3) := by decide +kernel
theorem dX2_putFirst_22 : decode cX2_putFirst 22 = .ok (.iload_n 2, 1) := by decide +kernel
theorem dX2_putFirst_23 : decode cX2_putFirst 23 = .ok (.aload_n 0, 1) := by decide +kernel
theorem dX2_putFirst_24 : decode cX2_putFirst 24 = .ok (.getfield 9, 3) := by decide +kernel
theorem dX2_putFirst_27 : decode cX2_putFirst 27 = .ok (.iload_n 2, 1) := by decide +kernel
theorem dX2_putFirst_28 : decode cX2_putFirst 28 = .ok (.iconst 1, 1) := by decide +kernel
theorem dX2_putFirst_29 : decode cX2_putFirst 29 = .ok (.isub, 1) := by decide +kernel
theorem dX2_putFirst_30 : decode cX2_putFirst 30 = .ok (.iaload, 1) := by decide +kernel
theorem dX2_putFirst_31 : decode cX2_putFirst 31 = .ok (.iastore, 1) := by decide +kernel
theorem dX2_putFirst_32 : decode cX2_putFirst 32 = .ok (.iinc 2 (-1), 3) := by decide +kernel
theorem dX2_putFirst_35 : decode cX2_putFirst 35 = .ok (.goto (-21), 3) := by decide +kernel
theorem dX2_putFirst_38 : decode cX2_putFirst 38 = .ok (.aload_n 0, 1) := by decide +kernel
theorem dX2_putFirst_39 : decode cX2_putFirst 39 = .ok (.getfield 9, 3) := by decide +kernel
theorem dX2_putFirst_42 : decode cX2_putFirst 42 = .ok (.iconst 0, 1) := by decide +kernel
theorem dX2_putFirst_43 : decode cX2_putFirst 43 = .ok (.iload_n 1, 1) := by decide +kernel
theorem dX2_putFirst_44 : decode cX2_putFirst 44 = .ok (.iastore, 1) := by decide +kernel
theorem dX2_putFirst_45 : decode cX2_putFirst 45 = .ok (.aload_n 0, 1) := by decide +kernel
theorem dX2_putFirst_46 : decode cX2_putFirst 46 = .ok (.dup, 1) := by decide +kernel
theorem dX2_putFirst_47 : decode cX2_putFirst 47 = .ok (.getfield 15, 3) := by decide +kernel
theorem dX2_putFirst_50 : decode cX2_putFirst 50 = .ok (.iconst 1, 1) := by decide +kernel
theorem dX2_putFirst_51 : decode cX2_putFirst 51 = .ok (.iadd, 1) := by decide +kernel
theorem dX2_putFirst_52 : decode cX2_putFirst 52 = .ok (.putfield 15, 3) := by decide +kernel
theorem dX2_putFirst_55 : decode cX2_putFirst 55 = .ok (.return_, 1) := by decide +kernel
theorem dX2_drop_0 : decode cX2_drop 0 = .ok (.iconst 0, 1) := by decide +kernel
theorem dX2_drop_1 : decode cX2_drop 1 = .ok (.istore_n 2, 1) := by decide +kernel
theorem dX2_drop_2 : decode cX2_drop 2 = .ok (.iconst 0, 1) := by decide +kernel
theorem dX2_drop_3 : decode cX2_drop 3 = .ok (.istore_n 3, 1) := by decide +kernel
theorem dX2_drop_4 : decode cX2_drop 4 = .ok (.iload_n 3, 1) := by decide +kernel
theorem dX2_drop_5 : decode cX2_drop 5 = .ok (.aload_n 0, 1) := by decide +kernel
theorem dX2_drop_6 : decode cX2_drop 6 = .ok (.getfield 15, 3) := by decide +kernel
theorem dX2_drop_9 : decode cX2_drop 9 = .ok (.if_icmp .ge 34, 3) := by decide +kernel
theorem dX2_drop_12 : decode cX2_drop 12 = .ok (.aload_n 0, 1) := by decide +kernel
theorem dX2_drop_13 : decode cX2_drop 13 = .ok (.getfield 9, 3) := by decide +kernel
theorem dX2_drop_16 : decode cX2_drop 16 = .ok (.iload_n 3, 1) := by decide +kernel
theorem dX2_drop_17 : decode cX2_drop 17 = .ok (.iaload, 1) := by decide +kernel
theorem dX2_drop_18 : decode cX2_drop 18 = .ok (.iload_n 1, 1) := by decide +kernel
theorem dX2_drop_19 : decode cX2_drop 19 = .ok (.if_icmp .eq 18, 3) := by decide +kernel
theorem dX2_drop_22 : decode cX2_drop 22 = .ok (.aload_n 0, 1) := by decide +kernel
theorem dX2_drop_23 : decode cX2_drop 23 = .ok (.getfield 9, 3) := by decide +kernel
theorem dX2_drop_26 : decode cX2_drop 26 = .ok (.iload_n 2, 1) := by decide +kernel
theorem dX2_drop_27 : decode cX2_drop 27 = .ok (.aload_n 0, 1) := by decide +kernel
theorem dX2_drop_28 : decode cX2_drop 28 = .ok (.getfield 9, 3) := by decide +kernel
theorem dX2_drop_31 : decode cX2_drop 31 = .ok (.iload_n 3, 1) := by decide +kernel
theorem dX2_drop_32 : decode cX2_drop 32 = .ok (.iaload, 1) := by decide +kernel
theorem dX2_drop_33 : decode cX2_drop 33 = .ok (.iastore, 1) := by decide +kernel
theorem dX2_drop_34 : decode cX2_drop 34 = .ok (.iinc 2 1, 3) := by decide +kernel
theorem dX2_drop_37 : decode cX2_drop 37 = .ok (.iinc 3 1, 3) := by decide +kernel
theorem dX2_drop_40 : decode cX2_drop 40 = .ok (.goto (-36), 3) := by decide +kernel
theorem dX2_drop_43 : decode cX2_drop 43 = .ok (.aload_n 0, 1) := by decide +kernel
theorem dX2_drop_44 : decode cX2_drop 44 = .ok (.iload_n 2, 1) := by decide +kernel
theorem dX2_drop_45 : decode cX2_drop 45 = .ok (.putfield 15, 3) := by decide +kernel
theorem dX2_drop_48 : decode cX2_drop 48 = .ok (.return_, 1) := by decide +kernel
theorem dX2_clear_0 : decode cX2_clear 0 = .ok (.aload_n 0, 1) := by decide +kernel
theorem dX2_clear_1 : decode cX2_clear 1 = .ok (.iconst 0, 1) := by decide +kernel
theorem dX2_clear_2 : decode cX2_clear 2 = .ok (.putfield 15, 3) := by decide +kernel
theorem dX2_clear_5 : decode cX2_clear 5 = .ok (.return_, 1) := by decide +kernel
theorem dX2_putMembers_0 : decode cX2_putMembers 0 = .ok (.iconst 0, 1) := by decide +kernel
theorem dX2_putMembers_1 : decode cX2_putMembers 1 = .ok (.istore_n 2, 1) := by decide +kernel
theorem dX2_putMembers_2 : decode cX2_putMembers 2 = .ok (.iload_n 2, 1) := by decide +kernel
theorem dX2_putMembers_3 : decode cX2_putMembers 3 = .ok (.aload_n 0, 1) := by decide +kernel
theorem dX2_putMembers_4 : decode cX2_putMembers 4 = .ok (.getfield 15, 3) := by decide +kernel
theorem dX2_putMembers_7 : decode cX2_putMembers 7 = .ok (.if_icmp .ge 20, 3) := by decide +kernel
theorem dX2_putMembers_10 : decode cX2_putMembers 10 = .ok (.aload_n 1, 1) := by decide +kernel
theorem dX2_putMembers_11 : decode cX2_putMembers 11 = .ok (.aload_n 0, 1) := by decide +kernel
theorem dX2_putMembers_12 : decode cX2_putMembers 12 = .ok (.getfield 9, 3) := by decide +kernel
theorem dX2_putMembers_15 : decode cX2_putMembers 15 = .ok (.iload_n 2, 1) := by decide +kernel
theorem dX2_putMembers_16 : decode cX2_putMembers 16 = .ok (.iaload, 1) := by decide +kernel
theorem dX2_putMembers_17 : decode cX2_putMembers 17 = .ok (.invokevirtual 19, 3) := by decide +kernel
theorem dX2_putMembers_20 : decode cX2_putMembers 20 = .ok (.pop, 1) := by decide +kernel
theorem dX2_putMembers_21 : decode cX2_putMembers 21 = .ok (.iinc 2 1, 3) := by decide +kernel
theorem dX2_putMembers_24 : decode cX2_putMembers 24 = .ok (.goto (-22), 3) := by decide +kernel
theorem dX2_putMembers_27 : decode cX2_putMembers 27 = .ok (.return_, 1) := by decide +kernel
theorem dX2_copyFrom_0 : decode cX2_copyFrom 0 = .ok (.aload_n 1, 1) := by decide +kernel
theorem dX2_copyFrom_1 : decode cX2_copyFrom 1 = .ok (.getfield 9, 3) := by decide +kernel
theorem dX2_copyFrom_4 : decode cX2_copyFrom 4 = .ok (.iconst 0, 1) := by decide +kernel
theorem dX2_copyFrom_5 : decode cX2_copyFrom 5 = .ok (.aload_n 0, 1) := by decide +kernel
theorem dX2_copyFrom_6 : decode cX2_copyFrom 6 = .ok (.getfield 9, 3) := by decide +kernel
theorem dX2_copyFrom_9 : decode cX2_copyFrom 9 = .ok (.iconst 0, 1) := by decide +kernel
theorem dX2_copyFrom_10 : decode cX2_copyFrom 10 = .ok (.bipush 6, 2) := by decide +kernel
theorem dX2_copyFrom_12 : decode cX2_copyFrom 12 = .ok (.invokestatic 25, 3) := by decide +kernel
theorem dX2_copyFrom_15 : decode cX2_copyFrom 15 = .ok (.aload_n 0, 1) := by decide +kernel
theorem dX2_copyFrom_16 : decode cX2_copyFrom 16 = .ok (.aload_n 1, 1) := by decide +kernel
theorem dX2_copyFrom_17 : decode cX2_copyFrom 17 = .ok (.getfield 15, 3) := by decide +kernel
theorem dX2_copyFrom_20 : decode cX2_copyFrom 20 = .ok (.putfield 15, 3) := by decide +kernel
theorem dX2_copyFrom_23 : decode cX2_copyFrom 23 = .ok (.return_, 1) := by decide +kernel
theorem dX3_init_0 : decode cX3_init 0 = .ok (.aload_n 0, 1) := by decide +kernel
theorem dX3_init_1 : decode cX3_init 1 = .ok (.invokespecial 3, 3) := by decide +kernel
theorem dX3_init_4 : decode cX3_init 4 = .ok (.aload_n 0, 1) := by decide +kernel
theorem dX3_init_5 : decode cX3_init 5 = .ok (.new 9, 3) := by decide +kernel
theorem dX3_init_8 : decode cX3_init 8 = .ok (.dup, 1) := by decide +kernel
theorem dX3_init_9 : decode cX3_init 9 = .ok (.invokespecial 11, 3) := by decide +kernel
theorem dX3_init_12 : decode cX3_init 12 = .ok (.putfield 12, 3) := by decide +kernel
theorem dX3_init_15 : decode cX3_init 15 = .ok (.aload_n 0, 1) := by decide +kernel
theorem dX3_init_16 : decode cX3_init 16 = .ok (.new 9, 3) := by decide +kernel
theorem dX3_init_19 : decode cX3_init 19 = .ok (.dup, 1) := by decide +kernel
theorem dX3_init_20 : decode cX3_init 20 = .ok (.invokespecial 11, 3) := by decide +kernel
theorem dX3_init_23 : decode cX3_init 23 = .ok (.putfield 18, 3) := by decide +kernel
theorem dX3_init_26 : decode cX3_init 26 = .ok (.aload_n 0, 1) := by decide +kernel
theorem dX3_init_27 : decode cX3_init 27 = .ok (.iload_n 1, 1) := by decide +kernel
theorem dX3_init_28 : decode cX3_init 28 = .ok (.putfield 21, 3) := by decide +kernel
theorem dX3_init_31 : decode cX3_init 31 = .ok (.aload_n 0, 1) := by decide +kernel
theorem dX3_init_32 : decode cX3_init 32 = .ok (.iload_n 1, 1) := by decide +kernel
theorem dX3_init_33 : decode cX3_init 33 = .ok (.iconst 3, 1) := by decide +kernel
theorem dX3_init_34 : decode cX3_init 34 = .ok (.irem, 1) := by decide +kernel
theorem dX3_init_35 : decode cX3_init 35 = .ok (.putfield 25, 3) := by decide +kernel
theorem dX3_init_38 : decode cX3_init 38 = .ok (.return_, 1) := by decide +kernel
theorem dX3_clear_0 : decode cX3_clear 0 = .ok (.aload_n 0, 1) := by decide +kernel
theorem dX3_clear_1 : decode cX3_clear 1 = .ok (.iload_n 1, 1) := by decide +kernel
theorem dX3_clear_2 : decode cX3_clear 2 = .ok (.ifCond .eq 7, 3) := by decide +kernel
theorem dX3_clear_5 : decode cX3_clear 5 = .ok (.iconst 1, 1) := by decide +kernel
theorem dX3_clear_6 : decode cX3_clear 6 = .ok (.goto 4, 3) := by decide +kernel
theorem dX3_clear_9 : decode cX3_clear 9 = .ok (.iconst 0, 1) := by decide +kernel
theorem dX3_clear_10 : decode cX3_clear 10 = .ok (.putfield 28, 3) := by decide +kernel
theorem dX3_clear_13 : decode cX3_clear 13 = .ok (.aload_n 0, 1) := by decide +kernel
theorem dX3_clear_14 : decode cX3_clear 14 = .ok (.invokevirtual 31, 3) := by decide +kernel
theorem dX3_clear_17 : decode cX3_clear 17 = .ok (.aload_n 0, 1) := by decide +kernel
theorem dX3_clear_18 : decode cX3_clear 18 = .ok (.bipush (-8), 2) := by decide +kernel
theorem dX3_clear_20 : decode cX3_clear 20 = .ok (.putfield 34, 3) := by decide +kernel
theorem dX3_clear_23 : decode cX3_clear 23 = .ok (.aload_n 0, 1) := by decide +kernel
theorem dX3_clear_24 : decode cX3_clear 24 = .ok (.iconst 0, 1) := by decide +kernel
theorem dX3_clear_25 : decode cX3_clear 25 = .ok (.putfield 37, 3) := by decide +kernel
theorem dX3_clear_28 : decode cX3_clear 28 = .ok (.aload_n 0, 1) := by decide +kernel
theorem dX3_clear_29 : decode cX3_clear 29 = .ok (.iconst 0, 1) := by decide +kernel
theorem dX3_clear_30 : decode cX3_clear 30 = .ok (.putfield 40, 3) := by decide +kernel
theorem dX3_clear_33 : decode cX3_clear 33 = .ok (.aload_n 0, 1) := by decide +kernel
theorem dX3_clear_34 : decode cX3_clear 34 = .ok (.iconst (-1), 1) := by decide +kernel
theorem dX3_clear_35 : decode cX3_clear 35 = .ok (.putfield 44, 3) := by decide +kernel
theorem dX3_clear_38 : decode cX3_clear 38 = .ok (.aload_n 0, 1) := by decide +kernel
theorem dX3_clear_39 : decode cX3_clear 39 = .ok (.iconst 0, 1) := by decide +kernel
theorem dX3_clear_40 : decode cX3_clear 40 = .ok (.putfield 47, 3) := by decide +kernel
theorem dX3_clear_43 : decode cX3_clear 43 = .ok (.aload_n 0, 1) := by decide +kernel
theorem dX3_clear_44 : decode cX3_clear 44 = .ok (.getfield 12, 3) := by decide +kernel
theorem dX3_clear_47 : decode cX3_clear 47 = .ok (.invokevirtual 50, 3) := by decide +kernel
theorem dX3_clear_50 : decode cX3_clear 50 = .ok (.aload_n 0, 1) := by decide +kernel
theorem dX3_clear_51 : decode cX3_clear 51 = .ok (.getfield 18, 3) := by decide +kernel
theorem dX3_clear_54 : decode cX3_clear 54 = .ok (.invokevirtual 50, 3) := by decide +kernel
theorem dX3_clear_57 : decode cX3_clear 57 = .ok (.return_, 1) := by decide +kernel
theorem dX3_isHeld_0 : decode cX3_isHeld 0 = .ok (.aload_n 0, 1) := by decide +kernel
theorem dX3_isHeld_1 : decode cX3_isHeld 1 = .ok (.getfield 53, 3) := by decide +kernel
theorem dX3_isHeld_4 : decode cX3_isHeld 4 = .ok (.ifCond .le 7, 3) := by decide +kernel
theorem dX3_isHeld_7 : decode cX3_isHeld 7 = .ok (.iconst 1, 1) := by decide +kernel
theorem dX3_isHeld_8 : decode cX3_isHeld 8 = .ok (.goto 4, 3) := by decide +kernel
theorem dX3_isHeld_11 : decode cX3_isHeld 11 = .ok (.iconst 0, 1) := by decide +kernel
theorem dX3_isHeld_12 : decode cX3_isHeld 12 = .ok (.ireturn, 1) := by decide +kernel
theorem dX3_isHeldBy_0 : decode cX3_isHeldBy 0 = .ok (.aload_n 0, 1) := by decide +kernel
theorem dX3_isHeldBy_1 : decode cX3_isHeldBy 1 = .ok (.invokevirtual 56, 3) := by decide +kernel
theorem dX3_isHeldBy_4 : decode cX3_isHeldBy 4 = .ok (.ifCond .eq 15, 3) := by decide +kernel
theorem dX3_isHeldBy_7 : decode cX3_isHeldBy 7 = .ok (.aload_n 0, 1) := by decide +kernel
theorem dX3_isHeldBy_8 : decode cX3_isHeldBy 8 = .ok (.getfield 60, 3) := by decide +kernel
theorem dX3_isHeldBy_11 : decode cX3_isHeldBy 11 = .ok (.iload_n 1, 1) := by decide +kernel
theorem dX3_isHeldBy_12 : decode cX3_isHeldBy 12 = .ok (.if_icmp .ne 7, 3) := by decide +kernel
theorem dX3_isHeldBy_15 : decode cX3_isHeldBy 15 = .ok (.iconst 1, 1) := by decide +kernel
theorem dX3_isHeldBy_16 : decode cX3_isHeldBy 16 = .ok (.goto 4, 3) := by decide +kernel
theorem dX3_isHeldBy_19 : decode cX3_isHeldBy 19 = .ok (.iconst 0, 1) := by decide +kernel
theorem dX3_isHeldBy_20 : decode cX3_isHeldBy 20 = .ok (.ireturn, 1) := by decide +kernel
theorem dX3_isIdle_0 : decode cX3_isIdle 0 = .ok (.aload_n 0, 1) := by decide +kernel
theorem dX3_isIdle_1 : decode cX3_isIdle 1 = .ok (.getfield 28, 3) := by decide +kernel
theorem dX3_isIdle_4 : decode cX3_isIdle 4 = .ok (.iconst 4, 1) := by decide +kernel
theorem dX3_isIdle_5 : decode cX3_isIdle 5 = .ok (.if_icmp .ne 34, 3) := by decide +kernel
theorem dX3_isIdle_8 : decode cX3_isIdle 8 = .ok (.aload_n 0, 1) := by decide +kernel
theorem dX3_isIdle_9 : decode cX3_isIdle 9 = .ok (.getfield 53, 3) := by decide +kernel
theorem dX3_isIdle_12 : decode cX3_isIdle 12 = .ok (.ifCond .ne 27, 3) := by decide +kernel
theorem dX3_isIdle_15 : decode cX3_isIdle 15 = .ok (.aload_n 0, 1) := by decide +kernel
theorem dX3_isIdle_16 : decode cX3_isIdle 16 = .ok (.getfield 12, 3) := by decide +kernel
theorem dX3_isIdle_19 : decode cX3_isIdle 19 = .ok (.getfield 63, 3) := by decide +kernel
theorem dX3_isIdle_22 : decode cX3_isIdle 22 = .ok (.ifCond .ne 17, 3) := by decide +kernel
theorem dX3_isIdle_25 : decode cX3_isIdle 25 = .ok (.aload_n 0, 1) := by decide +kernel
theorem dX3_isIdle_26 : decode cX3_isIdle 26 = .ok (.getfield 18, 3) := by decide +kernel
theorem dX3_isIdle_29 : decode cX3_isIdle 29 = .ok (.getfield 63, 3) := by decide +kernel
theorem dX3_isIdle_32 : decode cX3_isIdle 32 = .ok (.ifCond .ne 7, 3) := by decide +kernel
theorem dX3_isIdle_35 : decode cX3_isIdle 35 = .ok (.iconst 1, 1) := by decide +kernel
theorem dX3_isIdle_36 : decode cX3_isIdle 36 = .ok (.goto 4, 3) := by decide +kernel
theorem dX3_isIdle_39 : decode cX3_isIdle 39 = .ok (.iconst 0, 1) := by decide +kernel
theorem dX3_isIdle_40 : decode cX3_isIdle 40 = .ok (.ireturn, 1) := by decide +kernel
theorem dX3_give_0 : decode cX3_give 0 = .ok (.aload_n 0, 1) := by decide +kernel
theorem dX3_give_1 : decode cX3_give 1 = .ok (.iload_n 1, 1) := by decide +kernel
theorem dX3_give_2 : decode cX3_give 2 = .ok (.putfield 60, 3) := by decide +kernel
theorem dX3_give_5 : decode cX3_give 5 = .ok (.aload_n 0, 1) := by decide +kernel
theorem dX3_give_6 : decode cX3_give 6 = .ok (.iload_n 2, 1) := by decide +kernel
theorem dX3_give_7 : decode cX3_give 7 = .ok (.putfield 53, 3) := by decide +kernel
theorem dX3_give_10 : decode cX3_give 10 = .ok (.return_, 1) := by decide +kernel
theorem dX3_letGo_0 : decode cX3_letGo 0 = .ok (.aload_n 0, 1) := by decide +kernel
theorem dX3_letGo_1 : decode cX3_letGo 1 = .ok (.bipush (-8), 2) := by decide +kernel
theorem dX3_letGo_3 : decode cX3_letGo 3 = .ok (.putfield 60, 3) := by decide +kernel
theorem dX3_letGo_6 : decode cX3_letGo 6 = .ok (.aload_n 0, 1) := by decide +kernel
theorem dX3_letGo_7 : decode cX3_letGo 7 = .ok (.iconst 0, 1) := by decide +kernel
theorem dX3_letGo_8 : decode cX3_letGo 8 = .ok (.putfield 53, 3) := by decide +kernel
theorem dX3_letGo_11 : decode cX3_letGo 11 = .ok (.return_, 1) := by decide +kernel
theorem dX3_loseBias_0 : decode cX3_loseBias 0 = .ok (.aload_n 0, 1) := by decide +kernel
theorem dX3_loseBias_1 : decode cX3_loseBias 1 = .ok (.aload_n 0, 1) := by decide +kernel
theorem dX3_loseBias_2 : decode cX3_loseBias 2 = .ok (.getfield 53, 3) := by decide +kernel
theorem dX3_loseBias_5 : decode cX3_loseBias 5 = .ok (.ifCond .le 7, 3) := by decide +kernel
theorem dX3_loseBias_8 : decode cX3_loseBias 8 = .ok (.iconst 3, 1) := by decide +kernel
theorem dX3_loseBias_9 : decode cX3_loseBias 9 = .ok (.goto 4, 3) := by decide +kernel
theorem dX3_loseBias_12 : decode cX3_loseBias 12 = .ok (.iconst 0, 1) := by decide +kernel
theorem dX3_loseBias_13 : decode cX3_loseBias 13 = .ok (.putfield 28, 3) := by decide +kernel
theorem dX3_loseBias_16 : decode cX3_loseBias 16 = .ok (.return_, 1) := by decide +kernel
theorem dX3_putDescription_0 : decode cX3_putDescription 0 = .ok (.aload_n 1, 1) := by decide +kernel
theorem dX3_putDescription_1 : decode cX3_putDescription 1 = .ok (.aload_n 0, 1) := by decide +kernel
theorem dX3_putDescription_2 : decode cX3_putDescription 2 = .ok (.invokevirtual 66, 3) := by decide +kernel
theorem dX3_putDescription_5 : decode cX3_putDescription 5 = .ok (.invokevirtual 70, 3) := by decide +kernel
theorem dX3_putDescription_8 : decode cX3_putDescription 8 = .ok (.pop, 1) := by decide +kernel
theorem dX3_putDescription_9 : decode cX3_putDescription 9 = .ok (.aload_n 0, 1) := by decide +kernel
theorem dX3_putDescription_10 : decode cX3_putDescription 10 = .ok (.getfield 28, 3) := by decide +kernel
theorem dX3_putDescription_13 : decode cX3_putDescription 13 = .ok (.iconst 2, 1) := by decide +kernel
theorem dX3_putDescription_14 : decode cX3_putDescription 14 = .ok (.if_icmp .ne 33, 3) := by decide +kernel
theorem dX3_putDescription_17 : decode cX3_putDescription 17 = .ok (.aload_n 1, 1) := by decide +kernel
theorem dX3_putDescription_18 : decode cX3_putDescription 18 = .ok (.ldc 76, 2) := by decide +kernel
theorem dX3_putDescription_20 : decode cX3_putDescription 20 = .ok (.invokevirtual 70, 3) := by decide +kernel
theorem dX3_putDescription_23 : decode cX3_putDescription 23 = .ok (.aload_n 0, 1) := by decide +kernel
theorem dX3_putDescription_24 : decode cX3_putDescription 24 = .ok (.getfield 34, 3) := by decide +kernel
theorem dX3_putDescription_27 : decode cX3_putDescription 27 = .ok (.invokevirtual 78, 3) := by decide +kernel
theorem dX3_putDescription_30 : decode cX3_putDescription 30 = .ok (.pop, 1) := by decide +kernel
theorem dX3_putDescription_31 : decode cX3_putDescription 31 = .ok (.aload_n 1, 1) := by decide +kernel
theorem dX3_putDescription_32 : decode cX3_putDescription 32 = .ok (.iload_n 2, 1) := by decide +kernel
theorem dX3_putDescription_33 : decode cX3_putDescription 33 = .ok (.ifCond .eq 8, 3) := by decide +kernel
theorem dX3_putDescription_36 : decode cX3_putDescription 36 = .ok (.ldc 81, 2) := by decide +kernel
theorem dX3_putDescription_38 : decode cX3_putDescription 38 = .ok (.goto 5, 3) := by decide +kernel
theorem dX3_putDescription_41 : decode cX3_putDescription 41 = .ok (.ldc 83, 2) := by decide +kernel
theorem dX3_putDescription_43 : decode cX3_putDescription 43 = .ok (.invokevirtual 70, 3) := by decide +kernel
theorem dX3_putDescription_46 : decode cX3_putDescription 46 = .ok (.pop, 1) := by decide +kernel
theorem dX3_putDescription_47 : decode cX3_putDescription 47 = .ok (.aload_n 0, 1) := by decide +kernel
theorem dX3_putDescription_48 : decode cX3_putDescription 48 = .ok (.invokevirtual 56, 3) := by decide +kernel
theorem dX3_putDescription_51 : decode cX3_putDescription 51 = .ok (.ifCond .eq 29, 3) := by decide +kernel
theorem dX3_putDescription_54 : decode cX3_putDescription 54 = .ok (.aload_n 1, 1) := by decide +kernel
theorem dX3_putDescription_55 : decode cX3_putDescription 55 = .ok (.ldc 85, 2) := by decide +kernel
theorem dX3_putDescription_57 : decode cX3_putDescription 57 = .ok (.invokevirtual 70, 3) := by decide +kernel
theorem dX3_putDescription_60 : decode cX3_putDescription 60 = .ok (.aload_n 0, 1) := by decide +kernel
theorem dX3_putDescription_61 : decode cX3_putDescription 61 = .ok (.getfield 60, 3) := by decide +kernel
theorem dX3_putDescription_64 : decode cX3_putDescription 64 = .ok (.invokevirtual 78, 3) := by decide +kernel
theorem dX3_putDescription_67 : decode cX3_putDescription 67 = .ok (.ldc 87, 2) := by decide +kernel
theorem dX3_putDescription_69 : decode cX3_putDescription 69 = .ok (.invokevirtual 70, 3) := by decide +kernel
theorem dX3_putDescription_72 : decode cX3_putDescription 72 = .ok (.aload_n 0, 1) := by decide +kernel
theorem dX3_putDescription_73 : decode cX3_putDescription 73 = .ok (.getfield 53, 3) := by decide +kernel
theorem dX3_putDescription_76 : decode cX3_putDescription 76 = .ok (.invokevirtual 78, 3) := by decide +kernel
theorem dX3_putDescription_79 : decode cX3_putDescription 79 = .ok (.pop, 1) := by decide +kernel
theorem dX3_putDescription_80 : decode cX3_putDescription 80 = .ok (.aload_n 0, 1) := by decide +kernel
theorem dX3_putDescription_81 : decode cX3_putDescription 81 = .ok (.getfield 12, 3) := by decide +kernel
theorem dX3_putDescription_84 : decode cX3_putDescription 84 = .ok (.invokevirtual 89, 3) := by decide +kernel
theorem dX3_putDescription_87 : decode cX3_putDescription 87 = .ok (.ifCond .ne 18, 3) := by decide +kernel
theorem dX3_putDescription_90 : decode cX3_putDescription 90 = .ok (.aload_n 1, 1) := by decide +kernel
theorem dX3_putDescription_91 : decode cX3_putDescription 91 = .ok (.ldc 92, 2) := by decide +kernel
theorem dX3_putDescription_93 : decode cX3_putDescription 93 = .ok (.invokevirtual 70, 3) := by decide +kernel
theorem dX3_putDescription_96 : decode cX3_putDescription 96 = .ok (.pop, 1) := by decide +kernel
theorem dX3_putDescription_97 : decode cX3_putDescription 97 = .ok (.aload_n 0, 1) := by decide +kernel
theorem dX3_putDescription_98 : decode cX3_putDescription 98 = .ok (.getfield 12, 3) := by decide +kernel
theorem dX3_putDescription_101 : decode cX3_putDescription 101 = .ok (.aload_n 1, 1) := by decide +kernel
theorem dX3_putDescription_102 : decode cX3_putDescription 102 = .ok (.invokevirtual 94, 3) := by decide +kernel
theorem dX3_putDescription_105 : decode cX3_putDescription 105 = .ok (.aload_n 0, 1) := by decide +kernel
theorem dX3_putDescription_106 : decode cX3_putDescription 106 = .ok (.getfield 18, 3) := by decide +kernel
theorem dX3_putDescription_109 : decode cX3_putDescription 109 = .ok (.invokevirtual 89, 3) := by decide +kernel
theorem dX3_putDescription_112 : decode cX3_putDescription 112 = .ok (.ifCond .ne 18, 3) := by decide +kernel
theorem dX3_putDescription_115 : decode cX3_putDescription 115 = .ok (.aload_n 1, 1) := by decide +kernel
theorem dX3_putDescription_116 : decode cX3_putDescription 116 = .ok (.ldc 98, 2) := by decide +kernel
theorem dX3_putDescription_118 : decode cX3_putDescription 118 = .ok (.invokevirtual 70, 3) := by decide +kernel
theorem dX3_putDescription_121 : decode cX3_putDescription 121 = .ok (.pop, 1) := by decide +kernel
theorem dX3_putDescription_122 : decode cX3_putDescription 122 = .ok (.aload_n 0, 1) := by decide +kernel
theorem dX3_putDescription_123 : decode cX3_putDescription 123 = .ok (.getfield 18, 3) := by decide +kernel
theorem dX3_putDescription_126 : decode cX3_putDescription 126 = .ok (.aload_n 1, 1) := by decide +kernel
theorem dX3_putDescription_127 : decode cX3_putDescription 127 = .ok (.invokevirtual 94, 3) := by decide +kernel
theorem dX3_putDescription_130 : decode cX3_putDescription 130 = .ok (.aload_n 0, 1) := by decide +kernel
theorem dX3_putDescription_131 : decode cX3_putDescription 131 = .ok (.getfield 44, 3) := by decide +kernel
theorem dX3_putDescription_134 : decode cX3_putDescription 134 = .ok (.iconst (-1), 1) := by decide +kernel
theorem dX3_putDescription_135 : decode cX3_putDescription 135 = .ok (.if_icmp .eq 17, 3) := by decide +kernel
theorem dX3_putDescription_138 : decode cX3_putDescription 138 = .ok (.aload_n 1, 1) := by decide +kernel
theorem dX3_putDescription_139 : decode cX3_putDescription 139 = .ok (.ldc 100, 2) := by decide +kernel
theorem dX3_putDescription_141 : decode cX3_putDescription 141 = .ok (.invokevirtual 70, 3) := by decide +kernel
theorem dX3_putDescription_144 : decode cX3_putDescription 144 = .ok (.aload_n 0, 1) := by decide +kernel
theorem dX3_putDescription_145 : decode cX3_putDescription 145 = .ok (.getfield 44, 3) := by decide +kernel
theorem dX3_putDescription_148 : decode cX3_putDescription 148 = .ok (.invokevirtual 78, 3) := by decide +kernel
theorem dX3_putDescription_151 : decode cX3_putDescription 151 = .ok (.pop, 1) := by decide +kernel
theorem dX3_putDescription_152 : decode cX3_putDescription 152 = .ok (.aload_n 1, 1) := by decide +kernel
theorem dX3_putDescription_153 : decode cX3_putDescription 153 = .ok (.aload_n 0, 1) := by decide +kernel
theorem dX3_putDescription_154 : decode cX3_putDescription 154 = .ok (.getfield 40, 3) := by decide +kernel
theorem dX3_putDescription_157 : decode cX3_putDescription 157 = .ok (.ifCond .eq 8, 3) := by decide +kernel
theorem dX3_putDescription_160 : decode cX3_putDescription 160 = .ok (.ldc 102, 2) := by decide +kernel
theorem dX3_putDescription_162 : decode cX3_putDescription 162 = .ok (.goto 5, 3) := by decide +kernel
theorem dX3_putDescription_165 : decode cX3_putDescription 165 = .ok (.ldc 81, 2) := by decide +kernel
theorem dX3_putDescription_167 : decode cX3_putDescription 167 = .ok (.invokevirtual 70, 3) := by decide +kernel
theorem dX3_putDescription_170 : decode cX3_putDescription 170 = .ok (.pop, 1) := by decide +kernel
theorem dX3_putDescription_171 : decode cX3_putDescription 171 = .ok (.return_, 1) := by decide +kernel
theorem dX3_stateWord_0 : decode cX3_stateWord 0 = .ok (.aload_n 0, 1) := by decide +kernel
theorem dX3_stateWord_1 : decode cX3_stateWord 1 = .ok (.getfield 28, 3) := by decide +kernel
theorem dX3_stateWord_4 : decode cX3_stateWord 4 = .ok (.tableswitch 44 0 3 #[32, 35, 38, 41], 32) := by decide +kernel
theorem dX3_stateWord_36 : decode cX3_stateWord 36 = .ok (.ldc 104, 2) := by decide +kernel
theorem dX3_stateWord_38 : decode cX3_stateWord 38 = .ok (.areturn, 1) := by decide +kernel
theorem dX3_stateWord_39 : decode cX3_stateWord 39 = .ok (.ldc 106, 2) := by decide +kernel
theorem dX3_stateWord_41 : decode cX3_stateWord 41 = .ok (.areturn, 1) := by decide +kernel
theorem dX3_stateWord_42 : decode cX3_stateWord 42 = .ok (.ldc 108, 2) := by decide +kernel
theorem dX3_stateWord_44 : decode cX3_stateWord 44 = .ok (.areturn, 1) := by decide +kernel
theorem dX3_stateWord_45 : decode cX3_stateWord 45 = .ok (.ldc 110, 2) := by decide +kernel
theorem dX3_stateWord_47 : decode cX3_stateWord 47 = .ok (.areturn, 1) := by decide +kernel
theorem dX3_stateWord_48 : decode cX3_stateWord 48 = .ok (.ldc 112, 2) := by decide +kernel
theorem dX3_stateWord_50 : decode cX3_stateWord 50 = .ok (.areturn, 1) := by decide +kernel
theorem dX3_copyFrom_0 : decode cX3_copyFrom 0 = .ok (.aload_n 0, 1) := by decide +kernel
theorem dX3_copyFrom_1 : decode cX3_copyFrom 1 = .ok (.aload_n 1, 1) := by decide +kernel
theorem dX3_copyFrom_2 : decode cX3_copyFrom 2 = .ok (.getfield 28, 3) := by decide +kernel
theorem dX3_copyFrom_5 : decode cX3_copyFrom 5 = .ok (.putfield 28, 3) := by decide +kernel
theorem dX3_copyFrom_8 : decode cX3_copyFrom 8 = .ok (.aload_n 0, 1) := by decide +kernel
theorem dX3_copyFrom_9 : decode cX3_copyFrom 9 = .ok (.aload_n 1, 1) := by decide +kernel
theorem dX3_copyFrom_10 : decode cX3_copyFrom 10 = .ok (.getfield 60, 3) := by decide +kernel
theorem dX3_copyFrom_13 : decode cX3_copyFrom 13 = .ok (.putfield 60, 3) := by decide +kernel
theorem dX3_copyFrom_16 : decode cX3_copyFrom 16 = .ok (.aload_n 0, 1) := by decide +kernel
theorem dX3_copyFrom_17 : decode cX3_copyFrom 17 = .ok (.aload_n 1, 1) := by decide +kernel
theorem dX3_copyFrom_18 : decode cX3_copyFrom 18 = .ok (.getfield 53, 3) := by decide +kernel
theorem dX3_copyFrom_21 : decode cX3_copyFrom 21 = .ok (.putfield 53, 3) := by decide +kernel
theorem dX3_copyFrom_24 : decode cX3_copyFrom 24 = .ok (.aload_n 0, 1) := by decide +kernel
theorem dX3_copyFrom_25 : decode cX3_copyFrom 25 = .ok (.aload_n 1, 1) := by decide +kernel
theorem dX3_copyFrom_26 : decode cX3_copyFrom 26 = .ok (.getfield 34, 3) := by decide +kernel
theorem dX3_copyFrom_29 : decode cX3_copyFrom 29 = .ok (.putfield 34, 3) := by decide +kernel
theorem dX3_copyFrom_32 : decode cX3_copyFrom 32 = .ok (.aload_n 0, 1) := by decide +kernel
theorem dX3_copyFrom_33 : decode cX3_copyFrom 33 = .ok (.aload_n 1, 1) := by decide +kernel
theorem dX3_copyFrom_34 : decode cX3_copyFrom 34 = .ok (.getfield 37, 3) := by decide +kernel
theorem dX3_copyFrom_37 : decode cX3_copyFrom 37 = .ok (.putfield 37, 3) := by decide +kernel
theorem dX3_copyFrom_40 : decode cX3_copyFrom 40 = .ok (.aload_n 0, 1) := by decide +kernel
theorem dX3_copyFrom_41 : decode cX3_copyFrom 41 = .ok (.aload_n 1, 1) := by decide +kernel
theorem dX3_copyFrom_42 : decode cX3_copyFrom 42 = .ok (.getfield 40, 3) := by decide +kernel
theorem dX3_copyFrom_45 : decode cX3_copyFrom 45 = .ok (.putfield 40, 3) := by decide +kernel
theorem dX3_copyFrom_48 : decode cX3_copyFrom 48 = .ok (.aload_n 0, 1) := by decide +kernel
theorem dX3_copyFrom_49 : decode cX3_copyFrom 49 = .ok (.aload_n 1, 1) := by decide +kernel
theorem dX3_copyFrom_50 : decode cX3_copyFrom 50 = .ok (.getfield 44, 3) := by decide +kernel
theorem dX3_copyFrom_53 : decode cX3_copyFrom 53 = .ok (.putfield 44, 3) := by decide +kernel
theorem dX3_copyFrom_56 : decode cX3_copyFrom 56 = .ok (.aload_n 0, 1) := by decide +kernel
theorem dX3_copyFrom_57 : decode cX3_copyFrom 57 = .ok (.aload_n 1, 1) := by decide +kernel
theorem dX3_copyFrom_58 : decode cX3_copyFrom 58 = .ok (.getfield 47, 3) := by decide +kernel
theorem dX3_copyFrom_61 : decode cX3_copyFrom 61 = .ok (.putfield 47, 3) := by decide +kernel
theorem dX3_copyFrom_64 : decode cX3_copyFrom 64 = .ok (.aload_n 0, 1) := by decide +kernel
theorem dX3_copyFrom_65 : decode cX3_copyFrom 65 = .ok (.getfield 12, 3) := by decide +kernel
theorem dX3_copyFrom_68 : decode cX3_copyFrom 68 = .ok (.aload_n 1, 1) := by decide +kernel
theorem dX3_copyFrom_69 : decode cX3_copyFrom 69 = .ok (.getfield 12, 3) := by decide +kernel
theorem dX3_copyFrom_72 : decode cX3_copyFrom 72 = .ok (.invokevirtual 114, 3) := by decide +kernel
theorem dX3_copyFrom_75 : decode cX3_copyFrom 75 = .ok (.aload_n 0, 1) := by decide +kernel
theorem dX3_copyFrom_76 : decode cX3_copyFrom 76 = .ok (.getfield 18, 3) := by decide +kernel
theorem dX3_copyFrom_79 : decode cX3_copyFrom 79 = .ok (.aload_n 1, 1) := by decide +kernel
theorem dX3_copyFrom_80 : decode cX3_copyFrom 80 = .ok (.getfield 18, 3) := by decide +kernel
theorem dX3_copyFrom_83 : decode cX3_copyFrom 83 = .ok (.invokevirtual 114, 3) := by decide +kernel
theorem dX3_copyFrom_86 : decode cX3_copyFrom 86 = .ok (.return_, 1) := by decide +kernel
theorem dX4_form_0 : decode cX4_form 0 = .ok (.iload_n 0, 1) := by decide +kernel
theorem dX4_form_1 : decode cX4_form 1 = .ok (.tableswitch 78 0 8 #[51, 54, 57, 60, 63, 66, 69, 72, 75], 51) := by decide +kernel
theorem dX4_form_52 : decode cX4_form 52 = .ok (.ldc 7, 2) := by decide +kernel
theorem dX4_form_54 : decode cX4_form 54 = .ok (.areturn, 1) := by decide +kernel
theorem dX4_form_55 : decode cX4_form 55 = .ok (.ldc 9, 2) := by decide +kernel
theorem dX4_form_57 : decode cX4_form 57 = .ok (.areturn, 1) := by decide +kernel
theorem dX4_form_58 : decode cX4_form 58 = .ok (.ldc 11, 2) := by decide +kernel
theorem dX4_form_60 : decode cX4_form 60 = .ok (.areturn, 1) := by decide +kernel
theorem dX4_form_61 : decode cX4_form 61 = .ok (.ldc 13, 2) := by decide +kernel
theorem dX4_form_63 : decode cX4_form 63 = .ok (.areturn, 1) := by decide +kernel
theorem dX4_form_64 : decode cX4_form 64 = .ok (.ldc 15, 2) := by decide +kernel
theorem dX4_form_66 : decode cX4_form 66 = .ok (.areturn, 1) := by decide +kernel
theorem dX4_form_67 : decode cX4_form 67 = .ok (.ldc 17, 2) := by decide +kernel
theorem dX4_form_69 : decode cX4_form 69 = .ok (.areturn, 1) := by decide +kernel
theorem dX4_form_70 : decode cX4_form 70 = .ok (.ldc 19, 2) := by decide +kernel
theorem dX4_form_72 : decode cX4_form 72 = .ok (.areturn, 1) := by decide +kernel
theorem dX4_form_73 : decode cX4_form 73 = .ok (.ldc 21, 2) := by decide +kernel
theorem dX4_form_75 : decode cX4_form 75 = .ok (.areturn, 1) := by decide +kernel
theorem dX4_form_76 : decode cX4_form 76 = .ok (.ldc 23, 2) := by decide +kernel
theorem dX4_form_78 : decode cX4_form 78 = .ok (.areturn, 1) := by decide +kernel
theorem dX4_form_79 : decode cX4_form 79 = .ok (.ldc 25, 2) := by decide +kernel
theorem dX4_form_81 : decode cX4_form 81 = .ok (.areturn, 1) := by decide +kernel
theorem dX5_init_0 : decode cX5_init 0 = .ok (.aload_n 0, 1) := by decide +kernel
theorem dX5_init_1 : decode cX5_init 1 = .ok (.invokespecial 3, 3) := by decide +kernel
theorem dX5_init_4 : decode cX5_init 4 = .ok (.aload_n 0, 1) := by decide +kernel
theorem dX5_init_5 : decode cX5_init 5 = .ok (.sipush 200, 3) := by decide +kernel
theorem dX5_init_8 : decode cX5_init 8 = .ok (.newarray .int, 2) := by decide +kernel
theorem dX5_init_10 : decode cX5_init 10 = .ok (.putfield 11, 3) := by decide +kernel
theorem dX5_init_13 : decode cX5_init 13 = .ok (.aload_n 0, 1) := by decide +kernel
theorem dX5_init_14 : decode cX5_init 14 = .ok (.iconst 3, 1) := by decide +kernel
theorem dX5_init_15 : decode cX5_init 15 = .ok (.newarray .int, 2) := by decide +kernel
theorem dX5_init_17 : decode cX5_init 17 = .ok (.putfield 15, 3) := by decide +kernel
theorem dX5_init_20 : decode cX5_init 20 = .ok (.return_, 1) := by decide +kernel
theorem dX5_append_0 : decode cX5_append 0 = .ok (.aload_n 0, 1) := by decide +kernel
theorem dX5_append_1 : decode cX5_append 1 = .ok (.getfield 18, 3) := by decide +kernel
theorem dX5_append_4 : decode cX5_append 4 = .ok (.sipush 200, 3) := by decide +kernel
theorem dX5_append_7 : decode cX5_append 7 = .ok (.if_icmp .lt 5, 3) := by decide +kernel
theorem dX5_append_10 : decode cX5_append 10 = .ok (.iconst 0, 1) := by decide +kernel
theorem dX5_append_11 : decode cX5_append 11 = .ok (.ireturn, 1) := by decide +kernel
theorem dX5_append_12 : decode cX5_append 12 = .ok (.aload_n 0, 1) := by decide +kernel
theorem dX5_append_13 : decode cX5_append 13 = .ok (.getfield 11, 3) := by decide +kernel
theorem dX5_append_16 : decode cX5_append 16 = .ok (.aload_n 0, 1) := by decide +kernel
theorem dX5_append_17 : decode cX5_append 17 = .ok (.getfield 18, 3) := by decide +kernel
theorem dX5_append_20 : decode cX5_append 20 = .ok (.iload_n 1, 1) := by decide +kernel
theorem dX5_append_21 : decode cX5_append 21 = .ok (.iastore, 1) := by decide +kernel
theorem dX5_append_22 : decode cX5_append 22 = .ok (.aload_n 0, 1) := by decide +kernel
theorem dX5_append_23 : decode cX5_append 23 = .ok (.dup, 1) := by decide +kernel
theorem dX5_append_24 : decode cX5_append 24 = .ok (.getfield 18, 3) := by decide +kernel
theorem dX5_append_27 : decode cX5_append 27 = .ok (.iconst 1, 1) := by decide +kernel
theorem dX5_append_28 : decode cX5_append 28 = .ok (.iadd, 1) := by decide +kernel
theorem dX5_append_29 : decode cX5_append 29 = .ok (.putfield 18, 3) := by decide +kernel
theorem dX5_append_32 : decode cX5_append 32 = .ok (.iconst 1, 1) := by decide +kernel
theorem dX5_append_33 : decode cX5_append 33 = .ok (.ireturn, 1) := by decide +kernel
theorem dX5_faultyItem_0 : decode cX5_faultyItem 0 = .ok (.iconst 0, 1) := by decide +kernel
theorem dX5_faultyItem_1 : decode cX5_faultyItem 1 = .ok (.istore_n 1, 1) := by decide +kernel
theorem dX5_faultyItem_2 : decode cX5_faultyItem 2 = .ok (.iconst 0, 1) := by decide +kernel
theorem dX5_faultyItem_3 : decode cX5_faultyItem 3 = .ok (.istore_n 2, 1) := by decide +kernel
theorem dX5_faultyItem_4 : decode cX5_faultyItem 4 = .ok (.iload_n 2, 1) := by decide +kernel
theorem dX5_faultyItem_5 : decode cX5_faultyItem 5 = .ok (.sipush 200, 3) := by decide +kernel
theorem dX5_faultyItem_8 : decode cX5_faultyItem 8 = .ok (.if_icmp .ge 47, 3) := by decide +kernel
theorem dX5_faultyItem_11 : decode cX5_faultyItem 11 = .ok (.iload_n 1, 1) := by decide +kernel
theorem dX5_faultyItem_12 : decode cX5_faultyItem 12 = .ok (.aload_n 0, 1) := by decide +kernel
theorem dX5_faultyItem_13 : decode cX5_faultyItem 13 = .ok (.getfield 18, 3) := by decide +kernel
theorem dX5_faultyItem_16 : decode cX5_faultyItem 16 = .ok (.if_icmp .ge 39, 3) := by decide +kernel
theorem dX5_faultyItem_19 : decode cX5_faultyItem 19 = .ok (.aload_n 0, 1) := by decide +kernel
theorem dX5_faultyItem_20 : decode cX5_faultyItem 20 = .ok (.iload_n 1, 1) := by decide +kernel
theorem dX5_faultyItem_21 : decode cX5_faultyItem 21 = .ok (.invokevirtual 22, 3) := by decide +kernel
theorem dX5_faultyItem_24 : decode cX5_faultyItem 24 = .ok (.istore_n 3, 1) := by decide +kernel
theorem dX5_faultyItem_25 : decode cX5_faultyItem 25 = .ok (.iload_n 3, 1) := by decide +kernel
theorem dX5_faultyItem_26 : decode cX5_faultyItem 26 = .ok (.aload_n 0, 1) := by decide +kernel
theorem dX5_faultyItem_27 : decode cX5_faultyItem 27 = .ok (.getfield 18, 3) := by decide +kernel
theorem dX5_faultyItem_30 : decode cX5_faultyItem 30 = .ok (.if_icmp .ge 13, 3) := by decide +kernel
theorem dX5_faultyItem_33 : decode cX5_faultyItem 33 = .ok (.aload_n 0, 1) := by decide +kernel
theorem dX5_faultyItem_34 : decode cX5_faultyItem 34 = .ok (.iload_n 1, 1) := by decide +kernel
theorem dX5_faultyItem_35 : decode cX5_faultyItem 35 = .ok (.iload_n 3, 1) := by decide +kernel
theorem dX5_faultyItem_36 : decode cX5_faultyItem 36 = .ok (.invokevirtual 26, 3) := by decide +kernel
theorem dX5_faultyItem_39 : decode cX5_faultyItem 39 = .ok (.iconst (-1), 1) := by decide +kernel
theorem dX5_faultyItem_40 : decode cX5_faultyItem 40 = .ok (.if_icmp .ne 5, 3) := by decide +kernel
theorem dX5_faultyItem_43 : decode cX5_faultyItem 43 = .ok (.iload_n 2, 1) := by decide +kernel
theorem dX5_faultyItem_44 : decode cX5_faultyItem 44 = .ok (.ireturn, 1) := by decide +kernel
theorem dX5_faultyItem_45 : decode cX5_faultyItem 45 = .ok (.iload_n 3, 1) := by decide +kernel
theorem dX5_faultyItem_46 : decode cX5_faultyItem 46 = .ok (.iconst 1, 1) := by decide +kernel
theorem dX5_faultyItem_47 : decode cX5_faultyItem 47 = .ok (.iadd, 1) := by decide +kernel
theorem dX5_faultyItem_48 : decode cX5_faultyItem 48 = .ok (.istore_n 1, 1) := by decide +kernel
theorem dX5_faultyItem_49 : decode cX5_faultyItem 49 = .ok (.iinc 2 1, 3) := by decide +kernel
theorem dX5_faultyItem_52 : decode cX5_faultyItem 52 = .ok (.goto (-48), 3) := by decide +kernel
theorem dX5_faultyItem_55 : decode cX5_faultyItem 55 = .ok (.bipush (-8), 2) := by decide +kernel
theorem dX5_faultyItem_57 : decode cX5_faultyItem 57 = .ok (.ireturn, 1) := by decide +kernel
theorem dX5_endOfItem_0 : decode cX5_endOfItem 0 = .ok (.iload_n 1, 1) := by decide +kernel
theorem dX5_endOfItem_1 : decode cX5_endOfItem 1 = .ok (.iconst 0, 1) := by decide +kernel
theorem dX5_endOfItem_2 : decode cX5_endOfItem 2 = .ok (.invokestatic 30, 3) := by decide +kernel
theorem dX5_endOfItem_5 : decode cX5_endOfItem 5 = .ok (.istore_n 2, 1) := by decide +kernel
theorem dX5_endOfItem_6 : decode cX5_endOfItem 6 = .ok (.iload_n 2, 1) := by decide +kernel
theorem dX5_endOfItem_7 : decode cX5_endOfItem 7 = .ok (.aload_n 0, 1) := by decide +kernel
theorem dX5_endOfItem_8 : decode cX5_endOfItem 8 = .ok (.getfield 18, 3) := by decide +kernel
theorem dX5_endOfItem_11 : decode cX5_endOfItem 11 = .ok (.if_icmp .ge 22, 3) := by decide +kernel
theorem dX5_endOfItem_14 : decode cX5_endOfItem 14 = .ok (.aload_n 0, 1) := by decide +kernel
theorem dX5_endOfItem_15 : decode cX5_endOfItem 15 = .ok (.getfield 11, 3) := by decide +kernel
theorem dX5_endOfItem_18 : decode cX5_endOfItem 18 = .ok (.iload_n 2, 1) := by decide +kernel
theorem dX5_endOfItem_19 : decode cX5_endOfItem 19 = .ok (.iaload, 1) := by decide +kernel
theorem dX5_endOfItem_20 : decode cX5_endOfItem 20 = .ok (.bipush 59, 2) := by decide +kernel
theorem dX5_endOfItem_22 : decode cX5_endOfItem 22 = .ok (.if_icmp .ne 5, 3) := by decide +kernel
theorem dX5_endOfItem_25 : decode cX5_endOfItem 25 = .ok (.iload_n 2, 1) := by decide +kernel
theorem dX5_endOfItem_26 : decode cX5_endOfItem 26 = .ok (.ireturn, 1) := by decide +kernel
theorem dX5_endOfItem_27 : decode cX5_endOfItem 27 = .ok (.iinc 2 1, 3) := by decide +kernel
theorem dX5_endOfItem_30 : decode cX5_endOfItem 30 = .ok (.goto (-24), 3) := by decide +kernel
theorem dX5_endOfItem_33 : decode cX5_endOfItem 33 = .ok (.aload_n 0, 1) := by decide +kernel
theorem dX5_endOfItem_34 : decode cX5_endOfItem 34 = .ok (.getfield 18, 3) := by decide +kernel
theorem dX5_endOfItem_37 : decode cX5_endOfItem 37 = .ok (.ireturn, 1) := by decide +kernel
theorem dX5_readItem_0 : decode cX5_readItem 0 = .ok (.iconst 0, 1) := by decide +kernel
theorem dX5_readItem_1 : decode cX5_readItem 1 = .ok (.istore_n 3, 1) := by decide +kernel
theorem dX5_readItem_2 : decode cX5_readItem 2 = .ok (.iload_n 3, 1) := by decide +kernel
theorem dX5_readItem_3 : decode cX5_readItem 3 = .ok (.bipush 10, 2) := by decide +kernel
theorem dX5_readItem_5 : decode cX5_readItem 5 = .ok (.if_icmp .ge 24, 3) := by decide +kernel
theorem dX5_readItem_8 : decode cX5_readItem 8 = .ok (.aload_n 0, 1) := by decide +kernel
theorem dX5_readItem_9 : decode cX5_readItem 9 = .ok (.iload_n 3, 1) := by decide +kernel
theorem dX5_readItem_10 : decode cX5_readItem 10 = .ok (.invokestatic 37, 3) := by decide +kernel
theorem dX5_readItem_13 : decode cX5_readItem 13 = .ok (.iload_n 1, 1) := by decide +kernel
theorem dX5_readItem_14 : decode cX5_readItem 14 = .ok (.iload_n 2, 1) := by decide +kernel
theorem dX5_readItem_15 : decode cX5_readItem 15 = .ok (.invokevirtual 41, 3) := by decide +kernel
theorem dX5_readItem_18 : decode cX5_readItem 18 = .ok (.ifCond .eq 5, 3) := by decide +kernel
theorem dX5_readItem_21 : decode cX5_readItem 21 = .ok (.iload_n 3, 1) := by decide +kernel
theorem dX5_readItem_22 : decode cX5_readItem 22 = .ok (.ireturn, 1) := by decide +kernel
theorem dX5_readItem_23 : decode cX5_readItem 23 = .ok (.iinc 3 1, 3) := by decide +kernel
theorem dX5_readItem_26 : decode cX5_readItem 26 = .ok (.goto (-24), 3) := by decide +kernel
theorem dX5_readItem_29 : decode cX5_readItem 29 = .ok (.iconst (-1), 1) := by decide +kernel
theorem dX5_readItem_30 : decode cX5_readItem 30 = .ok (.ireturn, 1) := by decide +kernel
theorem dX5_argument_0 : decode cX5_argument 0 = .ok (.iload_n 1, 1) := by decide +kernel
theorem dX5_argument_1 : decode cX5_argument 1 = .ok (.ifCond .lt 20, 3) := by decide +kernel
theorem dX5_argument_4 : decode cX5_argument 4 = .ok (.iload_n 1, 1) := by decide +kernel
theorem dX5_argument_5 : decode cX5_argument 5 = .ok (.aload_n 0, 1) := by decide +kernel
theorem dX5_argument_6 : decode cX5_argument 6 = .ok (.getfield 45, 3) := by decide +kernel
theorem dX5_argument_9 : decode cX5_argument 9 = .ok (.if_icmp .ge 12, 3) := by decide +kernel
theorem dX5_argument_12 : decode cX5_argument 12 = .ok (.aload_n 0, 1) := by decide +kernel
theorem dX5_argument_13 : decode cX5_argument 13 = .ok (.getfield 15, 3) := by decide +kernel
theorem dX5_argument_16 : decode cX5_argument 16 = .ok (.iload_n 1, 1) := by decide +kernel
theorem dX5_argument_17 : decode cX5_argument 17 = .ok (.iaload, 1) := by decide +kernel
theorem dX5_argument_18 : decode cX5_argument 18 = .ok (.goto 4, 3) := by decide +kernel
theorem dX5_argument_21 : decode cX5_argument 21 = .ok (.iconst 0, 1) := by decide +kernel
theorem dX5_argument_22 : decode cX5_argument 22 = .ok (.ireturn, 1) := by decide +kernel
theorem dX5_hasForm_0 : decode cX5_hasForm 0 = .ok (.aload_n 0, 1) := by decide +kernel
theorem dX5_hasForm_1 : decode cX5_hasForm 1 = .ok (.iconst 0, 1) := by decide +kernel
theorem dX5_hasForm_2 : decode cX5_hasForm 2 = .ok (.putfield 45, 3) := by decide +kernel
theorem dX5_hasForm_5 : decode cX5_hasForm 5 = .ok (.iload_n 2, 1) := by decide +kernel
theorem dX5_hasForm_6 : decode cX5_hasForm 6 = .ok (.istore 4, 2) := by decide +kernel
theorem dX5_hasForm_8 : decode cX5_hasForm 8 = .ok (.iconst 0, 1) := by decide +kernel
theorem dX5_hasForm_9 : decode cX5_hasForm 9 = .ok (.istore 5, 2) := by decide +kernel
theorem dX5_hasForm_11 : decode cX5_hasForm 11 = .ok (.iload 5, 2) := by decide +kernel
theorem dX5_hasForm_13 : decode cX5_hasForm 13 = .ok (.aload_n 1, 1) := by decide +kernel
theorem dX5_hasForm_14 : decode cX5_hasForm 14 = .ok (.invokevirtual 48, 3) := by decide +kernel
theorem dX5_hasForm_17 : decode cX5_hasForm 17 = .ok (.if_icmp .ge 38, 3) := by decide +kernel
theorem dX5_hasForm_20 : decode cX5_hasForm 20 = .ok (.aload_n 0, 1) := by decide +kernel
theorem dX5_hasForm_21 : decode cX5_hasForm 21 = .ok (.aload_n 1, 1) := by decide +kernel
theorem dX5_hasForm_22 : decode cX5_hasForm 22 = .ok (.iload 5, 2) := by decide +kernel
theorem dX5_hasForm_24 : decode cX5_hasForm 24 = .ok (.invokevirtual 53, 3) := by decide +kernel
theorem dX5_hasForm_27 : decode cX5_hasForm 27 = .ok (.iload 4, 2) := by decide +kernel
theorem dX5_hasForm_29 : decode cX5_hasForm 29 = .ok (.iload_n 3, 1) := by decide +kernel
theorem dX5_hasForm_30 : decode cX5_hasForm 30 = .ok (.invokevirtual 57, 3) := by decide +kernel
theorem dX5_hasForm_33 : decode cX5_hasForm 33 = .ok (.istore 6, 2) := by decide +kernel
theorem dX5_hasForm_35 : decode cX5_hasForm 35 = .ok (.iload 6, 2) := by decide +kernel
theorem dX5_hasForm_37 : decode cX5_hasForm 37 = .ok (.ifCond .ne 5, 3) := by decide +kernel
theorem dX5_hasForm_40 : decode cX5_hasForm 40 = .ok (.iconst 0, 1) := by decide +kernel
theorem dX5_hasForm_41 : decode cX5_hasForm 41 = .ok (.ireturn, 1) := by decide +kernel
theorem dX5_hasForm_42 : decode cX5_hasForm 42 = .ok (.iload 4, 2) := by decide +kernel
theorem dX5_hasForm_44 : decode cX5_hasForm 44 = .ok (.iload 6, 2) := by decide +kernel
theorem dX5_hasForm_46 : decode cX5_hasForm 46 = .ok (.iadd, 1) := by decide +kernel
theorem dX5_hasForm_47 : decode cX5_hasForm 47 = .ok (.istore 4, 2) := by decide +kernel
theorem dX5_hasForm_49 : decode cX5_hasForm 49 = .ok (.iinc 5 1, 3) := by decide +kernel
theorem dX5_hasForm_52 : decode cX5_hasForm 52 = .ok (.goto (-41), 3) := by decide +kernel
theorem dX5_hasForm_55 : decode cX5_hasForm 55 = .ok (.iload 4, 2) := by decide +kernel
theorem dX5_hasForm_57 : decode cX5_hasForm 57 = .ok (.iload_n 3, 1) := by decide +kernel
theorem dX5_hasForm_58 : decode cX5_hasForm 58 = .ok (.if_icmp .ne 7, 3) := by decide +kernel
theorem dX5_hasForm_61 : decode cX5_hasForm 61 = .ok (.iconst 1, 1) := by decide +kernel
theorem dX5_hasForm_62 : decode cX5_hasForm 62 = .ok (.goto 4, 3) := by decide +kernel
theorem dX5_hasForm_65 : decode cX5_hasForm 65 = .ok (.iconst 0, 1) := by decide +kernel
theorem dX5_hasForm_66 : decode cX5_hasForm 66 = .ok (.ireturn, 1) := by decide +kernel
theorem dX5_matchSign_0 : decode cX5_matchSign 0 = .ok (.iload_n 2, 1) := by decide +kernel
theorem dX5_matchSign_1 : decode cX5_matchSign 1 = .ok (.ifCond .lt 16, 3) := by decide +kernel
theorem dX5_matchSign_4 : decode cX5_matchSign 4 = .ok (.iload_n 2, 1) := by decide +kernel
theorem dX5_matchSign_5 : decode cX5_matchSign 5 = .ok (.iload_n 3, 1) := by decide +kernel
theorem dX5_matchSign_6 : decode cX5_matchSign 6 = .ok (.if_icmp .ge 11, 3) := by decide +kernel
theorem dX5_matchSign_9 : decode cX5_matchSign 9 = .ok (.iload_n 2, 1) := by decide +kernel
theorem dX5_matchSign_10 : decode cX5_matchSign 10 = .ok (.aload_n 0, 1) := by decide +kernel
theorem dX5_matchSign_11 : decode cX5_matchSign 11 = .ok (.getfield 18, 3) := by decide +kernel
theorem dX5_matchSign_14 : decode cX5_matchSign 14 = .ok (.if_icmp .lt 5, 3) := by decide +kernel
theorem dX5_matchSign_17 : decode cX5_matchSign 17 = .ok (.iconst 0, 1) := by decide +kernel
theorem dX5_matchSign_18 : decode cX5_matchSign 18 = .ok (.ireturn, 1) := by decide +kernel
theorem dX5_matchSign_19 : decode cX5_matchSign 19 = .ok (.iload_n 1, 1) := by decide +kernel
theorem dX5_matchSign_20 : decode cX5_matchSign 20 = .ok (.lookupswitch 87 #[(78, 53), (79, 44), (84, 36)], 36) := by decide +kernel
theorem dX5_matchSign_56 : decode cX5_matchSign 56 = .ok (.aload_n 0, 1) := by decide +kernel
theorem dX5_matchSign_57 : decode cX5_matchSign 57 = .ok (.iload_n 2, 1) := by decide +kernel
theorem dX5_matchSign_58 : decode cX5_matchSign 58 = .ok (.iconst 1, 1) := by decide +kernel
theorem dX5_matchSign_59 : decode cX5_matchSign 59 = .ok (.iconst 5, 1) := by decide +kernel
theorem dX5_matchSign_60 : decode cX5_matchSign 60 = .ok (.invokevirtual 61, 3) := by decide +kernel
theorem dX5_matchSign_63 : decode cX5_matchSign 63 = .ok (.ireturn, 1) := by decide +kernel
theorem dX5_matchSign_64 : decode cX5_matchSign 64 = .ok (.aload_n 0, 1) := by decide +kernel
theorem dX5_matchSign_65 : decode cX5_matchSign 65 = .ok (.iload_n 2, 1) := by decide +kernel
theorem dX5_matchSign_66 : decode cX5_matchSign 66 = .ok (.iconst 1, 1) := by decide +kernel
theorem dX5_matchSign_67 : decode cX5_matchSign 67 = .ok (.bipush 7, 2) := by decide +kernel
theorem dX5_matchSign_69 : decode cX5_matchSign 69 = .ok (.invokevirtual 61, 3) := by decide +kernel
theorem dX5_matchSign_72 : decode cX5_matchSign 72 = .ok (.ireturn, 1) := by decide +kernel
theorem dX5_matchSign_73 : decode cX5_matchSign 73 = .ok (.aload_n 0, 1) := by decide +kernel
theorem dX5_matchSign_74 : decode cX5_matchSign 74 = .ok (.iload_n 2, 1) := by decide +kernel
theorem dX5_matchSign_75 : decode cX5_matchSign 75 = .ok (.aload_n 0, 1) := by decide +kernel
theorem dX5_matchSign_76 : decode cX5_matchSign 76 = .ok (.getfield 11, 3) := by decide +kernel
theorem dX5_matchSign_79 : decode cX5_matchSign 79 = .ok (.iload_n 2, 1) := by decide +kernel
theorem dX5_matchSign_80 : decode cX5_matchSign 80 = .ok (.iaload, 1) := by decide +kernel
theorem dX5_matchSign_81 : decode cX5_matchSign 81 = .ok (.bipush 48, 2) := by decide +kernel
theorem dX5_matchSign_83 : decode cX5_matchSign 83 = .ok (.if_icmp .eq 17, 3) := by decide +kernel
theorem dX5_matchSign_86 : decode cX5_matchSign 86 = .ok (.aload_n 0, 1) := by decide +kernel
theorem dX5_matchSign_87 : decode cX5_matchSign 87 = .ok (.iload_n 2, 1) := by decide +kernel
theorem dX5_matchSign_88 : decode cX5_matchSign 88 = .ok (.iconst 1, 1) := by decide +kernel
theorem dX5_matchSign_89 : decode cX5_matchSign 89 = .ok (.iadd, 1) := by decide +kernel
theorem dX5_matchSign_90 : decode cX5_matchSign 90 = .ok (.invokevirtual 65, 3) := by decide +kernel
theorem dX5_matchSign_93 : decode cX5_matchSign 93 = .ok (.ifCond .eq 7, 3) := by decide +kernel
theorem dX5_matchSign_96 : decode cX5_matchSign 96 = .ok (.iconst 2, 1) := by decide +kernel
theorem dX5_matchSign_97 : decode cX5_matchSign 97 = .ok (.goto 4, 3) := by decide +kernel
theorem dX5_matchSign_100 : decode cX5_matchSign 100 = .ok (.iconst 1, 1) := by decide +kernel
theorem dX5_matchSign_101 : decode cX5_matchSign 101 = .ok (.bipush 99, 2) := by decide +kernel
theorem dX5_matchSign_103 : decode cX5_matchSign 103 = .ok (.invokevirtual 61, 3) := by decide +kernel
theorem dX5_matchSign_106 : decode cX5_matchSign 106 = .ok (.ireturn, 1) := by decide +kernel
theorem dX5_matchSign_107 : decode cX5_matchSign 107 = .ok (.aload_n 0, 1) := by decide +kernel
theorem dX5_matchSign_108 : decode cX5_matchSign 108 = .ok (.getfield 11, 3) := by decide +kernel
theorem dX5_matchSign_111 : decode cX5_matchSign 111 = .ok (.iload_n 2, 1) := by decide +kernel
theorem dX5_matchSign_112 : decode cX5_matchSign 112 = .ok (.iaload, 1) := by decide +kernel
theorem dX5_matchSign_113 : decode cX5_matchSign 113 = .ok (.iload_n 1, 1) := by decide +kernel
theorem dX5_matchSign_114 : decode cX5_matchSign 114 = .ok (.if_icmp .ne 7, 3) := by decide +kernel
theorem dX5_matchSign_117 : decode cX5_matchSign 117 = .ok (.iconst 1, 1) := by decide +kernel
theorem dX5_matchSign_118 : decode cX5_matchSign 118 = .ok (.goto 4, 3) := by decide +kernel
theorem dX5_matchSign_121 : decode cX5_matchSign 121 = .ok (.iconst 0, 1) := by decide +kernel
theorem dX5_matchSign_122 : decode cX5_matchSign 122 = .ok (.ireturn, 1) := by decide +kernel
theorem dX5_matchNumber_0 : decode cX5_matchNumber 0 = .ok (.iconst 0, 1) := by decide +kernel
theorem dX5_matchNumber_1 : decode cX5_matchNumber 1 = .ok (.istore 4, 2) := by decide +kernel
theorem dX5_matchNumber_3 : decode cX5_matchNumber 3 = .ok (.iconst 0, 1) := by decide +kernel
theorem dX5_matchNumber_4 : decode cX5_matchNumber 4 = .ok (.istore 5, 2) := by decide +kernel
theorem dX5_matchNumber_6 : decode cX5_matchNumber 6 = .ok (.iload 5, 2) := by decide +kernel
theorem dX5_matchNumber_8 : decode cX5_matchNumber 8 = .ok (.iload_n 2, 1) := by decide +kernel
theorem dX5_matchNumber_9 : decode cX5_matchNumber 9 = .ok (.if_icmp .ge 42, 3) := by decide +kernel
theorem dX5_matchNumber_12 : decode cX5_matchNumber 12 = .ok (.aload_n 0, 1) := by decide +kernel
theorem dX5_matchNumber_13 : decode cX5_matchNumber 13 = .ok (.iload_n 1, 1) := by decide +kernel
theorem dX5_matchNumber_14 : decode cX5_matchNumber 14 = .ok (.iload 5, 2) := by decide +kernel
theorem dX5_matchNumber_16 : decode cX5_matchNumber 16 = .ok (.iadd, 1) := by decide +kernel
theorem dX5_matchNumber_17 : decode cX5_matchNumber 17 = .ok (.invokevirtual 65, 3) := by decide +kernel
theorem dX5_matchNumber_20 : decode cX5_matchNumber 20 = .ok (.ifCond .ne 5, 3) := by decide +kernel
theorem dX5_matchNumber_23 : decode cX5_matchNumber 23 = .ok (.iconst 0, 1) := by decide +kernel
theorem dX5_matchNumber_24 : decode cX5_matchNumber 24 = .ok (.ireturn, 1) := by decide +kernel
theorem dX5_matchNumber_25 : decode cX5_matchNumber 25 = .ok (.bipush 10, 2) := by decide +kernel
theorem dX5_matchNumber_27 : decode cX5_matchNumber 27 = .ok (.iload 4, 2) := by decide +kernel
theorem dX5_matchNumber_29 : decode cX5_matchNumber 29 = .ok (.imul, 1) := by decide +kernel
theorem dX5_matchNumber_30 : decode cX5_matchNumber 30 = .ok (.aload_n 0, 1) := by decide +kernel
theorem dX5_matchNumber_31 : decode cX5_matchNumber 31 = .ok (.getfield 11, 3) := by decide +kernel
theorem dX5_matchNumber_34 : decode cX5_matchNumber 34 = .ok (.iload_n 1, 1) := by decide +kernel
theorem dX5_matchNumber_35 : decode cX5_matchNumber 35 = .ok (.iload 5, 2) := by decide +kernel
theorem dX5_matchNumber_37 : decode cX5_matchNumber 37 = .ok (.iadd, 1) := by decide +kernel
theorem dX5_matchNumber_38 : decode cX5_matchNumber 38 = .ok (.iaload, 1) := by decide +kernel
theorem dX5_matchNumber_39 : decode cX5_matchNumber 39 = .ok (.iadd, 1) := by decide +kernel
theorem dX5_matchNumber_40 : decode cX5_matchNumber 40 = .ok (.bipush 48, 2) := by decide +kernel
theorem dX5_matchNumber_42 : decode cX5_matchNumber 42 = .ok (.isub, 1) := by decide +kernel
theorem dX5_matchNumber_43 : decode cX5_matchNumber 43 = .ok (.istore 4, 2) := by decide +kernel
theorem dX5_matchNumber_45 : decode cX5_matchNumber 45 = .ok (.iinc 5 1, 3) := by decide +kernel
theorem dX5_matchNumber_48 : decode cX5_matchNumber 48 = .ok (.goto (-42), 3) := by decide +kernel
theorem dX5_matchNumber_51 : decode cX5_matchNumber 51 = .ok (.iload 4, 2) := by decide +kernel
theorem dX5_matchNumber_53 : decode cX5_matchNumber 53 = .ok (.iload_n 3, 1) := by decide +kernel
theorem dX5_matchNumber_54 : decode cX5_matchNumber 54 = .ok (.if_icmp .gt 11, 3) := by decide +kernel
theorem dX5_matchNumber_57 : decode cX5_matchNumber 57 = .ok (.aload_n 0, 1) := by decide +kernel
theorem dX5_matchNumber_58 : decode cX5_matchNumber 58 = .ok (.getfield 45, 3) := by decide +kernel
theorem dX5_matchNumber_61 : decode cX5_matchNumber 61 = .ok (.iconst 3, 1) := by decide +kernel
theorem dX5_matchNumber_62 : decode cX5_matchNumber 62 = .ok (.if_icmp .lt 5, 3) := by decide +kernel
theorem dX5_matchNumber_65 : decode cX5_matchNumber 65 = .ok (.iconst 0, 1) := by decide +kernel
theorem dX5_matchNumber_66 : decode cX5_matchNumber 66 = .ok (.ireturn, 1) := by decide +kernel
theorem dX5_matchNumber_67 : decode cX5_matchNumber 67 = .ok (.aload_n 0, 1) := by decide +kernel
theorem dX5_matchNumber_68 : decode cX5_matchNumber 68 = .ok (.getfield 15, 3) := by decide +kernel
theorem dX5_matchNumber_71 : decode cX5_matchNumber 71 = .ok (.aload_n 0, 1) := by decide +kernel
theorem dX5_matchNumber_72 : decode cX5_matchNumber 72 = .ok (.getfield 45, 3) := by decide +kernel
theorem dX5_matchNumber_75 : decode cX5_matchNumber 75 = .ok (.iload 4, 2) := by decide +kernel
theorem dX5_matchNumber_77 : decode cX5_matchNumber 77 = .ok (.iastore, 1) := by decide +kernel
theorem dX5_matchNumber_78 : decode cX5_matchNumber 78 = .ok (.aload_n 0, 1) := by decide +kernel
theorem dX5_matchNumber_79 : decode cX5_matchNumber 79 = .ok (.dup, 1) := by decide +kernel
theorem dX5_matchNumber_80 : decode cX5_matchNumber 80 = .ok (.getfield 45, 3) := by decide +kernel
theorem dX5_matchNumber_83 : decode cX5_matchNumber 83 = .ok (.iconst 1, 1) := by decide +kernel
theorem dX5_matchNumber_84 : decode cX5_matchNumber 84 = .ok (.iadd, 1) := by decide +kernel
theorem dX5_matchNumber_85 : decode cX5_matchNumber 85 = .ok (.putfield 45, 3) := by decide +kernel
theorem dX5_matchNumber_88 : decode cX5_matchNumber 88 = .ok (.iload_n 2, 1) := by decide +kernel
theorem dX5_matchNumber_89 : decode cX5_matchNumber 89 = .ok (.ireturn, 1) := by decide +kernel
theorem dX5_isDigit_0 : decode cX5_isDigit 0 = .ok (.iload_n 1, 1) := by decide +kernel
theorem dX5_isDigit_1 : decode cX5_isDigit 1 = .ok (.ifCond .lt 37, 3) := by decide +kernel
theorem dX5_isDigit_4 : decode cX5_isDigit 4 = .ok (.iload_n 1, 1) := by decide +kernel
theorem dX5_isDigit_5 : decode cX5_isDigit 5 = .ok (.aload_n 0, 1) := by decide +kernel
theorem dX5_isDigit_6 : decode cX5_isDigit 6 = .ok (.getfield 18, 3) := by decide +kernel
theorem dX5_isDigit_9 : decode cX5_isDigit 9 = .ok (.if_icmp .ge 29, 3) := by decide +kernel
theorem dX5_isDigit_12 : decode cX5_isDigit 12 = .ok (.aload_n 0, 1) := by decide +kernel
theorem dX5_isDigit_13 : decode cX5_isDigit 13 = .ok (.getfield 11, 3) := by decide +kernel
theorem dX5_isDigit_16 : decode cX5_isDigit 16 = .ok (.iload_n 1, 1) := by decide +kernel
theorem dX5_isDigit_17 : decode cX5_isDigit 17 = .ok (.iaload, 1) := by decide +kernel
theorem dX5_isDigit_18 : decode cX5_isDigit 18 = .ok (.bipush 48, 2) := by decide +kernel
theorem dX5_isDigit_20 : decode cX5_isDigit 20 = .ok (.if_icmp .lt 18, 3) := by decide +kernel
theorem dX5_isDigit_23 : decode cX5_isDigit 23 = .ok (.aload_n 0, 1) := by decide +kernel
theorem dX5_isDigit_24 : decode cX5_isDigit 24 = .ok (.getfield 11, 3) := by decide +kernel
theorem dX5_isDigit_27 : decode cX5_isDigit 27 = .ok (.iload_n 1, 1) := by decide +kernel
theorem dX5_isDigit_28 : decode cX5_isDigit 28 = .ok (.iaload, 1) := by decide +kernel
theorem dX5_isDigit_29 : decode cX5_isDigit 29 = .ok (.bipush 57, 2) := by decide +kernel
theorem dX5_isDigit_31 : decode cX5_isDigit 31 = .ok (.if_icmp .gt 7, 3) := by decide +kernel
theorem dX5_isDigit_34 : decode cX5_isDigit 34 = .ok (.iconst 1, 1) := by decide +kernel
theorem dX5_isDigit_35 : decode cX5_isDigit 35 = .ok (.goto 4, 3) := by decide +kernel
theorem dX5_isDigit_38 : decode cX5_isDigit 38 = .ok (.iconst 0, 1) := by decide +kernel
theorem dX5_isDigit_39 : decode cX5_isDigit 39 = .ok (.ireturn, 1) := by decide +kernel
theorem dX6_init_0 : decode cX6_init 0 = .ok (.aload_n 0, 1) := by decide +kernel
theorem dX6_init_1 : decode cX6_init 1 = .ok (.invokespecial 1, 3) := by decide +kernel
theorem dX6_init_4 : decode cX6_init 4 = .ok (.aload_n 0, 1) := by decide +kernel
theorem dX6_init_5 : decode cX6_init 5 = .ok (.bipush 8, 2) := by decide +kernel
theorem dX6_init_7 : decode cX6_init 7 = .ok (.newarray .int, 2) := by decide +kernel
theorem dX6_init_9 : decode cX6_init 9 = .ok (.putfield 9, 3) := by decide +kernel
theorem dX6_init_12 : decode cX6_init 12 = .ok (.getstatic 13, 3) := by decide +kernel
theorem dX6_init_15 : decode cX6_init 15 = .ok (.iconst 0, 1) := by decide +kernel
theorem dX6_init_16 : decode cX6_init 16 = .ok (.aload_n 0, 1) := by decide +kernel
theorem dX6_init_17 : decode cX6_init 17 = .ok (.getfield 9, 3) := by decide +kernel
theorem dX6_init_20 : decode cX6_init 20 = .ok (.iconst 0, 1) := by decide +kernel
theorem dX6_init_21 : decode cX6_init 21 = .ok (.bipush 8, 2) := by decide +kernel
theorem dX6_init_23 : decode cX6_init 23 = .ok (.invokestatic 16, 3) := by decide +kernel
theorem dX6_init_26 : decode cX6_init 26 = .ok (.return_, 1) := by decide +kernel
theorem dX6_exists_0 : decode cX6_exists 0 = .ok (.iload_n 0, 1) := by decide +kernel
theorem dX6_exists_1 : decode cX6_exists 1 = .ok (.ifCond .lt 13, 3) := by decide +kernel
theorem dX6_exists_4 : decode cX6_exists 4 = .ok (.iload_n 0, 1) := by decide +kernel
theorem dX6_exists_5 : decode cX6_exists 5 = .ok (.bipush 8, 2) := by decide +kernel
theorem dX6_exists_7 : decode cX6_exists 7 = .ok (.if_icmp .ge 7, 3) := by decide +kernel
theorem dX6_exists_10 : decode cX6_exists 10 = .ok (.iconst 1, 1) := by decide +kernel
theorem dX6_exists_11 : decode cX6_exists 11 = .ok (.goto 4, 3) := by decide +kernel
theorem dX6_exists_14 : decode cX6_exists 14 = .ok (.iconst 0, 1) := by decide +kernel
theorem dX6_exists_15 : decode cX6_exists 15 = .ok (.ireturn, 1) := by decide +kernel
theorem dX6_allows_0 : decode cX6_allows 0 = .ok (.iload_n 0, 1) := by decide +kernel
theorem dX6_allows_1 : decode cX6_allows 1 = .ok (.invokestatic 22, 3) := by decide +kernel
theorem dX6_allows_4 : decode cX6_allows 4 = .ok (.ifCond .eq 25, 3) := by decide +kernel
theorem dX6_allows_7 : decode cX6_allows 7 = .ok (.iload_n 1, 1) := by decide +kernel
theorem dX6_allows_8 : decode cX6_allows 8 = .ok (.getstatic 26, 3) := by decide +kernel
theorem dX6_allows_11 : decode cX6_allows 11 = .ok (.iload_n 0, 1) := by decide +kernel
theorem dX6_allows_12 : decode cX6_allows 12 = .ok (.iaload, 1) := by decide +kernel
theorem dX6_allows_13 : decode cX6_allows 13 = .ok (.if_icmp .lt 16, 3) := by decide +kernel
theorem dX6_allows_16 : decode cX6_allows 16 = .ok (.iload_n 1, 1) := by decide +kernel
theorem dX6_allows_17 : decode cX6_allows 17 = .ok (.getstatic 29, 3) := by decide +kernel
theorem dX6_allows_20 : decode cX6_allows 20 = .ok (.iload_n 0, 1) := by decide +kernel
theorem dX6_allows_21 : decode cX6_allows 21 = .ok (.iaload, 1) := by decide +kernel
theorem dX6_allows_22 : decode cX6_allows 22 = .ok (.if_icmp .gt 7, 3) := by decide +kernel
theorem dX6_allows_25 : decode cX6_allows 25 = .ok (.iconst 1, 1) := by decide +kernel
theorem dX6_allows_26 : decode cX6_allows 26 = .ok (.goto 4, 3) := by decide +kernel
theorem dX6_allows_29 : decode cX6_allows 29 = .ok (.iconst 0, 1) := by decide +kernel
theorem dX6_allows_30 : decode cX6_allows 30 = .ok (.ireturn, 1) := by decide +kernel
theorem dX6_least_0 : decode cX6_least 0 = .ok (.iload_n 0, 1) := by decide +kernel
theorem dX6_least_1 : decode cX6_least 1 = .ok (.invokestatic 22, 3) := by decide +kernel
theorem dX6_least_4 : decode cX6_least 4 = .ok (.ifCond .eq 11, 3) := by decide +kernel
theorem dX6_least_7 : decode cX6_least 7 = .ok (.getstatic 26, 3) := by decide +kernel
theorem dX6_least_10 : decode cX6_least 10 = .ok (.iload_n 0, 1) := by decide +kernel
theorem dX6_least_11 : decode cX6_least 11 = .ok (.iaload, 1) := by decide +kernel
theorem dX6_least_12 : decode cX6_least 12 = .ok (.goto 4, 3) := by decide +kernel
theorem dX6_least_15 : decode cX6_least 15 = .ok (.iconst 0, 1) := by decide +kernel
theorem dX6_least_16 : decode cX6_least 16 = .ok (.ireturn, 1) := by decide +kernel
theorem dX6_greatest_0 : decode cX6_greatest 0 = .ok (.iload_n 0, 1) := by decide +kernel
theorem dX6_greatest_1 : decode cX6_greatest 1 = .ok (.invokestatic 22, 3) := by decide +kernel
theorem dX6_greatest_4 : decode cX6_greatest 4 = .ok (.ifCond .eq 11, 3) := by decide +kernel
theorem dX6_greatest_7 : decode cX6_greatest 7 = .ok (.getstatic 29, 3) := by decide +kernel
theorem dX6_greatest_10 : decode cX6_greatest 10 = .ok (.iload_n 0, 1) := by decide +kernel
theorem dX6_greatest_11 : decode cX6_greatest 11 = .ok (.iaload, 1) := by decide +kernel
theorem dX6_greatest_12 : decode cX6_greatest 12 = .ok (.goto 4, 3) := by decide +kernel
theorem dX6_greatest_15 : decode cX6_greatest 15 = .ok (.iconst 0, 1) := by decide +kernel
theorem dX6_greatest_16 : decode cX6_greatest 16 = .ok (.ireturn, 1) := by decide +kernel
theorem dX6_valueOf_0 : decode cX6_valueOf 0 = .ok (.iload_n 1, 1) := by decide +kernel
theorem dX6_valueOf_1 : decode cX6_valueOf 1 = .ok (.ifCond .lt 18, 3) := by decide +kernel
theorem dX6_valueOf_4 : decode cX6_valueOf 4 = .ok (.iload_n 1, 1) := by decide +kernel
theorem dX6_valueOf_5 : decode cX6_valueOf 5 = .ok (.bipush 8, 2) := by decide +kernel
theorem dX6_valueOf_7 : decode cX6_valueOf 7 = .ok (.if_icmp .ge 12, 3) := by decide +kernel
theorem dX6_valueOf_10 : decode cX6_valueOf 10 = .ok (.aload_n 0, 1) := by decide +kernel
theorem dX6_valueOf_11 : decode cX6_valueOf 11 = .ok (.getfield 9, 3) := by decide +kernel
theorem dX6_valueOf_14 : decode cX6_valueOf 14 = .ok (.iload_n 1, 1) := by decide +kernel
theorem dX6_valueOf_15 : decode cX6_valueOf 15 = .ok (.iaload, 1) := by decide +kernel
theorem dX6_valueOf_16 : decode cX6_valueOf 16 = .ok (.goto 4, 3) := by decide +kernel
theorem dX6_valueOf_19 : decode cX6_valueOf 19 = .ok (.iconst 0, 1) := by decide +kernel
theorem dX6_valueOf_20 : decode cX6_valueOf 20 = .ok (.ireturn, 1) := by decide +kernel
theorem dX6_change_0 : decode cX6_change 0 = .ok (.iload_n 1, 1) := by decide +kernel
theorem dX6_change_1 : decode cX6_change 1 = .ok (.iload_n 2, 1) := by decide +kernel
theorem dX6_change_2 : decode cX6_change 2 = .ok (.invokestatic 32, 3) := by decide +kernel
theorem dX6_change_5 : decode cX6_change 5 = .ok (.ifCond .eq 10, 3) := by decide +kernel
theorem dX6_change_8 : decode cX6_change 8 = .ok (.aload_n 0, 1) := by decide +kernel
theorem dX6_change_9 : decode cX6_change 9 = .ok (.getfield 9, 3) := by decide +kernel
theorem dX6_change_12 : decode cX6_change 12 = .ok (.iload_n 1, 1) := by decide +kernel
theorem dX6_change_13 : decode cX6_change 13 = .ok (.iload_n 2, 1) := by decide +kernel
theorem dX6_change_14 : decode cX6_change 14 = .ok (.iastore, 1) := by decide +kernel
theorem dX6_change_15 : decode cX6_change 15 = .ok (.return_, 1) := by decide +kernel
theorem dX6_copyFrom_0 : decode cX6_copyFrom 0 = .ok (.aload_n 1, 1) := by decide +kernel
theorem dX6_copyFrom_1 : decode cX6_copyFrom 1 = .ok (.getfield 9, 3) := by decide +kernel
theorem dX6_copyFrom_4 : decode cX6_copyFrom 4 = .ok (.iconst 0, 1) := by decide +kernel
theorem dX6_copyFrom_5 : decode cX6_copyFrom 5 = .ok (.aload_n 0, 1) := by decide +kernel
theorem dX6_copyFrom_6 : decode cX6_copyFrom 6 = .ok (.getfield 9, 3) := by decide +kernel
theorem dX6_copyFrom_9 : decode cX6_copyFrom 9 = .ok (.iconst 0, 1) := by decide +kernel
theorem dX6_copyFrom_10 : decode cX6_copyFrom 10 = .ok (.bipush 8, 2) := by decide +kernel
theorem dX6_copyFrom_12 : decode cX6_copyFrom 12 = .ok (.invokestatic 16, 3) := by decide +kernel
theorem dX6_copyFrom_15 : decode cX6_copyFrom 15 = .ok (.return_, 1) := by decide +kernel
theorem dX7_init_0 : decode cX7_init 0 = .ok (.aload_n 0, 1) := by decide +kernel
theorem dX7_init_1 : decode cX7_init 1 = .ok (.invokespecial 1, 3) := by decide +kernel
theorem dX7_init_4 : decode cX7_init 4 = .ok (.aload_n 0, 1) := by decide +kernel
theorem dX7_init_5 : decode cX7_init 5 = .ok (.new 7, 3) := by decide +kernel
theorem dX7_init_8 : decode cX7_init 8 = .ok (.dup, 1) := by decide +kernel
theorem dX7_init_9 : decode cX7_init 9 = .ok (.invokespecial 9, 3) := by decide +kernel
theorem dX7_init_12 : decode cX7_init 12 = .ok (.putfield 10, 3) := by decide +kernel
theorem dX7_init_15 : decode cX7_init 15 = .ok (.aload_n 0, 1) := by decide +kernel
theorem dX7_init_16 : decode cX7_init 16 = .ok (.new 16, 3) := by decide +kernel
theorem dX7_init_19 : decode cX7_init 19 = .ok (.dup, 1) := by decide +kernel
theorem dX7_init_20 : decode cX7_init 20 = .ok (.invokespecial 18, 3) := by decide +kernel
theorem dX7_init_23 : decode cX7_init 23 = .ok (.putfield 19, 3) := by decide +kernel
theorem dX7_init_26 : decode cX7_init 26 = .ok (.return_, 1) := by decide +kernel
theorem dX8_init_0 : decode cX8_init 0 = .ok (.aload_n 0, 1) := by decide +kernel
theorem dX8_init_1 : decode cX8_init 1 = .ok (.invokespecial 3, 3) := by decide +kernel
theorem dX8_init_4 : decode cX8_init 4 = .ok (.return_, 1) := by decide +kernel
theorem dX8_clear_0 : decode cX8_clear 0 = .ok (.aload_n 0, 1) := by decide +kernel
theorem dX8_clear_1 : decode cX8_clear 1 = .ok (.iconst 0, 1) := by decide +kernel
theorem dX8_clear_2 : decode cX8_clear 2 = .ok (.putfield 11, 3) := by decide +kernel
theorem dX8_clear_5 : decode cX8_clear 5 = .ok (.aload_n 0, 1) := by decide +kernel
theorem dX8_clear_6 : decode cX8_clear 6 = .ok (.iconst 0, 1) := by decide +kernel
theorem dX8_clear_7 : decode cX8_clear 7 = .ok (.putfield 15, 3) := by decide +kernel
theorem dX8_clear_10 : decode cX8_clear 10 = .ok (.aload_n 0, 1) := by decide +kernel
theorem dX8_clear_11 : decode cX8_clear 11 = .ok (.bipush (-8), 2) := by decide +kernel
theorem dX8_clear_13 : decode cX8_clear 13 = .ok (.putfield 19, 3) := by decide +kernel
theorem dX8_clear_16 : decode cX8_clear 16 = .ok (.aload_n 0, 1) := by decide +kernel
theorem dX8_clear_17 : decode cX8_clear 17 = .ok (.iconst (-1), 1) := by decide +kernel
theorem dX8_clear_18 : decode cX8_clear 18 = .ok (.putfield 22, 3) := by decide +kernel
theorem dX8_clear_21 : decode cX8_clear 21 = .ok (.aload_n 0, 1) := by decide +kernel
theorem dX8_clear_22 : decode cX8_clear 22 = .ok (.iconst 1, 1) := by decide +kernel
theorem dX8_clear_23 : decode cX8_clear 23 = .ok (.putfield 25, 3) := by decide +kernel
theorem dX8_clear_26 : decode cX8_clear 26 = .ok (.aload_n 0, 1) := by decide +kernel
theorem dX8_clear_27 : decode cX8_clear 27 = .ok (.bipush (-8), 2) := by decide +kernel
theorem dX8_clear_29 : decode cX8_clear 29 = .ok (.putfield 28, 3) := by decide +kernel
theorem dX8_clear_32 : decode cX8_clear 32 = .ok (.return_, 1) := by decide +kernel
theorem dX8_leavePlace_0 : decode cX8_leavePlace 0 = .ok (.aload_n 0, 1) := by decide +kernel
theorem dX8_leavePlace_1 : decode cX8_leavePlace 1 = .ok (.iload_n 1, 1) := by decide +kernel
theorem dX8_leavePlace_2 : decode cX8_leavePlace 2 = .ok (.putfield 11, 3) := by decide +kernel
theorem dX8_leavePlace_5 : decode cX8_leavePlace 5 = .ok (.aload_n 0, 1) := by decide +kernel
theorem dX8_leavePlace_6 : decode cX8_leavePlace 6 = .ok (.bipush (-8), 2) := by decide +kernel
theorem dX8_leavePlace_8 : decode cX8_leavePlace 8 = .ok (.putfield 19, 3) := by decide +kernel
theorem dX8_leavePlace_11 : decode cX8_leavePlace 11 = .ok (.return_, 1) := by decide +kernel
theorem dX8_copyFrom_0 : decode cX8_copyFrom 0 = .ok (.aload_n 0, 1) := by decide +kernel
theorem dX8_copyFrom_1 : decode cX8_copyFrom 1 = .ok (.aload_n 1, 1) := by decide +kernel
theorem dX8_copyFrom_2 : decode cX8_copyFrom 2 = .ok (.getfield 11, 3) := by decide +kernel
theorem dX8_copyFrom_5 : decode cX8_copyFrom 5 = .ok (.putfield 11, 3) := by decide +kernel
theorem dX8_copyFrom_8 : decode cX8_copyFrom 8 = .ok (.aload_n 0, 1) := by decide +kernel
theorem dX8_copyFrom_9 : decode cX8_copyFrom 9 = .ok (.aload_n 1, 1) := by decide +kernel
theorem dX8_copyFrom_10 : decode cX8_copyFrom 10 = .ok (.getfield 15, 3) := by decide +kernel
theorem dX8_copyFrom_13 : decode cX8_copyFrom 13 = .ok (.putfield 15, 3) := by decide +kernel
theorem dX8_copyFrom_16 : decode cX8_copyFrom 16 = .ok (.aload_n 0, 1) := by decide +kernel
theorem dX8_copyFrom_17 : decode cX8_copyFrom 17 = .ok (.aload_n 1, 1) := by decide +kernel
theorem dX8_copyFrom_18 : decode cX8_copyFrom 18 = .ok (.getfield 19, 3) := by decide +kernel
theorem dX8_copyFrom_21 : decode cX8_copyFrom 21 = .ok (.putfield 19, 3) := by decide +kernel
theorem dX8_copyFrom_24 : decode cX8_copyFrom 24 = .ok (.aload_n 0, 1) := by decide +kernel
theorem dX8_copyFrom_25 : decode cX8_copyFrom 25 = .ok (.aload_n 1, 1) := by decide +kernel
theorem dX8_copyFrom_26 : decode cX8_copyFrom 26 = .ok (.getfield 22, 3) := by decide +kernel
theorem dX8_copyFrom_29 : decode cX8_copyFrom 29 = .ok (.putfield 22, 3) := by decide +kernel
theorem dX8_copyFrom_32 : decode cX8_copyFrom 32 = .ok (.aload_n 0, 1) := by decide +kernel
theorem dX8_copyFrom_33 : decode cX8_copyFrom 33 = .ok (.aload_n 1, 1) := by decide +kernel
theorem dX8_copyFrom_34 : decode cX8_copyFrom 34 = .ok (.getfield 25, 3) := by decide +kernel
theorem dX8_copyFrom_37 : decode cX8_copyFrom 37 = .ok (.putfield 25, 3) := by decide +kernel
theorem dX8_copyFrom_40 : decode cX8_copyFrom 40 = .ok (.aload_n 0, 1) := by decide +kernel
theorem dX8_copyFrom_41 : decode cX8_copyFrom 41 = .ok (.aload_n 1, 1) := by decide +kernel
theorem dX8_copyFrom_42 : decode cX8_copyFrom 42 = .ok (.getfield 28, 3) := by decide +kernel
theorem dX8_copyFrom_45 : decode cX8_copyFrom 45 = .ok (.putfield 28, 3) := by decide +kernel
theorem dX8_copyFrom_48 : decode cX8_copyFrom 48 = .ok (.return_, 1) := by decide +kernel
theorem dX9_price_0 : decode cX9_price 0 = .ok (.iconst 0, 1) := by decide +kernel
theorem dX9_price_1 : decode cX9_price 1 = .ok (.istore_n 1, 1) := by decide +kernel
theorem dX9_price_2 : decode cX9_price 2 = .ok (.iconst 0, 1) := by decide +kernel
theorem dX9_price_3 : decode cX9_price 3 = .ok (.istore_n 2, 1) := by decide +kernel
theorem dX9_price_4 : decode cX9_price 4 = .ok (.iload_n 2, 1) := by decide +kernel
theorem dX9_price_5 : decode cX9_price 5 = .ok (.bipush 9, 2) := by decide +kernel
theorem dX9_price_7 : decode cX9_price 7 = .ok (.if_icmp .ge 27, 3) := by decide +kernel
theorem dX9_price_10 : decode cX9_price 10 = .ok (.iload_n 2, 1) := by decide +kernel
theorem dX9_price_11 : decode cX9_price 11 = .ok (.aload_n 0, 1) := by decide +kernel
theorem dX9_price_12 : decode cX9_price 12 = .ok (.arraylength, 1) := by decide +kernel
theorem dX9_price_13 : decode cX9_price 13 = .ok (.if_icmp .ge 21, 3) := by decide +kernel
theorem dX9_price_16 : decode cX9_price 16 = .ok (.iload_n 1, 1) := by decide +kernel
theorem dX9_price_17 : decode cX9_price 17 = .ok (.getstatic 9, 3) := by decide +kernel
theorem dX9_price_20 : decode cX9_price 20 = .ok (.iload_n 2, 1) := by decide +kernel
theorem dX9_price_21 : decode cX9_price 21 = .ok (.iaload, 1) := by decide +kernel
theorem dX9_price_22 : decode cX9_price 22 = .ok (.aload_n 0, 1) := by decide +kernel
theorem dX9_price_23 : decode cX9_price 23 = .ok (.iload_n 2, 1) := by decide +kernel
theorem dX9_price_24 : decode cX9_price 24 = .ok (.iaload, 1) := by decide +kernel
theorem dX9_price_25 : decode cX9_price 25 = .ok (.imul, 1) := by decide +kernel
theorem dX9_price_26 : decode cX9_price 26 = .ok (.iadd, 1) := by decide +kernel
theorem dX9_price_27 : decode cX9_price 27 = .ok (.istore_n 1, 1) := by decide +kernel
theorem dX9_price_28 : decode cX9_price 28 = .ok (.iinc 2 1, 3) := by decide +kernel
theorem dX9_price_31 : decode cX9_price 31 = .ok (.goto (-27), 3) := by decide +kernel
theorem dX9_price_34 : decode cX9_price 34 = .ok (.iload_n 1, 1) := by decide +kernel
theorem dX9_price_35 : decode cX9_price 35 = .ok (.ireturn, 1) := by decide +kernel
theorem dX10_init_0 : decode cX10_init 0 = .ok (.aload_n 0, 1) := by decide +kernel
theorem dX10_init_1 : decode cX10_init 1 = .ok (.invokespecial 3, 3) := by decide +kernel
theorem dX10_init_4 : decode cX10_init 4 = .ok (.aload_n 0, 1) := by decide +kernel
theorem dX10_init_5 : decode cX10_init 5 = .ok (.new 9, 3) := by decide +kernel
theorem dX10_init_8 : decode cX10_init 8 = .ok (.dup, 1) := by decide +kernel
theorem dX10_init_9 : decode cX10_init 9 = .ok (.invokespecial 11, 3) := by decide +kernel
theorem dX10_init_12 : decode cX10_init 12 = .ok (.putfield 12, 3) := by decide +kernel
theorem dX10_init_15 : decode cX10_init 15 = .ok (.aload_n 0, 1) := by decide +kernel
theorem dX10_init_16 : decode cX10_init 16 = .ok (.bipush 9, 2) := by decide +kernel
theorem dX10_init_18 : decode cX10_init 18 = .ok (.newarray .int, 2) := by decide +kernel
theorem dX10_init_20 : decode cX10_init 20 = .ok (.putfield 20, 3) := by decide +kernel
theorem dX10_init_23 : decode cX10_init 23 = .ok (.aload_n 0, 1) := by decide +kernel
theorem dX10_init_24 : decode cX10_init 24 = .ok (.bipush 6, 2) := by decide +kernel
theorem dX10_init_26 : decode cX10_init 26 = .ok (.anewarray 24, 3) := by decide +kernel
theorem dX10_init_29 : decode cX10_init 29 = .ok (.putfield 26, 3) := by decide +kernel
theorem dX10_init_32 : decode cX10_init 32 = .ok (.aload_n 0, 1) := by decide +kernel
theorem dX10_init_33 : decode cX10_init 33 = .ok (.bipush 8, 2) := by decide +kernel
theorem dX10_init_35 : decode cX10_init 35 = .ok (.anewarray 30, 3) := by decide +kernel
theorem dX10_init_38 : decode cX10_init 38 = .ok (.putfield 32, 3) := by decide +kernel
theorem dX10_init_41 : decode cX10_init 41 = .ok (.aload_n 0, 1) := by decide +kernel
theorem dX10_init_42 : decode cX10_init 42 = .ok (.iconst 3, 1) := by decide +kernel
theorem dX10_init_43 : decode cX10_init 43 = .ok (.anewarray 36, 3) := by decide +kernel
theorem dX10_init_46 : decode cX10_init 46 = .ok (.putfield 38, 3) := by decide +kernel
theorem dX10_init_49 : decode cX10_init 49 = .ok (.iconst 0, 1) := by decide +kernel
theorem dX10_init_50 : decode cX10_init 50 = .ok (.istore_n 1, 1) := by decide +kernel
theorem dX10_init_51 : decode cX10_init 51 = .ok (.iload_n 1, 1) := by decide +kernel
theorem dX10_init_52 : decode cX10_init 52 = .ok (.bipush 6, 2) := by decide +kernel
theorem dX10_init_54 : decode cX10_init 54 = .ok (.if_icmp .ge 22, 3) := by decide +kernel
theorem dX10_init_57 : decode cX10_init 57 = .ok (.aload_n 0, 1) := by decide +kernel
theorem dX10_init_58 : decode cX10_init 58 = .ok (.getfield 26, 3) := by decide +kernel
theorem dX10_init_61 : decode cX10_init 61 = .ok (.iload_n 1, 1) := by decide +kernel
theorem dX10_init_62 : decode cX10_init 62 = .ok (.new 24, 3) := by decide +kernel
theorem dX10_init_65 : decode cX10_init 65 = .ok (.dup, 1) := by decide +kernel
theorem dX10_init_66 : decode cX10_init 66 = .ok (.invokespecial 42, 3) := by decide +kernel
theorem dX10_init_69 : decode cX10_init 69 = .ok (.aastore, 1) := by decide +kernel
theorem dX10_init_70 : decode cX10_init 70 = .ok (.iinc 1 1, 3) := by decide +kernel
theorem dX10_init_73 : decode cX10_init 73 = .ok (.goto (-22), 3) := by decide +kernel
theorem dX10_init_76 : decode cX10_init 76 = .ok (.iconst 0, 1) := by decide +kernel
theorem dX10_init_77 : decode cX10_init 77 = .ok (.istore_n 1, 1) := by decide +kernel
theorem dX10_init_78 : decode cX10_init 78 = .ok (.iload_n 1, 1) := by decide +kernel
theorem dX10_init_79 : decode cX10_init 79 = .ok (.bipush 8, 2) := by decide +kernel
theorem dX10_init_81 : decode cX10_init 81 = .ok (.if_icmp .ge 23, 3) := by decide +kernel
theorem dX10_init_84 : decode cX10_init 84 = .ok (.aload_n 0, 1) := by decide +kernel
theorem dX10_init_85 : decode cX10_init 85 = .ok (.getfield 32, 3) := by decide +kernel
theorem dX10_init_88 : decode cX10_init 88 = .ok (.iload_n 1, 1) := by decide +kernel
theorem dX10_init_89 : decode cX10_init 89 = .ok (.new 30, 3) := by decide +kernel
theorem dX10_init_92 : decode cX10_init 92 = .ok (.dup, 1) := by decide +kernel
theorem dX10_init_93 : decode cX10_init 93 = .ok (.iload_n 1, 1) := by decide +kernel
theorem dX10_init_94 : decode cX10_init 94 = .ok (.invokespecial 43, 3) := by decide +kernel
theorem dX10_init_97 : decode cX10_init 97 = .ok (.aastore, 1) := by decide +kernel
theorem dX10_init_98 : decode cX10_init 98 = .ok (.iinc 1 1, 3) := by decide +kernel
theorem dX10_init_101 : decode cX10_init 101 = .ok (.goto (-23), 3) := by decide +kernel
theorem dX10_init_104 : decode cX10_init 104 = .ok (.iconst 0, 1) := by decide +kernel
theorem dX10_init_105 : decode cX10_init 105 = .ok (.istore_n 1, 1) := by decide +kernel
theorem dX10_init_106 : decode cX10_init 106 = .ok (.iload_n 1, 1) := by decide +kernel
theorem dX10_init_107 : decode cX10_init 107 = .ok (.iconst 3, 1) := by decide +kernel
theorem dX10_init_108 : decode cX10_init 108 = .ok (.if_icmp .ge 22, 3) := by decide +kernel
theorem dX10_init_111 : decode cX10_init 111 = .ok (.aload_n 0, 1) := by decide +kernel
theorem dX10_init_112 : decode cX10_init 112 = .ok (.getfield 38, 3) := by decide +kernel
theorem dX10_init_115 : decode cX10_init 115 = .ok (.iload_n 1, 1) := by decide +kernel
theorem dX10_init_116 : decode cX10_init 116 = .ok (.new 36, 3) := by decide +kernel
theorem dX10_init_119 : decode cX10_init 119 = .ok (.dup, 1) := by decide +kernel
theorem dX10_init_120 : decode cX10_init 120 = .ok (.invokespecial 46, 3) := by decide +kernel
theorem dX10_init_123 : decode cX10_init 123 = .ok (.aastore, 1) := by decide +kernel
theorem dX10_init_124 : decode cX10_init 124 = .ok (.iinc 1 1, 3) := by decide +kernel
theorem dX10_init_127 : decode cX10_init 127 = .ok (.goto (-21), 3) := by decide +kernel
theorem dX10_init_130 : decode cX10_init 130 = .ok (.aload_n 0, 1) := by decide +kernel
theorem dX10_init_131 : decode cX10_init 131 = .ok (.iconst 3, 1) := by decide +kernel
theorem dX10_init_132 : decode cX10_init 132 = .ok (.invokevirtual 47, 3) := by decide +kernel
theorem dX10_init_135 : decode cX10_init 135 = .ok (.return_, 1) := by decide +kernel
theorem dX10_begin_0 : decode cX10_begin 0 = .ok (.aload_n 0, 1) := by decide +kernel
theorem dX10_begin_1 : decode cX10_begin 1 = .ok (.iload_n 1, 1) := by decide +kernel
theorem dX10_begin_2 : decode cX10_begin 2 = .ok (.putfield 50, 3) := by decide +kernel
theorem dX10_begin_5 : decode cX10_begin 5 = .ok (.aload_n 0, 1) := by decide +kernel
theorem dX10_begin_6 : decode cX10_begin 6 = .ok (.iconst 0, 1) := by decide +kernel
theorem dX10_begin_7 : decode cX10_begin 7 = .ok (.putfield 54, 3) := by decide +kernel
theorem dX10_begin_10 : decode cX10_begin 10 = .ok (.aload_n 0, 1) := by decide +kernel
theorem dX10_begin_11 : decode cX10_begin 11 = .ok (.iconst 0, 1) := by decide +kernel
theorem dX10_begin_12 : decode cX10_begin 12 = .ok (.putfield 57, 3) := by decide +kernel
theorem dX10_begin_15 : decode cX10_begin 15 = .ok (.aload_n 0, 1) := by decide +kernel
theorem dX10_begin_16 : decode cX10_begin 16 = .ok (.getfield 20, 3) := by decide +kernel
theorem dX10_begin_19 : decode cX10_begin 19 = .ok (.iconst 0, 1) := by decide +kernel
theorem dX10_begin_20 : decode cX10_begin 20 = .ok (.invokestatic 60, 3) := by decide +kernel
theorem dX10_begin_23 : decode cX10_begin 23 = .ok (.aload_n 0, 1) := by decide +kernel
theorem dX10_begin_24 : decode cX10_begin 24 = .ok (.getfield 26, 3) := by decide +kernel
theorem dX10_begin_27 : decode cX10_begin 27 = .ok (.astore_n 2, 1) := by decide +kernel
theorem dX10_begin_28 : decode cX10_begin 28 = .ok (.aload_n 2, 1) := by decide +kernel
theorem dX10_begin_29 : decode cX10_begin 29 = .ok (.arraylength, 1) := by decide +kernel
theorem dX10_begin_30 : decode cX10_begin 30 = .ok (.istore_n 3, 1) := by decide +kernel
theorem dX10_begin_31 : decode cX10_begin 31 = .ok (.iconst 0, 1) := by decide +kernel
theorem dX10_begin_32 : decode cX10_begin 32 = .ok (.istore 4, 2) := by decide +kernel
theorem dX10_begin_34 : decode cX10_begin 34 = .ok (.iload 4, 2) := by decide +kernel
theorem dX10_begin_36 : decode cX10_begin 36 = .ok (.iload_n 3, 1) := by decide +kernel
theorem dX10_begin_37 : decode cX10_begin 37 = .ok (.if_icmp .ge 20, 3) := by decide +kernel
theorem dX10_begin_40 : decode cX10_begin 40 = .ok (.aload_n 2, 1) := by decide +kernel
theorem dX10_begin_41 : decode cX10_begin 41 = .ok (.iload 4, 2) := by decide +kernel
theorem dX10_begin_43 : decode cX10_begin 43 = .ok (.aaload, 1) := by decide +kernel
theorem dX10_begin_44 : decode cX10_begin 44 = .ok (.astore 5, 2) := by decide +kernel
theorem dX10_begin_46 : decode cX10_begin 46 = .ok (.aload 5, 2) := by decide +kernel
theorem dX10_begin_48 : decode cX10_begin 48 = .ok (.invokevirtual 66, 3) := by decide +kernel
theorem dX10_begin_51 : decode cX10_begin 51 = .ok (.iinc 4 1, 3) := by decide +kernel
theorem dX10_begin_54 : decode cX10_begin 54 = .ok (.goto (-20), 3) := by decide +kernel
theorem dX10_begin_57 : decode cX10_begin 57 = .ok (.aload_n 0, 1) := by decide +kernel
theorem dX10_begin_58 : decode cX10_begin 58 = .ok (.getfield 12, 3) := by decide +kernel
theorem dX10_begin_61 : decode cX10_begin 61 = .ok (.iconst 0, 1) := by decide +kernel
theorem dX10_begin_62 : decode cX10_begin 62 = .ok (.invokevirtual 69, 3) := by decide +kernel
theorem dX10_begin_65 : decode cX10_begin 65 = .ok (.iconst 1, 1) := by decide +kernel
theorem dX10_begin_66 : decode cX10_begin 66 = .ok (.if_icmp .ne 7, 3) := by decide +kernel
theorem dX10_begin_69 : decode cX10_begin 69 = .ok (.iconst 1, 1) := by decide +kernel
theorem dX10_begin_70 : decode cX10_begin 70 = .ok (.goto 4, 3) := by decide +kernel
theorem dX10_begin_73 : decode cX10_begin 73 = .ok (.iconst 0, 1) := by decide +kernel
theorem dX10_begin_74 : decode cX10_begin 74 = .ok (.istore_n 2, 1) := by decide +kernel
theorem dX10_begin_75 : decode cX10_begin 75 = .ok (.aload_n 0, 1) := by decide +kernel
theorem dX10_begin_76 : decode cX10_begin 76 = .ok (.getfield 32, 3) := by decide +kernel
theorem dX10_begin_79 : decode cX10_begin 79 = .ok (.astore_n 3, 1) := by decide +kernel
theorem dX10_begin_80 : decode cX10_begin 80 = .ok (.aload_n 3, 1) := by decide +kernel
theorem dX10_begin_81 : decode cX10_begin 81 = .ok (.arraylength, 1) := by decide +kernel
theorem dX10_begin_82 : decode cX10_begin 82 = .ok (.istore 4, 2) := by decide +kernel
theorem dX10_begin_84 : decode cX10_begin 84 = .ok (.iconst 0, 1) := by decide +kernel
theorem dX10_begin_85 : decode cX10_begin 85 = .ok (.istore 5, 2) := by decide +kernel
theorem dX10_begin_87 : decode cX10_begin 87 = .ok (.iload 5, 2) := by decide +kernel
theorem dX10_begin_89 : decode cX10_begin 89 = .ok (.iload 4, 2) := by decide +kernel
theorem dX10_begin_91 : decode cX10_begin 91 = .ok (.if_icmp .ge 21, 3) := by decide +kernel
theorem dX10_begin_94 : decode cX10_begin 94 = .ok (.aload_n 3, 1) := by decide +kernel
theorem dX10_begin_95 : decode cX10_begin 95 = .ok (.iload 5, 2) := by decide +kernel
theorem dX10_begin_97 : decode cX10_begin 97 = .ok (.aaload, 1) := by decide +kernel
theorem dX10_begin_98 : decode cX10_begin 98 = .ok (.astore 6, 2) := by decide +kernel
theorem dX10_begin_100 : decode cX10_begin 100 = .ok (.aload 6, 2) := by decide +kernel
theorem dX10_begin_102 : decode cX10_begin 102 = .ok (.iload_n 2, 1) := by decide +kernel
theorem dX10_begin_103 : decode cX10_begin 103 = .ok (.invokevirtual 73, 3) := by decide +kernel
theorem dX10_begin_106 : decode cX10_begin 106 = .ok (.iinc 5 1, 3) := by decide +kernel
theorem dX10_begin_109 : decode cX10_begin 109 = .ok (.goto (-22), 3) := by decide +kernel
theorem dX10_begin_112 : decode cX10_begin 112 = .ok (.aload_n 0, 1) := by decide +kernel
theorem dX10_begin_113 : decode cX10_begin 113 = .ok (.getfield 38, 3) := by decide +kernel
theorem dX10_begin_116 : decode cX10_begin 116 = .ok (.astore_n 3, 1) := by decide +kernel
theorem dX10_begin_117 : decode cX10_begin 117 = .ok (.aload_n 3, 1) := by decide +kernel
theorem dX10_begin_118 : decode cX10_begin 118 = .ok (.arraylength, 1) := by decide +kernel
theorem dX10_begin_119 : decode cX10_begin 119 = .ok (.istore 4, 2) := by decide +kernel
theorem dX10_begin_121 : decode cX10_begin 121 = .ok (.iconst 0, 1) := by decide +kernel
theorem dX10_begin_122 : decode cX10_begin 122 = .ok (.istore 5, 2) := by decide +kernel
theorem dX10_begin_124 : decode cX10_begin 124 = .ok (.iload 5, 2) := by decide +kernel
theorem dX10_begin_126 : decode cX10_begin 126 = .ok (.iload 4, 2) := by decide +kernel
theorem dX10_begin_128 : decode cX10_begin 128 = .ok (.if_icmp .ge 20, 3) := by decide +kernel
theorem dX10_begin_131 : decode cX10_begin 131 = .ok (.aload_n 3, 1) := by decide +kernel
theorem dX10_begin_132 : decode cX10_begin 132 = .ok (.iload 5, 2) := by decide +kernel
theorem dX10_begin_134 : decode cX10_begin 134 = .ok (.aaload, 1) := by decide +kernel
theorem dX10_begin_135 : decode cX10_begin 135 = .ok (.astore 6, 2) := by decide +kernel
theorem dX10_begin_137 : decode cX10_begin 137 = .ok (.aload 6, 2) := by decide +kernel
theorem dX10_begin_139 : decode cX10_begin 139 = .ok (.invokevirtual 76, 3) := by decide +kernel
theorem dX10_begin_142 : decode cX10_begin 142 = .ok (.iinc 5 1, 3) := by decide +kernel
theorem dX10_begin_145 : decode cX10_begin 145 = .ok (.goto (-21), 3) := by decide +kernel
theorem dX10_begin_148 : decode cX10_begin 148 = .ok (.return_, 1) := by decide +kernel
theorem dX10_copyFrom_0 : decode cX10_copyFrom 0 = .ok (.aload_n 0, 1) := by decide +kernel
theorem dX10_copyFrom_1 : decode cX10_copyFrom 1 = .ok (.aload_n 1, 1) := by decide +kernel
theorem dX10_copyFrom_2 : decode cX10_copyFrom 2 = .ok (.getfield 50, 3) := by decide +kernel
theorem dX10_copyFrom_5 : decode cX10_copyFrom 5 = .ok (.putfield 50, 3) := by decide +kernel
theorem dX10_copyFrom_8 : decode cX10_copyFrom 8 = .ok (.aload_n 0, 1) := by decide +kernel
theorem dX10_copyFrom_9 : decode cX10_copyFrom 9 = .ok (.aload_n 1, 1) := by decide +kernel
theorem dX10_copyFrom_10 : decode cX10_copyFrom 10 = .ok (.getfield 54, 3) := by decide +kernel
theorem dX10_copyFrom_13 : decode cX10_copyFrom 13 = .ok (.putfield 54, 3) := by decide +kernel
theorem dX10_copyFrom_16 : decode cX10_copyFrom 16 = .ok (.aload_n 0, 1) := by decide +kernel
theorem dX10_copyFrom_17 : decode cX10_copyFrom 17 = .ok (.aload_n 1, 1) := by decide +kernel
theorem dX10_copyFrom_18 : decode cX10_copyFrom 18 = .ok (.getfield 57, 3) := by decide +kernel
theorem dX10_copyFrom_21 : decode cX10_copyFrom 21 = .ok (.putfield 57, 3) := by decide +kernel
theorem dX10_copyFrom_24 : decode cX10_copyFrom 24 = .ok (.aload_n 0, 1) := by decide +kernel
theorem dX10_copyFrom_25 : decode cX10_copyFrom 25 = .ok (.getfield 12, 3) := by decide +kernel
theorem dX10_copyFrom_28 : decode cX10_copyFrom 28 = .ok (.aload_n 1, 1) := by decide +kernel
theorem dX10_copyFrom_29 : decode cX10_copyFrom 29 = .ok (.getfield 12, 3) := by decide +kernel
theorem dX10_copyFrom_32 : decode cX10_copyFrom 32 = .ok (.invokevirtual 77, 3) := by decide +kernel
theorem dX10_copyFrom_35 : decode cX10_copyFrom 35 = .ok (.aload_n 1, 1) := by decide +kernel
theorem dX10_copyFrom_36 : decode cX10_copyFrom 36 = .ok (.getfield 20, 3) := by decide +kernel
theorem dX10_copyFrom_39 : decode cX10_copyFrom 39 = .ok (.iconst 0, 1) := by decide +kernel
theorem dX10_copyFrom_40 : decode cX10_copyFrom 40 = .ok (.aload_n 0, 1) := by decide +kernel
theorem dX10_copyFrom_41 : decode cX10_copyFrom 41 = .ok (.getfield 20, 3) := by decide +kernel
theorem dX10_copyFrom_44 : decode cX10_copyFrom 44 = .ok (.iconst 0, 1) := by decide +kernel
theorem dX10_copyFrom_45 : decode cX10_copyFrom 45 = .ok (.bipush 9, 2) := by decide +kernel
theorem dX10_copyFrom_47 : decode cX10_copyFrom 47 = .ok (.invokestatic 81, 3) := by decide +kernel
theorem dX10_copyFrom_50 : decode cX10_copyFrom 50 = .ok (.iconst 0, 1) := by decide +kernel
theorem dX10_copyFrom_51 : decode cX10_copyFrom 51 = .ok (.istore_n 2, 1) := by decide +kernel
theorem dX10_copyFrom_52 : decode cX10_copyFrom 52 = .ok (.iload_n 2, 1) := by decide +kernel
theorem dX10_copyFrom_53 : decode cX10_copyFrom 53 = .ok (.bipush 6, 2) := by decide +kernel
theorem dX10_copyFrom_55 : decode cX10_copyFrom 55 = .ok (.if_icmp .ge 24, 3) := by decide +kernel
theorem dX10_copyFrom_58 : decode cX10_copyFrom 58 = .ok (.aload_n 0, 1) := by decide +kernel
theorem dX10_copyFrom_59 : decode cX10_copyFrom 59 = .ok (.getfield 26, 3) := by decide +kernel
theorem dX10_copyFrom_62 : decode cX10_copyFrom 62 = .ok (.iload_n 2, 1) := by decide +kernel
theorem dX10_copyFrom_63 : decode cX10_copyFrom 63 = .ok (.aaload, 1) := by decide +kernel
theorem dX10_copyFrom_64 : decode cX10_copyFrom 64 = .ok (.aload_n 1, 1) := by decide +kernel
theorem dX10_copyFrom_65 : decode cX10_copyFrom 65 = .ok (.getfield 26, 3) := by decide +kernel
theorem dX10_copyFrom_68 : decode cX10_copyFrom 68 = .ok (.iload_n 2, 1) := by decide +kernel
theorem dX10_copyFrom_69 : decode cX10_copyFrom 69 = .ok (.aaload, 1) := by decide +kernel
theorem dX10_copyFrom_70 : decode cX10_copyFrom 70 = .ok (.invokevirtual 87, 3) := by decide +kernel
theorem dX10_copyFrom_73 : decode cX10_copyFrom 73 = .ok (.iinc 2 1, 3) := by decide +kernel
theorem dX10_copyFrom_76 : decode cX10_copyFrom 76 = .ok (.goto (-24), 3) := by decide +kernel
theorem dX10_copyFrom_79 : decode cX10_copyFrom 79 = .ok (.iconst 0, 1) := by decide +kernel
theorem dX10_copyFrom_80 : decode cX10_copyFrom 80 = .ok (.istore_n 2, 1) := by decide +kernel
theorem dX10_copyFrom_81 : decode cX10_copyFrom 81 = .ok (.iload_n 2, 1) := by decide +kernel
theorem dX10_copyFrom_82 : decode cX10_copyFrom 82 = .ok (.bipush 8, 2) := by decide +kernel
theorem dX10_copyFrom_84 : decode cX10_copyFrom 84 = .ok (.if_icmp .ge 24, 3) := by decide +kernel
theorem dX10_copyFrom_87 : decode cX10_copyFrom 87 = .ok (.aload_n 0, 1) := by decide +kernel
theorem dX10_copyFrom_88 : decode cX10_copyFrom 88 = .ok (.getfield 32, 3) := by decide +kernel
theorem dX10_copyFrom_91 : decode cX10_copyFrom 91 = .ok (.iload_n 2, 1) := by decide +kernel
theorem dX10_copyFrom_92 : decode cX10_copyFrom 92 = .ok (.aaload, 1) := by decide +kernel
theorem dX10_copyFrom_93 : decode cX10_copyFrom 93 = .ok (.aload_n 1, 1) := by decide +kernel
theorem dX10_copyFrom_94 : decode cX10_copyFrom 94 = .ok (.getfield 32, 3) := by decide +kernel
theorem dX10_copyFrom_97 : decode cX10_copyFrom 97 = .ok (.iload_n 2, 1) := by decide +kernel
theorem dX10_copyFrom_98 : decode cX10_copyFrom 98 = .ok (.aaload, 1) := by decide +kernel
theorem dX10_copyFrom_99 : decode cX10_copyFrom 99 = .ok (.invokevirtual 90, 3) := by decide +kernel
theorem dX10_copyFrom_102 : decode cX10_copyFrom 102 = .ok (.iinc 2 1, 3) := by decide +kernel
theorem dX10_copyFrom_105 : decode cX10_copyFrom 105 = .ok (.goto (-24), 3) := by decide +kernel
theorem dX10_copyFrom_108 : decode cX10_copyFrom 108 = .ok (.iconst 0, 1) := by decide +kernel
theorem dX10_copyFrom_109 : decode cX10_copyFrom 109 = .ok (.istore_n 2, 1) := by decide +kernel
theorem dX10_copyFrom_110 : decode cX10_copyFrom 110 = .ok (.iload_n 2, 1) := by decide +kernel
theorem dX10_copyFrom_111 : decode cX10_copyFrom 111 = .ok (.iconst 3, 1) := by decide +kernel
theorem dX10_copyFrom_112 : decode cX10_copyFrom 112 = .ok (.if_icmp .ge 24, 3) := by decide +kernel
theorem dX10_copyFrom_115 : decode cX10_copyFrom 115 = .ok (.aload_n 0, 1) := by decide +kernel
theorem dX10_copyFrom_116 : decode cX10_copyFrom 116 = .ok (.getfield 38, 3) := by decide +kernel
theorem dX10_copyFrom_119 : decode cX10_copyFrom 119 = .ok (.iload_n 2, 1) := by decide +kernel
theorem dX10_copyFrom_120 : decode cX10_copyFrom 120 = .ok (.aaload, 1) := by decide +kernel
theorem dX10_copyFrom_121 : decode cX10_copyFrom 121 = .ok (.aload_n 1, 1) := by decide +kernel
theorem dX10_copyFrom_122 : decode cX10_copyFrom 122 = .ok (.getfield 38, 3) := by decide +kernel
theorem dX10_copyFrom_125 : decode cX10_copyFrom 125 = .ok (.iload_n 2, 1) := by decide +kernel
theorem dX10_copyFrom_126 : decode cX10_copyFrom 126 = .ok (.aaload, 1) := by decide +kernel
theorem dX10_copyFrom_127 : decode cX10_copyFrom 127 = .ok (.invokevirtual 93, 3) := by decide +kernel
theorem dX10_copyFrom_130 : decode cX10_copyFrom 130 = .ok (.iinc 2 1, 3) := by decide +kernel
theorem dX10_copyFrom_133 : decode cX10_copyFrom 133 = .ok (.goto (-23), 3) := by decide +kernel
theorem dX10_copyFrom_136 : decode cX10_copyFrom 136 = .ok (.return_, 1) := by decide +kernel
theorem dX10_perform_0 : decode cX10_perform 0 = .ok (.iload_n 1, 1) := by decide +kernel
theorem dX10_perform_1 : decode cX10_perform 1 = .ok (.tableswitch 122 0 9 #[55, 62, 69, 78, 85, 92, 98, 104, 110, 116], 55) := by decide +kernel
theorem dX10_perform_56 : decode cX10_perform 56 = .ok (.aload_n 0, 1) := by decide +kernel
theorem dX10_perform_57 : decode cX10_perform 57 = .ok (.iload_n 2, 1) := by decide +kernel
theorem dX10_perform_58 : decode cX10_perform 58 = .ok (.iload_n 3, 1) := by decide +kernel
theorem dX10_perform_59 : decode cX10_perform 59 = .ok (.invokevirtual 96, 3) := by decide +kernel
theorem dX10_perform_62 : decode cX10_perform 62 = .ok (.ireturn, 1) := by decide +kernel
theorem dX10_perform_63 : decode cX10_perform 63 = .ok (.aload_n 0, 1) := by decide +kernel
theorem dX10_perform_64 : decode cX10_perform 64 = .ok (.iload_n 2, 1) := by decide +kernel
theorem dX10_perform_65 : decode cX10_perform 65 = .ok (.iload_n 3, 1) := by decide +kernel
theorem dX10_perform_66 : decode cX10_perform 66 = .ok (.invokevirtual 100, 3) := by decide +kernel
theorem dX10_perform_69 : decode cX10_perform 69 = .ok (.ireturn, 1) := by decide +kernel
theorem dX10_perform_70 : decode cX10_perform 70 = .ok (.aload_n 0, 1) := by decide +kernel
theorem dX10_perform_71 : decode cX10_perform 71 = .ok (.iload_n 2, 1) := by decide +kernel
theorem dX10_perform_72 : decode cX10_perform 72 = .ok (.iload_n 3, 1) := by decide +kernel
theorem dX10_perform_73 : decode cX10_perform 73 = .ok (.iload 4, 2) := by decide +kernel
theorem dX10_perform_75 : decode cX10_perform 75 = .ok (.invokevirtual 103, 3) := by decide +kernel
theorem dX10_perform_78 : decode cX10_perform 78 = .ok (.ireturn, 1) := by decide +kernel
theorem dX10_perform_79 : decode cX10_perform 79 = .ok (.aload_n 0, 1) := by decide +kernel
theorem dX10_perform_80 : decode cX10_perform 80 = .ok (.iload_n 2, 1) := by decide +kernel
theorem dX10_perform_81 : decode cX10_perform 81 = .ok (.iload_n 3, 1) := by decide +kernel
theorem dX10_perform_82 : decode cX10_perform 82 = .ok (.invokevirtual 107, 3) := by decide +kernel
theorem dX10_perform_85 : decode cX10_perform 85 = .ok (.ireturn, 1) := by decide +kernel
theorem dX10_perform_86 : decode cX10_perform 86 = .ok (.aload_n 0, 1) := by decide +kernel
theorem dX10_perform_87 : decode cX10_perform 87 = .ok (.iload_n 2, 1) := by decide +kernel
theorem dX10_perform_88 : decode cX10_perform 88 = .ok (.iload_n 3, 1) := by decide +kernel
theorem dX10_perform_89 : decode cX10_perform 89 = .ok (.invokevirtual 110, 3) := by decide +kernel
theorem dX10_perform_92 : decode cX10_perform 92 = .ok (.ireturn, 1) := by decide +kernel
theorem dX10_perform_93 : decode cX10_perform 93 = .ok (.aload_n 0, 1) := by decide +kernel
theorem dX10_perform_94 : decode cX10_perform 94 = .ok (.iload_n 2, 1) := by decide +kernel
theorem dX10_perform_95 : decode cX10_perform 95 = .ok (.invokevirtual 113, 3) := by decide +kernel
theorem dX10_perform_98 : decode cX10_perform 98 = .ok (.ireturn, 1) := by decide +kernel
theorem dX10_perform_99 : decode cX10_perform 99 = .ok (.aload_n 0, 1) := by decide +kernel
theorem dX10_perform_100 : decode cX10_perform 100 = .ok (.iload_n 2, 1) := by decide +kernel
theorem dX10_perform_101 : decode cX10_perform 101 = .ok (.invokevirtual 116, 3) := by decide +kernel
theorem dX10_perform_104 : decode cX10_perform 104 = .ok (.ireturn, 1) := by decide +kernel
theorem dX10_perform_105 : decode cX10_perform 105 = .ok (.aload_n 0, 1) := by decide +kernel
theorem dX10_perform_106 : decode cX10_perform 106 = .ok (.iload_n 2, 1) := by decide +kernel
theorem dX10_perform_107 : decode cX10_perform 107 = .ok (.invokevirtual 119, 3) := by decide +kernel
theorem dX10_perform_110 : decode cX10_perform 110 = .ok (.ireturn, 1) := by decide +kernel
theorem dX10_perform_111 : decode cX10_perform 111 = .ok (.aload_n 0, 1) := by decide +kernel
theorem dX10_perform_112 : decode cX10_perform 112 = .ok (.iload_n 2, 1) := by decide +kernel
theorem dX10_perform_113 : decode cX10_perform 113 = .ok (.invokevirtual 122, 3) := by decide +kernel
theorem dX10_perform_116 : decode cX10_perform 116 = .ok (.ireturn, 1) := by decide +kernel
theorem dX10_perform_117 : decode cX10_perform 117 = .ok (.aload_n 0, 1) := by decide +kernel
theorem dX10_perform_118 : decode cX10_perform 118 = .ok (.iload_n 2, 1) := by decide +kernel
theorem dX10_perform_119 : decode cX10_perform 119 = .ok (.invokevirtual 125, 3) := by decide +kernel
theorem dX10_perform_122 : decode cX10_perform 122 = .ok (.ireturn, 1) := by decide +kernel
theorem dX10_perform_123 : decode cX10_perform 123 = .ok (.bipush (-3), 2) := by decide +kernel
theorem dX10_perform_125 : decode cX10_perform 125 = .ok (.ireturn, 1) := by decide +kernel
theorem dX10_hasThread_0 : decode cX10_hasThread 0 = .ok (.iload_n 1, 1) := by decide +kernel
theorem dX10_hasThread_1 : decode cX10_hasThread 1 = .ok (.ifCond .lt 21, 3) := by decide +kernel
theorem dX10_hasThread_4 : decode cX10_hasThread 4 = .ok (.iload_n 1, 1) := by decide +kernel
theorem dX10_hasThread_5 : decode cX10_hasThread 5 = .ok (.aload_n 0, 1) := by decide +kernel
theorem dX10_hasThread_6 : decode cX10_hasThread 6 = .ok (.getfield 50, 3) := by decide +kernel
theorem dX10_hasThread_9 : decode cX10_hasThread 9 = .ok (.if_icmp .ge 13, 3) := by decide +kernel
theorem dX10_hasThread_12 : decode cX10_hasThread 12 = .ok (.iload_n 1, 1) := by decide +kernel
theorem dX10_hasThread_13 : decode cX10_hasThread 13 = .ok (.bipush 6, 2) := by decide +kernel
theorem dX10_hasThread_15 : decode cX10_hasThread 15 = .ok (.if_icmp .ge 7, 3) := by decide +kernel
theorem dX10_hasThread_18 : decode cX10_hasThread 18 = .ok (.iconst 1, 1) := by decide +kernel
theorem dX10_hasThread_19 : decode cX10_hasThread 19 = .ok (.goto 4, 3) := by decide +kernel
theorem dX10_hasThread_22 : decode cX10_hasThread 22 = .ok (.iconst 0, 1) := by decide +kernel
theorem dX10_hasThread_23 : decode cX10_hasThread 23 = .ok (.ireturn, 1) := by decide +kernel
theorem dX10_runnerError_0 : decode cX10_runnerError 0 = .ok (.aload_n 0, 1) := by decide +kernel
theorem dX10_runnerError_1 : decode cX10_runnerError 1 = .ok (.iload_n 1, 1) := by decide +kernel
theorem dX10_runnerError_2 : decode cX10_runnerError 2 = .ok (.invokevirtual 128, 3) := by decide +kernel
theorem dX10_runnerError_5 : decode cX10_runnerError 5 = .ok (.ifCond .ne 5, 3) := by decide +kernel
theorem dX10_runnerError_8 : decode cX10_runnerError 8 = .ok (.iconst (-1), 1) := by decide +kernel
theorem dX10_runnerError_9 : decode cX10_runnerError 9 = .ok (.ireturn, 1) := by decide +kernel
theorem dX10_runnerError_10 : decode cX10_runnerError 10 = .ok (.iload_n 2, 1) := by decide +kernel
theorem dX10_runnerError_11 : decode cX10_runnerError 11 = .ok (.invokestatic 132, 3) := by decide +kernel
theorem dX10_runnerError_14 : decode cX10_runnerError 14 = .ok (.ifCond .ne 6, 3) := by decide +kernel
theorem dX10_runnerError_17 : decode cX10_runnerError 17 = .ok (.bipush (-2), 2) := by decide +kernel
theorem dX10_runnerError_19 : decode cX10_runnerError 19 = .ok (.ireturn, 1) := by decide +kernel
theorem dX10_runnerError_20 : decode cX10_runnerError 20 = .ok (.aload_n 0, 1) := by decide +kernel
theorem dX10_runnerError_21 : decode cX10_runnerError 21 = .ok (.getfield 26, 3) := by decide +kernel
theorem dX10_runnerError_24 : decode cX10_runnerError 24 = .ok (.iload_n 1, 1) := by decide +kernel
theorem dX10_runnerError_25 : decode cX10_runnerError 25 = .ok (.aaload, 1) := by decide +kernel
theorem dX10_runnerError_26 : decode cX10_runnerError 26 = .ok (.getfield 135, 3) := by decide +kernel
theorem dX10_runnerError_29 : decode cX10_runnerError 29 = .ok (.ifCond .ne 7, 3) := by decide +kernel
theorem dX10_runnerError_32 : decode cX10_runnerError 32 = .ok (.iconst 0, 1) := by decide +kernel
theorem dX10_runnerError_33 : decode cX10_runnerError 33 = .ok (.goto 5, 3) := by decide +kernel
theorem dX10_runnerError_36 : decode cX10_runnerError 36 = .ok (.bipush (-4), 2) := by decide +kernel
theorem dX10_runnerError_38 : decode cX10_runnerError 38 = .ok (.ireturn, 1) := by decide +kernel
theorem dX10_ownerError_0 : decode cX10_ownerError 0 = .ok (.aload_n 0, 1) := by decide +kernel
theorem dX10_ownerError_1 : decode cX10_ownerError 1 = .ok (.iload_n 1, 1) := by decide +kernel
theorem dX10_ownerError_2 : decode cX10_ownerError 2 = .ok (.iload_n 2, 1) := by decide +kernel
theorem dX10_ownerError_3 : decode cX10_ownerError 3 = .ok (.invokevirtual 138, 3) := by decide +kernel
theorem dX10_ownerError_6 : decode cX10_ownerError 6 = .ok (.istore_n 3, 1) := by decide +kernel
theorem dX10_ownerError_7 : decode cX10_ownerError 7 = .ok (.iload_n 3, 1) := by decide +kernel
theorem dX10_ownerError_8 : decode cX10_ownerError 8 = .ok (.ifCond .eq 5, 3) := by decide +kernel
theorem dX10_ownerError_11 : decode cX10_ownerError 11 = .ok (.iload_n 3, 1) := by decide +kernel
theorem dX10_ownerError_12 : decode cX10_ownerError 12 = .ok (.ireturn, 1) := by decide +kernel
theorem dX10_ownerError_13 : decode cX10_ownerError 13 = .ok (.aload_n 0, 1) := by decide +kernel
theorem dX10_ownerError_14 : decode cX10_ownerError 14 = .ok (.getfield 32, 3) := by decide +kernel
theorem dX10_ownerError_17 : decode cX10_ownerError 17 = .ok (.iload_n 2, 1) := by decide +kernel
theorem dX10_ownerError_18 : decode cX10_ownerError 18 = .ok (.aaload, 1) := by decide +kernel
theorem dX10_ownerError_19 : decode cX10_ownerError 19 = .ok (.iload_n 1, 1) := by decide +kernel
theorem dX10_ownerError_20 : decode cX10_ownerError 20 = .ok (.invokevirtual 141, 3) := by decide +kernel
theorem dX10_ownerError_23 : decode cX10_ownerError 23 = .ok (.ifCond .eq 7, 3) := by decide +kernel
theorem dX10_ownerError_26 : decode cX10_ownerError 26 = .ok (.iconst 0, 1) := by decide +kernel
theorem dX10_ownerError_27 : decode cX10_ownerError 27 = .ok (.goto 5, 3) := by decide +kernel
theorem dX10_ownerError_30 : decode cX10_ownerError 30 = .ok (.bipush (-5), 2) := by decide +kernel
theorem dX10_ownerError_32 : decode cX10_ownerError 32 = .ok (.ireturn, 1) := by decide +kernel
theorem dX10_enterObject_0 : decode cX10_enterObject 0 = .ok (.aload_n 0, 1) := by decide +kernel
theorem dX10_enterObject_1 : decode cX10_enterObject 1 = .ok (.iload_n 1, 1) := by decide +kernel
theorem dX10_enterObject_2 : decode cX10_enterObject 2 = .ok (.iload_n 2, 1) := by decide +kernel
theorem dX10_enterObject_3 : decode cX10_enterObject 3 = .ok (.invokevirtual 138, 3) := by decide +kernel
theorem dX10_enterObject_6 : decode cX10_enterObject 6 = .ok (.istore_n 3, 1) := by decide +kernel
theorem dX10_enterObject_7 : decode cX10_enterObject 7 = .ok (.iload_n 3, 1) := by decide +kernel
theorem dX10_enterObject_8 : decode cX10_enterObject 8 = .ok (.ifCond .eq 5, 3) := by decide +kernel
theorem dX10_enterObject_11 : decode cX10_enterObject 11 = .ok (.iload_n 3, 1) := by decide +kernel
theorem dX10_enterObject_12 : decode cX10_enterObject 12 = .ok (.ireturn, 1) := by decide +kernel
theorem dX10_enterObject_13 : decode cX10_enterObject 13 = .ok (.aload_n 0, 1) := by decide +kernel
theorem dX10_enterObject_14 : decode cX10_enterObject 14 = .ok (.getfield 32, 3) := by decide +kernel
theorem dX10_enterObject_17 : decode cX10_enterObject 17 = .ok (.iload_n 2, 1) := by decide +kernel
theorem dX10_enterObject_18 : decode cX10_enterObject 18 = .ok (.aaload, 1) := by decide +kernel
theorem dX10_enterObject_19 : decode cX10_enterObject 19 = .ok (.astore 4, 2) := by decide +kernel
theorem dX10_enterObject_21 : decode cX10_enterObject 21 = .ok (.aload_n 0, 1) := by decide +kernel
theorem dX10_enterObject_22 : decode cX10_enterObject 22 = .ok (.iload_n 1, 1) := by decide +kernel
theorem dX10_enterObject_23 : decode cX10_enterObject 23 = .ok (.aload 4, 2) := by decide +kernel
theorem dX10_enterObject_25 : decode cX10_enterObject 25 = .ok (.invokevirtual 144, 3) := by decide +kernel
theorem dX10_enterObject_28 : decode cX10_enterObject 28 = .ok (.istore 5, 2) := by decide +kernel
theorem dX10_enterObject_30 : decode cX10_enterObject 30 = .ok (.iload 5, 2) := by decide +kernel
theorem dX10_enterObject_32 : decode cX10_enterObject 32 = .ok (.ifCond .eq 13, 3) := by decide +kernel
theorem dX10_enterObject_35 : decode cX10_enterObject 35 = .ok (.aload_n 0, 1) := by decide +kernel
theorem dX10_enterObject_36 : decode cX10_enterObject 36 = .ok (.invokevirtual 148, 3) := by decide +kernel
theorem dX10_enterObject_39 : decode cX10_enterObject 39 = .ok (.ifCond .ne 6, 3) := by decide +kernel
theorem dX10_enterObject_42 : decode cX10_enterObject 42 = .ok (.bipush (-6), 2) := by decide +kernel
theorem dX10_enterObject_44 : decode cX10_enterObject 44 = .ok (.ireturn, 1) := by decide +kernel
theorem dX10_enterObject_45 : decode cX10_enterObject 45 = .ok (.aload 4, 2) := by decide +kernel
theorem dX10_enterObject_47 : decode cX10_enterObject 47 = .ok (.getfield 152, 3) := by decide +kernel
theorem dX10_enterObject_50 : decode cX10_enterObject 50 = .ok (.iconst 2, 1) := by decide +kernel
theorem dX10_enterObject_51 : decode cX10_enterObject 51 = .ok (.if_icmp .ne 27, 3) := by decide +kernel
theorem dX10_enterObject_54 : decode cX10_enterObject 54 = .ok (.aload 4, 2) := by decide +kernel
theorem dX10_enterObject_56 : decode cX10_enterObject 56 = .ok (.getfield 153, 3) := by decide +kernel
theorem dX10_enterObject_59 : decode cX10_enterObject 59 = .ok (.iload_n 1, 1) := by decide +kernel
theorem dX10_enterObject_60 : decode cX10_enterObject 60 = .ok (.if_icmp .eq 18, 3) := by decide +kernel
theorem dX10_enterObject_63 : decode cX10_enterObject 63 = .ok (.aload_n 0, 1) := by decide +kernel
theorem dX10_enterObject_64 : decode cX10_enterObject 64 = .ok (.aload 4, 2) := by decide +kernel
theorem dX10_enterObject_66 : decode cX10_enterObject 66 = .ok (.invokevirtual 156, 3) := by decide +kernel
theorem dX10_enterObject_69 : decode cX10_enterObject 69 = .ok (.ifCond .eq 9, 3) := by decide +kernel
theorem dX10_enterObject_72 : decode cX10_enterObject 72 = .ok (.aload_n 0, 1) := by decide +kernel
theorem dX10_enterObject_73 : decode cX10_enterObject 73 = .ok (.aload 4, 2) := by decide +kernel
theorem dX10_enterObject_75 : decode cX10_enterObject 75 = .ok (.invokevirtual 160, 3) := by decide +kernel
theorem dX10_enterObject_78 : decode cX10_enterObject 78 = .ok (.iload 5, 2) := by decide +kernel
theorem dX10_enterObject_80 : decode cX10_enterObject 80 = .ok (.ifCond .eq 9, 3) := by decide +kernel
theorem dX10_enterObject_83 : decode cX10_enterObject 83 = .ok (.aload_n 0, 1) := by decide +kernel
theorem dX10_enterObject_84 : decode cX10_enterObject 84 = .ok (.aload 4, 2) := by decide +kernel
theorem dX10_enterObject_86 : decode cX10_enterObject 86 = .ok (.invokevirtual 163, 3) := by decide +kernel
theorem dX10_enterObject_89 : decode cX10_enterObject 89 = .ok (.aload 4, 2) := by decide +kernel
theorem dX10_enterObject_91 : decode cX10_enterObject 91 = .ok (.iload_n 1, 1) := by decide +kernel
theorem dX10_enterObject_92 : decode cX10_enterObject 92 = .ok (.invokevirtual 141, 3) := by decide +kernel
theorem dX10_enterObject_95 : decode cX10_enterObject 95 = .ok (.ifCond .eq 16, 3) := by decide +kernel
theorem dX10_enterObject_98 : decode cX10_enterObject 98 = .ok (.aload 4, 2) := by decide +kernel
theorem dX10_enterObject_100 : decode cX10_enterObject 100 = .ok (.dup, 1) := by decide +kernel
theorem dX10_enterObject_101 : decode cX10_enterObject 101 = .ok (.getfield 166, 3) := by decide +kernel
theorem dX10_enterObject_104 : decode cX10_enterObject 104 = .ok (.iconst 1, 1) := by decide +kernel
theorem dX10_enterObject_105 : decode cX10_enterObject 105 = .ok (.iadd, 1) := by decide +kernel
theorem dX10_enterObject_106 : decode cX10_enterObject 106 = .ok (.putfield 166, 3) := by decide +kernel
theorem dX10_enterObject_109 : decode cX10_enterObject 109 = .ok (.iconst 4, 1) := by decide +kernel
theorem dX10_enterObject_110 : decode cX10_enterObject 110 = .ok (.ireturn, 1) := by decide +kernel
theorem dX10_enterObject_111 : decode cX10_enterObject 111 = .ok (.aload 4, 2) := by decide +kernel
theorem dX10_enterObject_113 : decode cX10_enterObject 113 = .ok (.invokevirtual 169, 3) := by decide +kernel
theorem dX10_enterObject_116 : decode cX10_enterObject 116 = .ok (.ifCond .eq 12, 3) := by decide +kernel
theorem dX10_enterObject_119 : decode cX10_enterObject 119 = .ok (.aload_n 0, 1) := by decide +kernel
theorem dX10_enterObject_120 : decode cX10_enterObject 120 = .ok (.iload_n 1, 1) := by decide +kernel
theorem dX10_enterObject_121 : decode cX10_enterObject 121 = .ok (.aload 4, 2) := by decide +kernel
theorem dX10_enterObject_123 : decode cX10_enterObject 123 = .ok (.invokevirtual 172, 3) := by decide +kernel
theorem dX10_enterObject_126 : decode cX10_enterObject 126 = .ok (.iconst 0, 1) := by decide +kernel
theorem dX10_enterObject_127 : decode cX10_enterObject 127 = .ok (.ireturn, 1) := by decide +kernel
theorem dX10_enterObject_128 : decode cX10_enterObject 128 = .ok (.aload_n 0, 1) := by decide +kernel
theorem dX10_enterObject_129 : decode cX10_enterObject 129 = .ok (.aload 4, 2) := by decide +kernel
theorem dX10_enterObject_131 : decode cX10_enterObject 131 = .ok (.invokevirtual 176, 3) := by decide +kernel
theorem dX10_enterObject_134 : decode cX10_enterObject 134 = .ok (.istore 6, 2) := by decide +kernel
theorem dX10_enterObject_136 : decode cX10_enterObject 136 = .ok (.iload 6, 2) := by decide +kernel
theorem dX10_enterObject_138 : decode cX10_enterObject 138 = .ok (.aload_n 0, 1) := by decide +kernel
theorem dX10_enterObject_139 : decode cX10_enterObject 139 = .ok (.iload_n 1, 1) := by decide +kernel
theorem dX10_enterObject_140 : decode cX10_enterObject 140 = .ok (.aload 4, 2) := by decide +kernel
theorem dX10_enterObject_142 : decode cX10_enterObject 142 = .ok (.invokevirtual 180, 3) := by decide +kernel
theorem dX10_enterObject_145 : decode cX10_enterObject 145 = .ok (.iadd, 1) := by decide +kernel
theorem dX10_enterObject_146 : decode cX10_enterObject 146 = .ok (.ireturn, 1) := by decide +kernel
theorem dX10_entryNeedsMonitor_0 : decode cX10_entryNeedsMonitor 0 = .ok (.aload_n 2, 1) := by decide +kernel
theorem dX10_entryNeedsMonitor_1 : decode cX10_entryNeedsMonitor 1 = .ok (.invokevirtual 169, 3) := by decide +kernel
theorem dX10_entryNeedsMonitor_4 : decode cX10_entryNeedsMonitor 4 = .ok (.ifCond .eq 11, 3) := by decide +kernel
theorem dX10_entryNeedsMonitor_7 : decode cX10_entryNeedsMonitor 7 = .ok (.aload_n 2, 1) := by decide +kernel
theorem dX10_entryNeedsMonitor_8 : decode cX10_entryNeedsMonitor 8 = .ok (.getfield 152, 3) := by decide +kernel
theorem dX10_entryNeedsMonitor_11 : decode cX10_entryNeedsMonitor 11 = .ok (.iconst 4, 1) := by decide +kernel
theorem dX10_entryNeedsMonitor_12 : decode cX10_entryNeedsMonitor 12 = .ok (.if_icmp .ne 5, 3) := by decide +kernel
theorem dX10_entryNeedsMonitor_15 : decode cX10_entryNeedsMonitor 15 = .ok (.iconst 0, 1) := by decide +kernel
theorem dX10_entryNeedsMonitor_16 : decode cX10_entryNeedsMonitor 16 = .ok (.ireturn, 1) := by decide +kernel
theorem dX10_entryNeedsMonitor_17 : decode cX10_entryNeedsMonitor 17 = .ok (.aload_n 2, 1) := by decide +kernel
theorem dX10_entryNeedsMonitor_18 : decode cX10_entryNeedsMonitor 18 = .ok (.getfield 184, 3) := by decide +kernel
theorem dX10_entryNeedsMonitor_21 : decode cX10_entryNeedsMonitor 21 = .ok (.iload_n 1, 1) := by decide +kernel
theorem dX10_entryNeedsMonitor_22 : decode cX10_entryNeedsMonitor 22 = .ok (.if_icmp .eq 5, 3) := by decide +kernel
theorem dX10_entryNeedsMonitor_25 : decode cX10_entryNeedsMonitor 25 = .ok (.iconst 1, 1) := by decide +kernel
theorem dX10_entryNeedsMonitor_26 : decode cX10_entryNeedsMonitor 26 = .ok (.ireturn, 1) := by decide +kernel
theorem dX10_entryNeedsMonitor_27 : decode cX10_entryNeedsMonitor 27 = .ok (.aload_n 2, 1) := by decide +kernel
theorem dX10_entryNeedsMonitor_28 : decode cX10_entryNeedsMonitor 28 = .ok (.getfield 152, 3) := by decide +kernel
theorem dX10_entryNeedsMonitor_31 : decode cX10_entryNeedsMonitor 31 = .ok (.iconst 3, 1) := by decide +kernel
theorem dX10_entryNeedsMonitor_32 : decode cX10_entryNeedsMonitor 32 = .ok (.if_icmp .ne 22, 3) := by decide +kernel
theorem dX10_entryNeedsMonitor_35 : decode cX10_entryNeedsMonitor 35 = .ok (.aload_n 2, 1) := by decide +kernel
theorem dX10_entryNeedsMonitor_36 : decode cX10_entryNeedsMonitor 36 = .ok (.getfield 166, 3) := by decide +kernel
theorem dX10_entryNeedsMonitor_39 : decode cX10_entryNeedsMonitor 39 = .ok (.aload_n 0, 1) := by decide +kernel
theorem dX10_entryNeedsMonitor_40 : decode cX10_entryNeedsMonitor 40 = .ok (.getfield 12, 3) := by decide +kernel
theorem dX10_entryNeedsMonitor_43 : decode cX10_entryNeedsMonitor 43 = .ok (.iconst 4, 1) := by decide +kernel
theorem dX10_entryNeedsMonitor_44 : decode cX10_entryNeedsMonitor 44 = .ok (.invokevirtual 69, 3) := by decide +kernel
theorem dX10_entryNeedsMonitor_47 : decode cX10_entryNeedsMonitor 47 = .ok (.if_icmp .lt 7, 3) := by decide +kernel
theorem dX10_entryNeedsMonitor_50 : decode cX10_entryNeedsMonitor 50 = .ok (.iconst 1, 1) := by decide +kernel
theorem dX10_entryNeedsMonitor_51 : decode cX10_entryNeedsMonitor 51 = .ok (.goto 4, 3) := by decide +kernel
theorem dX10_entryNeedsMonitor_54 : decode cX10_entryNeedsMonitor 54 = .ok (.iconst 0, 1) := by decide +kernel
theorem dX10_entryNeedsMonitor_55 : decode cX10_entryNeedsMonitor 55 = .ok (.ireturn, 1) := by decide +kernel
theorem dX10_take_0 : decode cX10_take 0 = .ok (.aload_n 2, 1) := by decide +kernel
theorem dX10_take_1 : decode cX10_take 1 = .ok (.getfield 152, 3) := by decide +kernel
theorem dX10_take_4 : decode cX10_take 4 = .ok (.tableswitch 59 0 2 #[36, 28, 28], 28) := by decide +kernel
theorem dX10_take_32 : decode cX10_take 32 = .ok (.aload_n 0, 1) := by decide +kernel
theorem dX10_take_33 : decode cX10_take 33 = .ok (.iload_n 1, 1) := by decide +kernel
theorem dX10_take_34 : decode cX10_take 34 = .ok (.aload_n 2, 1) := by decide +kernel
theorem dX10_take_35 : decode cX10_take 35 = .ok (.invokevirtual 187, 3) := by decide +kernel
theorem dX10_take_38 : decode cX10_take 38 = .ok (.iconst 1, 1) := by decide +kernel
theorem dX10_take_39 : decode cX10_take 39 = .ok (.ireturn, 1) := by decide +kernel
theorem dX10_take_40 : decode cX10_take 40 = .ok (.aload_n 2, 1) := by decide +kernel
theorem dX10_take_41 : decode cX10_take 41 = .ok (.iconst 3, 1) := by decide +kernel
theorem dX10_take_42 : decode cX10_take 42 = .ok (.putfield 152, 3) := by decide +kernel
theorem dX10_take_45 : decode cX10_take 45 = .ok (.aload_n 2, 1) := by decide +kernel
theorem dX10_take_46 : decode cX10_take 46 = .ok (.iload_n 1, 1) := by decide +kernel
theorem dX10_take_47 : decode cX10_take 47 = .ok (.iconst 1, 1) := by decide +kernel
theorem dX10_take_48 : decode cX10_take 48 = .ok (.invokevirtual 190, 3) := by decide +kernel
theorem dX10_take_51 : decode cX10_take 51 = .ok (.aload_n 0, 1) := by decide +kernel
theorem dX10_take_52 : decode cX10_take 52 = .ok (.getfield 20, 3) := by decide +kernel
theorem dX10_take_55 : decode cX10_take 55 = .ok (.iconst 0, 1) := by decide +kernel
theorem dX10_take_56 : decode cX10_take 56 = .ok (.dup2, 1) := by decide +kernel
theorem dX10_take_57 : decode cX10_take 57 = .ok (.iaload, 1) := by decide +kernel
theorem dX10_take_58 : decode cX10_take 58 = .ok (.iconst 1, 1) := by decide +kernel
theorem dX10_take_59 : decode cX10_take 59 = .ok (.iadd, 1) := by decide +kernel
theorem dX10_take_60 : decode cX10_take 60 = .ok (.iastore, 1) := by decide +kernel
theorem dX10_take_61 : decode cX10_take 61 = .ok (.iconst 2, 1) := by decide +kernel
theorem dX10_take_62 : decode cX10_take 62 = .ok (.ireturn, 1) := by decide +kernel
theorem dX10_take_63 : decode cX10_take 63 = .ok (.aload_n 2, 1) := by decide +kernel
theorem dX10_take_64 : decode cX10_take 64 = .ok (.iload_n 1, 1) := by decide +kernel
theorem dX10_take_65 : decode cX10_take 65 = .ok (.iconst 1, 1) := by decide +kernel
theorem dX10_take_66 : decode cX10_take 66 = .ok (.invokevirtual 190, 3) := by decide +kernel
theorem dX10_take_69 : decode cX10_take 69 = .ok (.aload_n 0, 1) := by decide +kernel
theorem dX10_take_70 : decode cX10_take 70 = .ok (.getfield 20, 3) := by decide +kernel
theorem dX10_take_73 : decode cX10_take 73 = .ok (.iconst 0, 1) := by decide +kernel
theorem dX10_take_74 : decode cX10_take 74 = .ok (.dup2, 1) := by decide +kernel
theorem dX10_take_75 : decode cX10_take 75 = .ok (.iaload, 1) := by decide +kernel
theorem dX10_take_76 : decode cX10_take 76 = .ok (.iconst 1, 1) := by decide +kernel
theorem dX10_take_77 : decode cX10_take 77 = .ok (.iadd, 1) := by decide +kernel
theorem dX10_take_78 : decode cX10_take 78 = .ok (.iastore, 1) := by decide +kernel
theorem dX10_take_79 : decode cX10_take 79 = .ok (.aload_n 2, 1) := by decide +kernel
theorem dX10_take_80 : decode cX10_take 80 = .ok (.getfield 194, 3) := by decide +kernel
theorem dX10_take_83 : decode cX10_take 83 = .ok (.invokevirtual 198, 3) := by decide +kernel
theorem dX10_take_86 : decode cX10_take 86 = .ok (.ifCond .ne 14, 3) := by decide +kernel
theorem dX10_take_89 : decode cX10_take 89 = .ok (.aload_n 0, 1) := by decide +kernel
theorem dX10_take_90 : decode cX10_take 90 = .ok (.getfield 20, 3) := by decide +kernel
theorem dX10_take_93 : decode cX10_take 93 = .ok (.bipush 7, 2) := by decide +kernel
theorem dX10_take_95 : decode cX10_take 95 = .ok (.dup2, 1) := by decide +kernel
theorem dX10_take_96 : decode cX10_take 96 = .ok (.iaload, 1) := by decide +kernel
theorem dX10_take_97 : decode cX10_take 97 = .ok (.iconst 1, 1) := by decide +kernel
theorem dX10_take_98 : decode cX10_take 98 = .ok (.iadd, 1) := by decide +kernel
theorem dX10_take_99 : decode cX10_take 99 = .ok (.iastore, 1) := by decide +kernel
theorem dX10_take_100 : decode cX10_take 100 = .ok (.iconst 3, 1) := by decide +kernel
theorem dX10_take_101 : decode cX10_take 101 = .ok (.ireturn, 1) := by decide +kernel
theorem dX10_takeBiased_0 : decode cX10_takeBiased 0 = .ok (.aload_n 2, 1) := by decide +kernel
theorem dX10_takeBiased_1 : decode cX10_takeBiased 1 = .ok (.iload_n 1, 1) := by decide +kernel
theorem dX10_takeBiased_2 : decode cX10_takeBiased 2 = .ok (.iconst 1, 1) := by decide +kernel
theorem dX10_takeBiased_3 : decode cX10_takeBiased 3 = .ok (.invokevirtual 190, 3) := by decide +kernel
theorem dX10_takeBiased_6 : decode cX10_takeBiased 6 = .ok (.aload_n 2, 1) := by decide +kernel
theorem dX10_takeBiased_7 : decode cX10_takeBiased 7 = .ok (.getfield 152, 3) := by decide +kernel
theorem dX10_takeBiased_10 : decode cX10_takeBiased 10 = .ok (.iconst 2, 1) := by decide +kernel
theorem dX10_takeBiased_11 : decode cX10_takeBiased 11 = .ok (.if_icmp .ne 20, 3) := by decide +kernel
theorem dX10_takeBiased_14 : decode cX10_takeBiased 14 = .ok (.aload_n 2, 1) := by decide +kernel
theorem dX10_takeBiased_15 : decode cX10_takeBiased 15 = .ok (.getfield 153, 3) := by decide +kernel
theorem dX10_takeBiased_18 : decode cX10_takeBiased 18 = .ok (.iload_n 1, 1) := by decide +kernel
theorem dX10_takeBiased_19 : decode cX10_takeBiased 19 = .ok (.if_icmp .ne 12, 3) := by decide +kernel
theorem dX10_takeBiased_22 : decode cX10_takeBiased 22 = .ok (.aload_n 0, 1) := by decide +kernel
theorem dX10_takeBiased_23 : decode cX10_takeBiased 23 = .ok (.aload_n 2, 1) := by decide +kernel
theorem dX10_takeBiased_24 : decode cX10_takeBiased 24 = .ok (.invokevirtual 156, 3) := by decide +kernel
theorem dX10_takeBiased_27 : decode cX10_takeBiased 27 = .ok (.ifCond .eq 4, 3) := by decide +kernel
theorem dX10_takeBiased_30 : decode cX10_takeBiased 30 = .ok (.return_, 1) := by decide +kernel
theorem dX10_takeBiased_31 : decode cX10_takeBiased 31 = .ok (.aload_n 2, 1) := by decide +kernel
theorem dX10_takeBiased_32 : decode cX10_takeBiased 32 = .ok (.iconst 2, 1) := by decide +kernel
theorem dX10_takeBiased_33 : decode cX10_takeBiased 33 = .ok (.putfield 152, 3) := by decide +kernel
theorem dX10_takeBiased_36 : decode cX10_takeBiased 36 = .ok (.aload_n 2, 1) := by decide +kernel
theorem dX10_takeBiased_37 : decode cX10_takeBiased 37 = .ok (.iload_n 1, 1) := by decide +kernel
theorem dX10_takeBiased_38 : decode cX10_takeBiased 38 = .ok (.putfield 153, 3) := by decide +kernel
theorem dX10_takeBiased_41 : decode cX10_takeBiased 41 = .ok (.aload_n 2, 1) := by decide +kernel
theorem dX10_takeBiased_42 : decode cX10_takeBiased 42 = .ok (.aload_n 0, 1) := by decide +kernel
theorem dX10_takeBiased_43 : decode cX10_takeBiased 43 = .ok (.getfield 38, 3) := by decide +kernel
theorem dX10_takeBiased_46 : decode cX10_takeBiased 46 = .ok (.aload_n 2, 1) := by decide +kernel
theorem dX10_takeBiased_47 : decode cX10_takeBiased 47 = .ok (.getfield 203, 3) := by decide +kernel
theorem dX10_takeBiased_50 : decode cX10_takeBiased 50 = .ok (.aaload, 1) := by decide +kernel
theorem dX10_takeBiased_51 : decode cX10_takeBiased 51 = .ok (.getfield 206, 3) := by decide +kernel
theorem dX10_takeBiased_54 : decode cX10_takeBiased 54 = .ok (.putfield 209, 3) := by decide +kernel
theorem dX10_takeBiased_57 : decode cX10_takeBiased 57 = .ok (.aload_n 0, 1) := by decide +kernel
theorem dX10_takeBiased_58 : decode cX10_takeBiased 58 = .ok (.getfield 20, 3) := by decide +kernel
theorem dX10_takeBiased_61 : decode cX10_takeBiased 61 = .ok (.iconst 0, 1) := by decide +kernel
theorem dX10_takeBiased_62 : decode cX10_takeBiased 62 = .ok (.dup2, 1) := by decide +kernel
theorem dX10_takeBiased_63 : decode cX10_takeBiased 63 = .ok (.iaload, 1) := by decide +kernel
theorem dX10_takeBiased_64 : decode cX10_takeBiased 64 = .ok (.iconst 1, 1) := by decide +kernel
theorem dX10_takeBiased_65 : decode cX10_takeBiased 65 = .ok (.iadd, 1) := by decide +kernel
theorem dX10_takeBiased_66 : decode cX10_takeBiased 66 = .ok (.iastore, 1) := by decide +kernel
theorem dX10_takeBiased_67 : decode cX10_takeBiased 67 = .ok (.return_, 1) := by decide +kernel
theorem dX10_block_0 : decode cX10_block 0 = .ok (.aload_n 2, 1) := by decide +kernel
theorem dX10_block_1 : decode cX10_block 1 = .ok (.getfield 194, 3) := by decide +kernel
theorem dX10_block_4 : decode cX10_block 4 = .ok (.iload_n 1, 1) := by decide +kernel
theorem dX10_block_5 : decode cX10_block 5 = .ok (.invokevirtual 210, 3) := by decide +kernel
theorem dX10_block_8 : decode cX10_block 8 = .ok (.aload_n 0, 1) := by decide +kernel
theorem dX10_block_9 : decode cX10_block 9 = .ok (.getfield 26, 3) := by decide +kernel
theorem dX10_block_12 : decode cX10_block 12 = .ok (.iload_n 1, 1) := by decide +kernel
theorem dX10_block_13 : decode cX10_block 13 = .ok (.aaload, 1) := by decide +kernel
theorem dX10_block_14 : decode cX10_block 14 = .ok (.astore_n 3, 1) := by decide +kernel
theorem dX10_block_15 : decode cX10_block 15 = .ok (.aload_n 3, 1) := by decide +kernel
theorem dX10_block_16 : decode cX10_block 16 = .ok (.iconst 1, 1) := by decide +kernel
theorem dX10_block_17 : decode cX10_block 17 = .ok (.putfield 135, 3) := by decide +kernel
theorem dX10_block_20 : decode cX10_block 20 = .ok (.aload_n 3, 1) := by decide +kernel
theorem dX10_block_21 : decode cX10_block 21 = .ok (.aload_n 2, 1) := by decide +kernel
theorem dX10_block_22 : decode cX10_block 22 = .ok (.getfield 213, 3) := by decide +kernel
theorem dX10_block_25 : decode cX10_block 25 = .ok (.putfield 216, 3) := by decide +kernel
theorem dX10_block_28 : decode cX10_block 28 = .ok (.aload_n 3, 1) := by decide +kernel
theorem dX10_block_29 : decode cX10_block 29 = .ok (.iconst 1, 1) := by decide +kernel
theorem dX10_block_30 : decode cX10_block 30 = .ok (.putfield 219, 3) := by decide +kernel
theorem dX10_block_33 : decode cX10_block 33 = .ok (.aload_n 0, 1) := by decide +kernel
theorem dX10_block_34 : decode cX10_block 34 = .ok (.getfield 20, 3) := by decide +kernel
theorem dX10_block_37 : decode cX10_block 37 = .ok (.iconst 4, 1) := by decide +kernel
theorem dX10_block_38 : decode cX10_block 38 = .ok (.dup2, 1) := by decide +kernel
theorem dX10_block_39 : decode cX10_block 39 = .ok (.iaload, 1) := by decide +kernel
theorem dX10_block_40 : decode cX10_block 40 = .ok (.iconst 1, 1) := by decide +kernel
theorem dX10_block_41 : decode cX10_block 41 = .ok (.iadd, 1) := by decide +kernel
theorem dX10_block_42 : decode cX10_block 42 = .ok (.iastore, 1) := by decide +kernel
theorem dX10_block_43 : decode cX10_block 43 = .ok (.return_, 1) := by decide +kernel
theorem dX10_recover_0 : decode cX10_recover 0 = .ok (.aload_n 1, 1) := by decide +kernel
theorem dX10_recover_1 : decode cX10_recover 1 = .ok (.getfield 222, 3) := by decide +kernel
theorem dX10_recover_4 : decode cX10_recover 4 = .ok (.ifCond .ne 5, 3) := by decide +kernel
theorem dX10_recover_7 : decode cX10_recover 7 = .ok (.iconst 0, 1) := by decide +kernel
theorem dX10_recover_8 : decode cX10_recover 8 = .ok (.ireturn, 1) := by decide +kernel
theorem dX10_recover_9 : decode cX10_recover 9 = .ok (.aload_n 1, 1) := by decide +kernel
theorem dX10_recover_10 : decode cX10_recover 10 = .ok (.iconst 0, 1) := by decide +kernel
theorem dX10_recover_11 : decode cX10_recover 11 = .ok (.putfield 222, 3) := by decide +kernel
theorem dX10_recover_14 : decode cX10_recover 14 = .ok (.aload_n 0, 1) := by decide +kernel
theorem dX10_recover_15 : decode cX10_recover 15 = .ok (.getfield 20, 3) := by decide +kernel
theorem dX10_recover_18 : decode cX10_recover 18 = .ok (.bipush 8, 2) := by decide +kernel
theorem dX10_recover_20 : decode cX10_recover 20 = .ok (.dup2, 1) := by decide +kernel
theorem dX10_recover_21 : decode cX10_recover 21 = .ok (.iaload, 1) := by decide +kernel
theorem dX10_recover_22 : decode cX10_recover 22 = .ok (.iconst 1, 1) := by decide +kernel
theorem dX10_recover_23 : decode cX10_recover 23 = .ok (.iadd, 1) := by decide +kernel
theorem dX10_recover_24 : decode cX10_recover 24 = .ok (.iastore, 1) := by decide +kernel
theorem dX10_recover_25 : decode cX10_recover 25 = .ok (.bipush 10, 2) := by decide +kernel
theorem dX10_recover_27 : decode cX10_recover 27 = .ok (.ireturn, 1) := by decide +kernel
theorem dX10_biasIsValid_0 : decode cX10_biasIsValid 0 = .ok (.aload_n 1, 1) := by decide +kernel
theorem dX10_biasIsValid_1 : decode cX10_biasIsValid 1 = .ok (.getfield 209, 3) := by decide +kernel
theorem dX10_biasIsValid_4 : decode cX10_biasIsValid 4 = .ok (.aload_n 0, 1) := by decide +kernel
theorem dX10_biasIsValid_5 : decode cX10_biasIsValid 5 = .ok (.getfield 38, 3) := by decide +kernel
theorem dX10_biasIsValid_8 : decode cX10_biasIsValid 8 = .ok (.aload_n 1, 1) := by decide +kernel
theorem dX10_biasIsValid_9 : decode cX10_biasIsValid 9 = .ok (.getfield 203, 3) := by decide +kernel
theorem dX10_biasIsValid_12 : decode cX10_biasIsValid 12 = .ok (.aaload, 1) := by decide +kernel
theorem dX10_biasIsValid_13 : decode cX10_biasIsValid 13 = .ok (.getfield 206, 3) := by decide +kernel
theorem dX10_biasIsValid_16 : decode cX10_biasIsValid 16 = .ok (.if_icmp .ne 7, 3) := by decide +kernel
theorem dX10_biasIsValid_19 : decode cX10_biasIsValid 19 = .ok (.iconst 1, 1) := by decide +kernel
theorem dX10_biasIsValid_20 : decode cX10_biasIsValid 20 = .ok (.goto 4, 3) := by decide +kernel
theorem dX10_biasIsValid_23 : decode cX10_biasIsValid 23 = .ok (.iconst 0, 1) := by decide +kernel
theorem dX10_biasIsValid_24 : decode cX10_biasIsValid 24 = .ok (.ireturn, 1) := by decide +kernel
theorem dX10_revokeBias_0 : decode cX10_revokeBias 0 = .ok (.aload_n 0, 1) := by decide +kernel
theorem dX10_revokeBias_1 : decode cX10_revokeBias 1 = .ok (.getfield 38, 3) := by decide +kernel
theorem dX10_revokeBias_4 : decode cX10_revokeBias 4 = .ok (.aload_n 1, 1) := by decide +kernel
theorem dX10_revokeBias_5 : decode cX10_revokeBias 5 = .ok (.getfield 203, 3) := by decide +kernel
theorem dX10_revokeBias_8 : decode cX10_revokeBias 8 = .ok (.aaload, 1) := by decide +kernel
theorem dX10_revokeBias_9 : decode cX10_revokeBias 9 = .ok (.astore_n 2, 1) := by decide +kernel
theorem dX10_revokeBias_10 : decode cX10_revokeBias 10 = .ok (.aload_n 2, 1) := by decide +kernel
theorem dX10_revokeBias_11 : decode cX10_revokeBias 11 = .ok (.dup, 1) := by decide +kernel
theorem dX10_revokeBias_12 : decode cX10_revokeBias 12 = .ok (.getfield 226, 3) := by decide +kernel
theorem dX10_revokeBias_15 : decode cX10_revokeBias 15 = .ok (.iconst 1, 1) := by decide +kernel
theorem dX10_revokeBias_16 : decode cX10_revokeBias 16 = .ok (.iadd, 1) := by decide +kernel
theorem dX10_revokeBias_17 : decode cX10_revokeBias 17 = .ok (.putfield 226, 3) := by decide +kernel
theorem dX10_revokeBias_20 : decode cX10_revokeBias 20 = .ok (.aload_n 0, 1) := by decide +kernel
theorem dX10_revokeBias_21 : decode cX10_revokeBias 21 = .ok (.getfield 20, 3) := by decide +kernel
theorem dX10_revokeBias_24 : decode cX10_revokeBias 24 = .ok (.iconst 1, 1) := by decide +kernel
theorem dX10_revokeBias_25 : decode cX10_revokeBias 25 = .ok (.dup2, 1) := by decide +kernel
theorem dX10_revokeBias_26 : decode cX10_revokeBias 26 = .ok (.iaload, 1) := by decide +kernel
theorem dX10_revokeBias_27 : decode cX10_revokeBias 27 = .ok (.iconst 1, 1) := by decide +kernel
theorem dX10_revokeBias_28 : decode cX10_revokeBias 28 = .ok (.iadd, 1) := by decide +kernel
theorem dX10_revokeBias_29 : decode cX10_revokeBias 29 = .ok (.iastore, 1) := by decide +kernel
theorem dX10_revokeBias_30 : decode cX10_revokeBias 30 = .ok (.aload_n 2, 1) := by decide +kernel
theorem dX10_revokeBias_31 : decode cX10_revokeBias 31 = .ok (.getfield 226, 3) := by decide +kernel
theorem dX10_revokeBias_34 : decode cX10_revokeBias 34 = .ok (.aload_n 0, 1) := by decide +kernel
theorem dX10_revokeBias_35 : decode cX10_revokeBias 35 = .ok (.getfield 12, 3) := by decide +kernel
theorem dX10_revokeBias_38 : decode cX10_revokeBias 38 = .ok (.iconst 3, 1) := by decide +kernel
theorem dX10_revokeBias_39 : decode cX10_revokeBias 39 = .ok (.invokevirtual 69, 3) := by decide +kernel
theorem dX10_revokeBias_42 : decode cX10_revokeBias 42 = .ok (.if_icmp .lt 14, 3) := by decide +kernel
theorem dX10_revokeBias_45 : decode cX10_revokeBias 45 = .ok (.aload_n 0, 1) := by decide +kernel
theorem dX10_revokeBias_46 : decode cX10_revokeBias 46 = .ok (.aload_n 1, 1) := by decide +kernel
theorem dX10_revokeBias_47 : decode cX10_revokeBias 47 = .ok (.getfield 203, 3) := by decide +kernel
theorem dX10_revokeBias_50 : decode cX10_revokeBias 50 = .ok (.invokevirtual 229, 3) := by decide +kernel
theorem dX10_revokeBias_53 : decode cX10_revokeBias 53 = .ok (.goto 44, 3) := by decide +kernel
theorem dX10_revokeBias_56 : decode cX10_revokeBias 56 = .ok (.aload_n 2, 1) := by decide +kernel
theorem dX10_revokeBias_57 : decode cX10_revokeBias 57 = .ok (.getfield 226, 3) := by decide +kernel
theorem dX10_revokeBias_60 : decode cX10_revokeBias 60 = .ok (.aload_n 0, 1) := by decide +kernel
theorem dX10_revokeBias_61 : decode cX10_revokeBias 61 = .ok (.getfield 12, 3) := by decide +kernel
theorem dX10_revokeBias_64 : decode cX10_revokeBias 64 = .ok (.iconst 2, 1) := by decide +kernel
theorem dX10_revokeBias_65 : decode cX10_revokeBias 65 = .ok (.invokevirtual 69, 3) := by decide +kernel
theorem dX10_revokeBias_68 : decode cX10_revokeBias 68 = .ok (.if_icmp .ne 25, 3) := by decide +kernel
theorem dX10_revokeBias_71 : decode cX10_revokeBias 71 = .ok (.aload_n 0, 1) := by decide +kernel
theorem dX10_revokeBias_72 : decode cX10_revokeBias 72 = .ok (.aload_n 1, 1) := by decide +kernel
theorem dX10_revokeBias_73 : decode cX10_revokeBias 73 = .ok (.getfield 203, 3) := by decide +kernel
theorem dX10_revokeBias_76 : decode cX10_revokeBias 76 = .ok (.invokevirtual 232, 3) := by decide +kernel
theorem dX10_revokeBias_79 : decode cX10_revokeBias 79 = .ok (.aload_n 1, 1) := by decide +kernel
theorem dX10_revokeBias_80 : decode cX10_revokeBias 80 = .ok (.invokevirtual 169, 3) := by decide +kernel
theorem dX10_revokeBias_83 : decode cX10_revokeBias 83 = .ok (.ifCond .eq 14, 3) := by decide +kernel
theorem dX10_revokeBias_86 : decode cX10_revokeBias 86 = .ok (.aload_n 1, 1) := by decide +kernel
theorem dX10_revokeBias_87 : decode cX10_revokeBias 87 = .ok (.invokevirtual 235, 3) := by decide +kernel
theorem dX10_revokeBias_90 : decode cX10_revokeBias 90 = .ok (.goto 7, 3) := by decide +kernel
theorem dX10_revokeBias_93 : decode cX10_revokeBias 93 = .ok (.aload_n 1, 1) := by decide +kernel
theorem dX10_revokeBias_94 : decode cX10_revokeBias 94 = .ok (.invokevirtual 235, 3) := by decide +kernel
theorem dX10_revokeBias_97 : decode cX10_revokeBias 97 = .ok (.return_, 1) := by decide +kernel
theorem dX10_endBiasing_0 : decode cX10_endBiasing 0 = .ok (.aload_n 0, 1) := by decide +kernel
theorem dX10_endBiasing_1 : decode cX10_endBiasing 1 = .ok (.getfield 38, 3) := by decide +kernel
theorem dX10_endBiasing_4 : decode cX10_endBiasing 4 = .ok (.iload_n 1, 1) := by decide +kernel
theorem dX10_endBiasing_5 : decode cX10_endBiasing 5 = .ok (.aaload, 1) := by decide +kernel
theorem dX10_endBiasing_6 : decode cX10_endBiasing 6 = .ok (.iconst 0, 1) := by decide +kernel
theorem dX10_endBiasing_7 : decode cX10_endBiasing 7 = .ok (.putfield 238, 3) := by decide +kernel
theorem dX10_endBiasing_10 : decode cX10_endBiasing 10 = .ok (.iload_n 1, 1) := by decide +kernel
theorem dX10_endBiasing_11 : decode cX10_endBiasing 11 = .ok (.istore_n 2, 1) := by decide +kernel
theorem dX10_endBiasing_12 : decode cX10_endBiasing 12 = .ok (.iload_n 2, 1) := by decide +kernel
theorem dX10_endBiasing_13 : decode cX10_endBiasing 13 = .ok (.bipush 8, 2) := by decide +kernel
theorem dX10_endBiasing_15 : decode cX10_endBiasing 15 = .ok (.if_icmp .ge 36, 3) := by decide +kernel
theorem dX10_endBiasing_18 : decode cX10_endBiasing 18 = .ok (.aload_n 0, 1) := by decide +kernel
theorem dX10_endBiasing_19 : decode cX10_endBiasing 19 = .ok (.getfield 32, 3) := by decide +kernel
theorem dX10_endBiasing_22 : decode cX10_endBiasing 22 = .ok (.iload_n 2, 1) := by decide +kernel
theorem dX10_endBiasing_23 : decode cX10_endBiasing 23 = .ok (.aaload, 1) := by decide +kernel
theorem dX10_endBiasing_24 : decode cX10_endBiasing 24 = .ok (.astore_n 3, 1) := by decide +kernel
theorem dX10_endBiasing_25 : decode cX10_endBiasing 25 = .ok (.aload_n 3, 1) := by decide +kernel
theorem dX10_endBiasing_26 : decode cX10_endBiasing 26 = .ok (.getfield 152, 3) := by decide +kernel
theorem dX10_endBiasing_29 : decode cX10_endBiasing 29 = .ok (.iconst 1, 1) := by decide +kernel
theorem dX10_endBiasing_30 : decode cX10_endBiasing 30 = .ok (.if_icmp .eq 11, 3) := by decide +kernel
theorem dX10_endBiasing_33 : decode cX10_endBiasing 33 = .ok (.aload_n 3, 1) := by decide +kernel
theorem dX10_endBiasing_34 : decode cX10_endBiasing 34 = .ok (.getfield 152, 3) := by decide +kernel
theorem dX10_endBiasing_37 : decode cX10_endBiasing 37 = .ok (.iconst 2, 1) := by decide +kernel
theorem dX10_endBiasing_38 : decode cX10_endBiasing 38 = .ok (.if_icmp .ne 7, 3) := by decide +kernel
theorem dX10_endBiasing_41 : decode cX10_endBiasing 41 = .ok (.aload_n 3, 1) := by decide +kernel
theorem dX10_endBiasing_42 : decode cX10_endBiasing 42 = .ok (.invokevirtual 235, 3) := by decide +kernel
theorem dX10_endBiasing_45 : decode cX10_endBiasing 45 = .ok (.iinc 2 3, 3) := by decide +kernel
theorem dX10_endBiasing_48 : decode cX10_endBiasing 48 = .ok (.goto (-36), 3) := by decide +kernel
theorem dX10_endBiasing_51 : decode cX10_endBiasing 51 = .ok (.return_, 1) := by decide +kernel
theorem dX10_beginEpoch_0 : decode cX10_beginEpoch 0 = .ok (.aload_n 0, 1) := by decide +kernel
theorem dX10_beginEpoch_1 : decode cX10_beginEpoch 1 = .ok (.getfield 38, 3) := by decide +kernel
theorem dX10_beginEpoch_4 : decode cX10_beginEpoch 4 = .ok (.iload_n 1, 1) := by decide +kernel
theorem dX10_beginEpoch_5 : decode cX10_beginEpoch 5 = .ok (.aaload, 1) := by decide +kernel
theorem dX10_beginEpoch_6 : decode cX10_beginEpoch 6 = .ok (.dup, 1) := by decide +kernel
theorem dX10_beginEpoch_7 : decode cX10_beginEpoch 7 = .ok (.getfield 206, 3) := by decide +kernel
theorem dX10_beginEpoch_10 : decode cX10_beginEpoch 10 = .ok (.iconst 1, 1) := by decide +kernel
theorem dX10_beginEpoch_11 : decode cX10_beginEpoch 11 = .ok (.iadd, 1) := by decide +kernel
theorem dX10_beginEpoch_12 : decode cX10_beginEpoch 12 = .ok (.putfield 206, 3) := by decide +kernel
theorem dX10_beginEpoch_15 : decode cX10_beginEpoch 15 = .ok (.iload_n 1, 1) := by decide +kernel
theorem dX10_beginEpoch_16 : decode cX10_beginEpoch 16 = .ok (.istore_n 2, 1) := by decide +kernel
theorem dX10_beginEpoch_17 : decode cX10_beginEpoch 17 = .ok (.iload_n 2, 1) := by decide +kernel
theorem dX10_beginEpoch_18 : decode cX10_beginEpoch 18 = .ok (.bipush 8, 2) := by decide +kernel
theorem dX10_beginEpoch_20 : decode cX10_beginEpoch 20 = .ok (.if_icmp .ge 44, 3) := by decide +kernel
theorem dX10_beginEpoch_23 : decode cX10_beginEpoch 23 = .ok (.aload_n 0, 1) := by decide +kernel
theorem dX10_beginEpoch_24 : decode cX10_beginEpoch 24 = .ok (.getfield 32, 3) := by decide +kernel
theorem dX10_beginEpoch_27 : decode cX10_beginEpoch 27 = .ok (.iload_n 2, 1) := by decide +kernel
theorem dX10_beginEpoch_28 : decode cX10_beginEpoch 28 = .ok (.aaload, 1) := by decide +kernel
theorem dX10_beginEpoch_29 : decode cX10_beginEpoch 29 = .ok (.astore_n 3, 1) := by decide +kernel
theorem dX10_beginEpoch_30 : decode cX10_beginEpoch 30 = .ok (.aload_n 3, 1) := by decide +kernel
theorem dX10_beginEpoch_31 : decode cX10_beginEpoch 31 = .ok (.getfield 152, 3) := by decide +kernel
theorem dX10_beginEpoch_34 : decode cX10_beginEpoch 34 = .ok (.iconst 2, 1) := by decide +kernel
theorem dX10_beginEpoch_35 : decode cX10_beginEpoch 35 = .ok (.if_icmp .ne 23, 3) := by decide +kernel
theorem dX10_beginEpoch_38 : decode cX10_beginEpoch 38 = .ok (.aload_n 3, 1) := by decide +kernel
theorem dX10_beginEpoch_39 : decode cX10_beginEpoch 39 = .ok (.invokevirtual 169, 3) := by decide +kernel
theorem dX10_beginEpoch_42 : decode cX10_beginEpoch 42 = .ok (.ifCond .eq 16, 3) := by decide +kernel
theorem dX10_beginEpoch_45 : decode cX10_beginEpoch 45 = .ok (.aload_n 3, 1) := by decide +kernel
theorem dX10_beginEpoch_46 : decode cX10_beginEpoch 46 = .ok (.aload_n 0, 1) := by decide +kernel
theorem dX10_beginEpoch_47 : decode cX10_beginEpoch 47 = .ok (.getfield 38, 3) := by decide +kernel
theorem dX10_beginEpoch_50 : decode cX10_beginEpoch 50 = .ok (.iload_n 1, 1) := by decide +kernel
theorem dX10_beginEpoch_51 : decode cX10_beginEpoch 51 = .ok (.aaload, 1) := by decide +kernel
theorem dX10_beginEpoch_52 : decode cX10_beginEpoch 52 = .ok (.getfield 206, 3) := by decide +kernel
theorem dX10_beginEpoch_55 : decode cX10_beginEpoch 55 = .ok (.putfield 209, 3) := by decide +kernel
theorem dX10_beginEpoch_58 : decode cX10_beginEpoch 58 = .ok (.iinc 2 3, 3) := by decide +kernel
theorem dX10_beginEpoch_61 : decode cX10_beginEpoch 61 = .ok (.goto (-44), 3) := by decide +kernel
theorem dX10_beginEpoch_64 : decode cX10_beginEpoch 64 = .ok (.return_, 1) := by decide +kernel
theorem dX10_monitorsInUse_0 : decode cX10_monitorsInUse 0 = .ok (.iconst 0, 1) := by decide +kernel
theorem dX10_monitorsInUse_1 : decode cX10_monitorsInUse 1 = .ok (.istore_n 1, 1) := by decide +kernel
theorem dX10_monitorsInUse_2 : decode cX10_monitorsInUse 2 = .ok (.aload_n 0, 1) := by decide +kernel
theorem dX10_monitorsInUse_3 : decode cX10_monitorsInUse 3 = .ok (.getfield 32, 3) := by decide +kernel
theorem dX10_monitorsInUse_6 : decode cX10_monitorsInUse 6 = .ok (.astore_n 2, 1) := by decide +kernel
theorem dX10_monitorsInUse_7 : decode cX10_monitorsInUse 7 = .ok (.aload_n 2, 1) := by decide +kernel
theorem dX10_monitorsInUse_8 : decode cX10_monitorsInUse 8 = .ok (.arraylength, 1) := by decide +kernel
theorem dX10_monitorsInUse_9 : decode cX10_monitorsInUse 9 = .ok (.istore_n 3, 1) := by decide +kernel
theorem dX10_monitorsInUse_10 : decode cX10_monitorsInUse 10 = .ok (.iconst 0, 1) := by decide +kernel
theorem dX10_monitorsInUse_11 : decode cX10_monitorsInUse 11 = .ok (.istore 4, 2) := by decide +kernel
theorem dX10_monitorsInUse_13 : decode cX10_monitorsInUse 13 = .ok (.iload 4, 2) := by decide +kernel
theorem dX10_monitorsInUse_15 : decode cX10_monitorsInUse 15 = .ok (.iload_n 3, 1) := by decide +kernel
theorem dX10_monitorsInUse_16 : decode cX10_monitorsInUse 16 = .ok (.if_icmp .ge 27, 3) := by decide +kernel
theorem dX10_monitorsInUse_19 : decode cX10_monitorsInUse 19 = .ok (.aload_n 2, 1) := by decide +kernel
theorem dX10_monitorsInUse_20 : decode cX10_monitorsInUse 20 = .ok (.iload 4, 2) := by decide +kernel
theorem dX10_monitorsInUse_22 : decode cX10_monitorsInUse 22 = .ok (.aaload, 1) := by decide +kernel
theorem dX10_monitorsInUse_23 : decode cX10_monitorsInUse 23 = .ok (.astore 5, 2) := by decide +kernel
theorem dX10_monitorsInUse_25 : decode cX10_monitorsInUse 25 = .ok (.aload 5, 2) := by decide +kernel
theorem dX10_monitorsInUse_27 : decode cX10_monitorsInUse 27 = .ok (.getfield 152, 3) := by decide +kernel
theorem dX10_monitorsInUse_30 : decode cX10_monitorsInUse 30 = .ok (.iconst 4, 1) := by decide +kernel
theorem dX10_monitorsInUse_31 : decode cX10_monitorsInUse 31 = .ok (.if_icmp .ne 6, 3) := by decide +kernel
theorem dX10_monitorsInUse_34 : decode cX10_monitorsInUse 34 = .ok (.iinc 1 1, 3) := by decide +kernel
theorem dX10_monitorsInUse_37 : decode cX10_monitorsInUse 37 = .ok (.iinc 4 1, 3) := by decide +kernel
theorem dX10_monitorsInUse_40 : decode cX10_monitorsInUse 40 = .ok (.goto (-27), 3) := by decide +kernel
theorem dX10_monitorsInUse_43 : decode cX10_monitorsInUse 43 = .ok (.iload_n 1, 1) := by decide +kernel
theorem dX10_monitorsInUse_44 : decode cX10_monitorsInUse 44 = .ok (.ireturn, 1) := by decide +kernel
theorem dX10_monitorIsFree_0 : decode cX10_monitorIsFree 0 = .ok (.aload_n 0, 1) := by decide +kernel
theorem dX10_monitorIsFree_1 : decode cX10_monitorIsFree 1 = .ok (.invokevirtual 241, 3) := by decide +kernel
theorem dX10_monitorIsFree_4 : decode cX10_monitorIsFree 4 = .ok (.aload_n 0, 1) := by decide +kernel
theorem dX10_monitorIsFree_5 : decode cX10_monitorIsFree 5 = .ok (.getfield 12, 3) := by decide +kernel
theorem dX10_monitorIsFree_8 : decode cX10_monitorIsFree 8 = .ok (.bipush 6, 2) := by decide +kernel
theorem dX10_monitorIsFree_10 : decode cX10_monitorIsFree 10 = .ok (.invokevirtual 69, 3) := by decide +kernel
theorem dX10_monitorIsFree_13 : decode cX10_monitorIsFree 13 = .ok (.if_icmp .ge 7, 3) := by decide +kernel
theorem dX10_monitorIsFree_16 : decode cX10_monitorIsFree 16 = .ok (.iconst 1, 1) := by decide +kernel
theorem dX10_monitorIsFree_17 : decode cX10_monitorIsFree 17 = .ok (.goto 4, 3) := by decide +kernel
theorem dX10_monitorIsFree_20 : decode cX10_monitorIsFree 20 = .ok (.iconst 0, 1) := by decide +kernel
theorem dX10_monitorIsFree_21 : decode cX10_monitorIsFree 21 = .ok (.ireturn, 1) := by decide +kernel
theorem dX10_canInflate_0 : decode cX10_canInflate 0 = .ok (.aload_n 0, 1) := by decide +kernel
theorem dX10_canInflate_1 : decode cX10_canInflate 1 = .ok (.invokevirtual 245, 3) := by decide +kernel
theorem dX10_canInflate_4 : decode cX10_canInflate 4 = .ok (.ifCond .ne 10, 3) := by decide +kernel
theorem dX10_canInflate_7 : decode cX10_canInflate 7 = .ok (.aload_n 0, 1) := by decide +kernel
theorem dX10_canInflate_8 : decode cX10_canInflate 8 = .ok (.invokevirtual 248, 3) := by decide +kernel
theorem dX10_canInflate_11 : decode cX10_canInflate 11 = .ok (.ifnull 7, 3) := by decide +kernel
theorem dX10_canInflate_14 : decode cX10_canInflate 14 = .ok (.iconst 1, 1) := by decide +kernel
theorem dX10_canInflate_15 : decode cX10_canInflate 15 = .ok (.goto 4, 3) := by decide +kernel
theorem dX10_canInflate_18 : decode cX10_canInflate 18 = .ok (.iconst 0, 1) := by decide +kernel
theorem dX10_canInflate_19 : decode cX10_canInflate 19 = .ok (.ireturn, 1) := by decide +kernel
theorem dX10_longestIdle_0 : decode cX10_longestIdle 0 = .ok (.aconst_null, 1) := by decide +kernel
theorem dX10_longestIdle_1 : decode cX10_longestIdle 1 = .ok (.astore_n 1, 1) := by decide +kernel
theorem dX10_longestIdle_2 : decode cX10_longestIdle 2 = .ok (.aload_n 0, 1) := by decide +kernel
theorem dX10_longestIdle_3 : decode cX10_longestIdle 3 = .ok (.getfield 32, 3) := by decide +kernel
theorem dX10_longestIdle_6 : decode cX10_longestIdle 6 = .ok (.astore_n 2, 1) := by decide +kernel
theorem dX10_longestIdle_7 : decode cX10_longestIdle 7 = .ok (.aload_n 2, 1) := by decide +kernel
theorem dX10_longestIdle_8 : decode cX10_longestIdle 8 = .ok (.arraylength, 1) := by decide +kernel
theorem dX10_longestIdle_9 : decode cX10_longestIdle 9 = .ok (.istore_n 3, 1) := by decide +kernel
theorem dX10_longestIdle_10 : decode cX10_longestIdle 10 = .ok (.iconst 0, 1) := by decide +kernel
theorem dX10_longestIdle_11 : decode cX10_longestIdle 11 = .ok (.istore 4, 2) := by decide +kernel
theorem dX10_longestIdle_13 : decode cX10_longestIdle 13 = .ok (.iload 4, 2) := by decide +kernel
theorem dX10_longestIdle_15 : decode cX10_longestIdle 15 = .ok (.iload_n 3, 1) := by decide +kernel
theorem dX10_longestIdle_16 : decode cX10_longestIdle 16 = .ok (.if_icmp .ge 42, 3) := by decide +kernel
theorem dX10_longestIdle_19 : decode cX10_longestIdle 19 = .ok (.aload_n 2, 1) := by decide +kernel
theorem dX10_longestIdle_20 : decode cX10_longestIdle 20 = .ok (.iload 4, 2) := by decide +kernel
theorem dX10_longestIdle_22 : decode cX10_longestIdle 22 = .ok (.aaload, 1) := by decide +kernel
theorem dX10_longestIdle_23 : decode cX10_longestIdle 23 = .ok (.astore 5, 2) := by decide +kernel
theorem dX10_longestIdle_25 : decode cX10_longestIdle 25 = .ok (.aload 5, 2) := by decide +kernel
theorem dX10_longestIdle_27 : decode cX10_longestIdle 27 = .ok (.invokevirtual 252, 3) := by decide +kernel
theorem dX10_longestIdle_30 : decode cX10_longestIdle 30 = .ok (.ifCond .eq 22, 3) := by decide +kernel
theorem dX10_longestIdle_33 : decode cX10_longestIdle 33 = .ok (.aload_n 1, 1) := by decide +kernel
theorem dX10_longestIdle_34 : decode cX10_longestIdle 34 = .ok (.ifnull 15, 3) := by decide +kernel
theorem dX10_longestIdle_37 : decode cX10_longestIdle 37 = .ok (.aload 5, 2) := by decide +kernel
theorem dX10_longestIdle_39 : decode cX10_longestIdle 39 = .ok (.getfield 255, 3) := by decide +kernel
theorem dX10_longestIdle_42 : decode cX10_longestIdle 42 = .ok (.aload_n 1, 1) := by decide +kernel
theorem dX10_longestIdle_43 : decode cX10_longestIdle 43 = .ok (.getfield 255, 3) := by decide +kernel
theorem dX10_longestIdle_46 : decode cX10_longestIdle 46 = .ok (.if_icmp .ge 6, 3) := by decide +kernel
theorem dX10_longestIdle_49 : decode cX10_longestIdle 49 = .ok (.aload 5, 2) := by decide +kernel
theorem dX10_longestIdle_51 : decode cX10_longestIdle 51 = .ok (.astore_n 1, 1) := by decide +kernel
theorem dX10_longestIdle_52 : decode cX10_longestIdle 52 = .ok (.iinc 4 1, 3) := by decide +kernel
theorem dX10_longestIdle_55 : decode cX10_longestIdle 55 = .ok (.goto (-42), 3) := by decide +kernel
theorem dX10_longestIdle_58 : decode cX10_longestIdle 58 = .ok (.aload_n 1, 1) := by decide +kernel
theorem dX10_longestIdle_59 : decode cX10_longestIdle 59 = .ok (.areturn, 1) := by decide +kernel
theorem dX10_inflate_0 : decode cX10_inflate 0 = .ok (.aload_n 0, 1) := by decide +kernel
theorem dX10_inflate_1 : decode cX10_inflate 1 = .ok (.invokevirtual 245, 3) := by decide +kernel
theorem dX10_inflate_4 : decode cX10_inflate 4 = .ok (.ifCond .ne 17, 3) := by decide +kernel
theorem dX10_inflate_7 : decode cX10_inflate 7 = .ok (.aload_n 0, 1) := by decide +kernel
theorem dX10_inflate_8 : decode cX10_inflate 8 = .ok (.invokevirtual 248, 3) := by decide +kernel
theorem dX10_inflate_11 : decode cX10_inflate 11 = .ok (.astore_n 2, 1) := by decide +kernel
theorem dX10_inflate_12 : decode cX10_inflate 12 = .ok (.aload_n 2, 1) := by decide +kernel
theorem dX10_inflate_13 : decode cX10_inflate 13 = .ok (.ifnull 8, 3) := by decide +kernel
theorem dX10_inflate_16 : decode cX10_inflate 16 = .ok (.aload_n 0, 1) := by decide +kernel
theorem dX10_inflate_17 : decode cX10_inflate 17 = .ok (.aload_n 2, 1) := by decide +kernel
theorem dX10_inflate_18 : decode cX10_inflate 18 = .ok (.invokevirtual 258, 3) := by decide +kernel
theorem dX10_inflate_21 : decode cX10_inflate 21 = .ok (.aload_n 1, 1) := by decide +kernel
theorem dX10_inflate_22 : decode cX10_inflate 22 = .ok (.iconst 4, 1) := by decide +kernel
theorem dX10_inflate_23 : decode cX10_inflate 23 = .ok (.putfield 152, 3) := by decide +kernel
theorem dX10_inflate_26 : decode cX10_inflate 26 = .ok (.aload_n 1, 1) := by decide +kernel
theorem dX10_inflate_27 : decode cX10_inflate 27 = .ok (.aload_n 0, 1) := by decide +kernel
theorem dX10_inflate_28 : decode cX10_inflate 28 = .ok (.getfield 54, 3) := by decide +kernel
theorem dX10_inflate_31 : decode cX10_inflate 31 = .ok (.putfield 255, 3) := by decide +kernel
theorem dX10_inflate_34 : decode cX10_inflate 34 = .ok (.aload_n 0, 1) := by decide +kernel
theorem dX10_inflate_35 : decode cX10_inflate 35 = .ok (.getfield 20, 3) := by decide +kernel
theorem dX10_inflate_38 : decode cX10_inflate 38 = .ok (.iconst 2, 1) := by decide +kernel
theorem dX10_inflate_39 : decode cX10_inflate 39 = .ok (.dup2, 1) := by decide +kernel
theorem dX10_inflate_40 : decode cX10_inflate 40 = .ok (.iaload, 1) := by decide +kernel
theorem dX10_inflate_41 : decode cX10_inflate 41 = .ok (.iconst 1, 1) := by decide +kernel
theorem dX10_inflate_42 : decode cX10_inflate 42 = .ok (.iadd, 1) := by decide +kernel
theorem dX10_inflate_43 : decode cX10_inflate 43 = .ok (.iastore, 1) := by decide +kernel
theorem dX10_inflate_44 : decode cX10_inflate 44 = .ok (.return_, 1) := by decide +kernel
theorem dX10_deflate_0 : decode cX10_deflate 0 = .ok (.aload_n 1, 1) := by decide +kernel
theorem dX10_deflate_1 : decode cX10_deflate 1 = .ok (.iconst 0, 1) := by decide +kernel
theorem dX10_deflate_2 : decode cX10_deflate 2 = .ok (.putfield 152, 3) := by decide +kernel
theorem dX10_deflate_5 : decode cX10_deflate 5 = .ok (.aload_n 0, 1) := by decide +kernel
theorem dX10_deflate_6 : decode cX10_deflate 6 = .ok (.getfield 20, 3) := by decide +kernel
theorem dX10_deflate_9 : decode cX10_deflate 9 = .ok (.iconst 3, 1) := by decide +kernel
theorem dX10_deflate_10 : decode cX10_deflate 10 = .ok (.dup2, 1) := by decide +kernel
theorem dX10_deflate_11 : decode cX10_deflate 11 = .ok (.iaload, 1) := by decide +kernel
theorem dX10_deflate_12 : decode cX10_deflate 12 = .ok (.iconst 1, 1) := by decide +kernel
theorem dX10_deflate_13 : decode cX10_deflate 13 = .ok (.iadd, 1) := by decide +kernel
theorem dX10_deflate_14 : decode cX10_deflate 14 = .ok (.iastore, 1) := by decide +kernel
theorem dX10_deflate_15 : decode cX10_deflate 15 = .ok (.return_, 1) := by decide +kernel
theorem dX10_exitObject_0 : decode cX10_exitObject 0 = .ok (.aload_n 0, 1) := by decide +kernel
theorem dX10_exitObject_1 : decode cX10_exitObject 1 = .ok (.iload_n 1, 1) := by decide +kernel
theorem dX10_exitObject_2 : decode cX10_exitObject 2 = .ok (.iload_n 2, 1) := by decide +kernel
theorem dX10_exitObject_3 : decode cX10_exitObject 3 = .ok (.invokevirtual 261, 3) := by decide +kernel
theorem dX10_exitObject_6 : decode cX10_exitObject 6 = .ok (.istore_n 3, 1) := by decide +kernel
theorem dX10_exitObject_7 : decode cX10_exitObject 7 = .ok (.iload_n 3, 1) := by decide +kernel
theorem dX10_exitObject_8 : decode cX10_exitObject 8 = .ok (.ifCond .eq 5, 3) := by decide +kernel
theorem dX10_exitObject_11 : decode cX10_exitObject 11 = .ok (.iload_n 3, 1) := by decide +kernel
theorem dX10_exitObject_12 : decode cX10_exitObject 12 = .ok (.ireturn, 1) := by decide +kernel
theorem dX10_exitObject_13 : decode cX10_exitObject 13 = .ok (.aload_n 0, 1) := by decide +kernel
theorem dX10_exitObject_14 : decode cX10_exitObject 14 = .ok (.getfield 32, 3) := by decide +kernel
theorem dX10_exitObject_17 : decode cX10_exitObject 17 = .ok (.iload_n 2, 1) := by decide +kernel
theorem dX10_exitObject_18 : decode cX10_exitObject 18 = .ok (.aaload, 1) := by decide +kernel
theorem dX10_exitObject_19 : decode cX10_exitObject 19 = .ok (.astore 4, 2) := by decide +kernel
theorem dX10_exitObject_21 : decode cX10_exitObject 21 = .ok (.aload 4, 2) := by decide +kernel
theorem dX10_exitObject_23 : decode cX10_exitObject 23 = .ok (.getfield 166, 3) := by decide +kernel
theorem dX10_exitObject_26 : decode cX10_exitObject 26 = .ok (.iconst 1, 1) := by decide +kernel
theorem dX10_exitObject_27 : decode cX10_exitObject 27 = .ok (.if_icmp .le 20, 3) := by decide +kernel
theorem dX10_exitObject_30 : decode cX10_exitObject 30 = .ok (.aload 4, 2) := by decide +kernel
theorem dX10_exitObject_32 : decode cX10_exitObject 32 = .ok (.dup, 1) := by decide +kernel
theorem dX10_exitObject_33 : decode cX10_exitObject 33 = .ok (.getfield 166, 3) := by decide +kernel
theorem dX10_exitObject_36 : decode cX10_exitObject 36 = .ok (.iconst 1, 1) := by decide +kernel
theorem dX10_exitObject_37 : decode cX10_exitObject 37 = .ok (.isub, 1) := by decide +kernel
theorem dX10_exitObject_38 : decode cX10_exitObject 38 = .ok (.putfield 166, 3) := by decide +kernel
theorem dX10_exitObject_41 : decode cX10_exitObject 41 = .ok (.aload 4, 2) := by decide +kernel
theorem dX10_exitObject_43 : decode cX10_exitObject 43 = .ok (.getfield 166, 3) := by decide +kernel
theorem dX10_exitObject_46 : decode cX10_exitObject 46 = .ok (.ireturn, 1) := by decide +kernel
theorem dX10_exitObject_47 : decode cX10_exitObject 47 = .ok (.aload_n 0, 1) := by decide +kernel
theorem dX10_exitObject_48 : decode cX10_exitObject 48 = .ok (.aload 4, 2) := by decide +kernel
theorem dX10_exitObject_50 : decode cX10_exitObject 50 = .ok (.invokevirtual 264, 3) := by decide +kernel
theorem dX10_exitObject_53 : decode cX10_exitObject 53 = .ok (.iconst 0, 1) := by decide +kernel
theorem dX10_exitObject_54 : decode cX10_exitObject 54 = .ok (.ireturn, 1) := by decide +kernel
theorem dX10_release_0 : decode cX10_release 0 = .ok (.aload_n 1, 1) := by decide +kernel
theorem dX10_release_1 : decode cX10_release 1 = .ok (.invokevirtual 267, 3) := by decide +kernel
theorem dX10_release_4 : decode cX10_release 4 = .ok (.aload_n 1, 1) := by decide +kernel
theorem dX10_release_5 : decode cX10_release 5 = .ok (.getfield 152, 3) := by decide +kernel
theorem dX10_release_8 : decode cX10_release 8 = .ok (.iconst 3, 1) := by decide +kernel
theorem dX10_release_9 : decode cX10_release 9 = .ok (.if_icmp .ne 21, 3) := by decide +kernel
theorem dX10_release_12 : decode cX10_release 12 = .ok (.aload_n 1, 1) := by decide +kernel
theorem dX10_release_13 : decode cX10_release 13 = .ok (.iconst 0, 1) := by decide +kernel
theorem dX10_release_14 : decode cX10_release 14 = .ok (.putfield 152, 3) := by decide +kernel
theorem dX10_release_17 : decode cX10_release 17 = .ok (.aload_n 0, 1) := by decide +kernel
theorem dX10_release_18 : decode cX10_release 18 = .ok (.getfield 20, 3) := by decide +kernel
theorem dX10_release_21 : decode cX10_release 21 = .ok (.iconst 0, 1) := by decide +kernel
theorem dX10_release_22 : decode cX10_release 22 = .ok (.dup2, 1) := by decide +kernel
theorem dX10_release_23 : decode cX10_release 23 = .ok (.iaload, 1) := by decide +kernel
theorem dX10_release_24 : decode cX10_release 24 = .ok (.iconst 1, 1) := by decide +kernel
theorem dX10_release_25 : decode cX10_release 25 = .ok (.iadd, 1) := by decide +kernel
theorem dX10_release_26 : decode cX10_release 26 = .ok (.iastore, 1) := by decide +kernel
theorem dX10_release_27 : decode cX10_release 27 = .ok (.goto 57, 3) := by decide +kernel
theorem dX10_release_30 : decode cX10_release 30 = .ok (.aload_n 1, 1) := by decide +kernel
theorem dX10_release_31 : decode cX10_release 31 = .ok (.getfield 152, 3) := by decide +kernel
theorem dX10_release_34 : decode cX10_release 34 = .ok (.iconst 4, 1) := by decide +kernel
theorem dX10_release_35 : decode cX10_release 35 = .ok (.if_icmp .ne 49, 3) := by decide +kernel
theorem dX10_release_38 : decode cX10_release 38 = .ok (.aload_n 1, 1) := by decide +kernel
theorem dX10_release_39 : decode cX10_release 39 = .ok (.aload_n 0, 1) := by decide +kernel
theorem dX10_release_40 : decode cX10_release 40 = .ok (.getfield 54, 3) := by decide +kernel
theorem dX10_release_43 : decode cX10_release 43 = .ok (.putfield 255, 3) := by decide +kernel
theorem dX10_release_46 : decode cX10_release 46 = .ok (.aload_n 0, 1) := by decide +kernel
theorem dX10_release_47 : decode cX10_release 47 = .ok (.getfield 12, 3) := by decide +kernel
theorem dX10_release_50 : decode cX10_release 50 = .ok (.iconst 1, 1) := by decide +kernel
theorem dX10_release_51 : decode cX10_release 51 = .ok (.invokevirtual 69, 3) := by decide +kernel
theorem dX10_release_54 : decode cX10_release 54 = .ok (.iconst 1, 1) := by decide +kernel
theorem dX10_release_55 : decode cX10_release 55 = .ok (.if_icmp .ne 29, 3) := by decide +kernel
theorem dX10_release_58 : decode cX10_release 58 = .ok (.aload_n 1, 1) := by decide +kernel
theorem dX10_release_59 : decode cX10_release 59 = .ok (.getfield 194, 3) := by decide +kernel
theorem dX10_release_62 : decode cX10_release 62 = .ok (.invokevirtual 198, 3) := by decide +kernel
theorem dX10_release_65 : decode cX10_release 65 = .ok (.ifCond .ne 19, 3) := by decide +kernel
theorem dX10_release_68 : decode cX10_release 68 = .ok (.aload_n 0, 1) := by decide +kernel
theorem dX10_release_69 : decode cX10_release 69 = .ok (.getfield 20, 3) := by decide +kernel
theorem dX10_release_72 : decode cX10_release 72 = .ok (.bipush 6, 2) := by decide +kernel
theorem dX10_release_74 : decode cX10_release 74 = .ok (.dup2, 1) := by decide +kernel
theorem dX10_release_75 : decode cX10_release 75 = .ok (.iaload, 1) := by decide +kernel
theorem dX10_release_76 : decode cX10_release 76 = .ok (.iconst 1, 1) := by decide +kernel
theorem dX10_release_77 : decode cX10_release 77 = .ok (.iadd, 1) := by decide +kernel
theorem dX10_release_78 : decode cX10_release 78 = .ok (.iastore, 1) := by decide +kernel
theorem dX10_release_79 : decode cX10_release 79 = .ok (.aload_n 0, 1) := by decide +kernel
theorem dX10_release_80 : decode cX10_release 80 = .ok (.aload_n 1, 1) := by decide +kernel
theorem dX10_release_81 : decode cX10_release 81 = .ok (.invokevirtual 270, 3) := by decide +kernel
theorem dX10_release_84 : decode cX10_release 84 = .ok (.return_, 1) := by decide +kernel
theorem dX10_giveToFirst_0 : decode cX10_giveToFirst 0 = .ok (.aload_n 1, 1) := by decide +kernel
theorem dX10_giveToFirst_1 : decode cX10_giveToFirst 1 = .ok (.getfield 194, 3) := by decide +kernel
theorem dX10_giveToFirst_4 : decode cX10_giveToFirst 4 = .ok (.iconst 0, 1) := by decide +kernel
theorem dX10_giveToFirst_5 : decode cX10_giveToFirst 5 = .ok (.invokevirtual 273, 3) := by decide +kernel
theorem dX10_giveToFirst_8 : decode cX10_giveToFirst 8 = .ok (.istore_n 2, 1) := by decide +kernel
theorem dX10_giveToFirst_9 : decode cX10_giveToFirst 9 = .ok (.aload_n 0, 1) := by decide +kernel
theorem dX10_giveToFirst_10 : decode cX10_giveToFirst 10 = .ok (.iload_n 2, 1) := by decide +kernel
theorem dX10_giveToFirst_11 : decode cX10_giveToFirst 11 = .ok (.invokevirtual 128, 3) := by decide +kernel
theorem dX10_giveToFirst_14 : decode cX10_giveToFirst 14 = .ok (.ifCond .ne 4, 3) := by decide +kernel
theorem dX10_giveToFirst_17 : decode cX10_giveToFirst 17 = .ok (.return_, 1) := by decide +kernel
theorem dX10_giveToFirst_18 : decode cX10_giveToFirst 18 = .ok (.aload_n 1, 1) := by decide +kernel
theorem dX10_giveToFirst_19 : decode cX10_giveToFirst 19 = .ok (.getfield 194, 3) := by decide +kernel
theorem dX10_giveToFirst_22 : decode cX10_giveToFirst 22 = .ok (.iload_n 2, 1) := by decide +kernel
theorem dX10_giveToFirst_23 : decode cX10_giveToFirst 23 = .ok (.invokevirtual 276, 3) := by decide +kernel
theorem dX10_giveToFirst_26 : decode cX10_giveToFirst 26 = .ok (.aload_n 0, 1) := by decide +kernel
theorem dX10_giveToFirst_27 : decode cX10_giveToFirst 27 = .ok (.getfield 26, 3) := by decide +kernel
theorem dX10_giveToFirst_30 : decode cX10_giveToFirst 30 = .ok (.iload_n 2, 1) := by decide +kernel
theorem dX10_giveToFirst_31 : decode cX10_giveToFirst 31 = .ok (.aaload, 1) := by decide +kernel
theorem dX10_giveToFirst_32 : decode cX10_giveToFirst 32 = .ok (.astore_n 3, 1) := by decide +kernel
theorem dX10_giveToFirst_33 : decode cX10_giveToFirst 33 = .ok (.aload_n 1, 1) := by decide +kernel
theorem dX10_giveToFirst_34 : decode cX10_giveToFirst 34 = .ok (.iload_n 2, 1) := by decide +kernel
theorem dX10_giveToFirst_35 : decode cX10_giveToFirst 35 = .ok (.aload_n 3, 1) := by decide +kernel
theorem dX10_giveToFirst_36 : decode cX10_giveToFirst 36 = .ok (.getfield 219, 3) := by decide +kernel
theorem dX10_giveToFirst_39 : decode cX10_giveToFirst 39 = .ok (.invokevirtual 190, 3) := by decide +kernel
theorem dX10_giveToFirst_42 : decode cX10_giveToFirst 42 = .ok (.aload_n 3, 1) := by decide +kernel
theorem dX10_giveToFirst_43 : decode cX10_giveToFirst 43 = .ok (.iconst 0, 1) := by decide +kernel
theorem dX10_giveToFirst_44 : decode cX10_giveToFirst 44 = .ok (.invokevirtual 279, 3) := by decide +kernel
theorem dX10_giveToFirst_47 : decode cX10_giveToFirst 47 = .ok (.aload_n 0, 1) := by decide +kernel
theorem dX10_giveToFirst_48 : decode cX10_giveToFirst 48 = .ok (.aload_n 1, 1) := by decide +kernel
theorem dX10_giveToFirst_49 : decode cX10_giveToFirst 49 = .ok (.invokevirtual 176, 3) := by decide +kernel
theorem dX10_giveToFirst_52 : decode cX10_giveToFirst 52 = .ok (.pop, 1) := by decide +kernel
theorem dX10_giveToFirst_53 : decode cX10_giveToFirst 53 = .ok (.return_, 1) := by decide +kernel
theorem dX10_awaitAt_0 : decode cX10_awaitAt 0 = .ok (.iload_n 3, 1) := by decide +kernel
theorem dX10_awaitAt_1 : decode cX10_awaitAt 1 = .ok (.ifCond .lt 9, 3) := by decide +kernel
theorem dX10_awaitAt_4 : decode cX10_awaitAt 4 = .ok (.iload_n 3, 1) := by decide +kernel
theorem dX10_awaitAt_5 : decode cX10_awaitAt 5 = .ok (.bipush 50, 2) := by decide +kernel
theorem dX10_awaitAt_7 : decode cX10_awaitAt 7 = .ok (.if_icmp .le 7, 3) := by decide +kernel
theorem dX10_awaitAt_10 : decode cX10_awaitAt 10 = .ok (.iconst 1, 1) := by decide +kernel
theorem dX10_awaitAt_11 : decode cX10_awaitAt 11 = .ok (.goto 4, 3) := by decide +kernel
theorem dX10_awaitAt_14 : decode cX10_awaitAt 14 = .ok (.iconst 0, 1) := by decide +kernel
theorem dX10_awaitAt_15 : decode cX10_awaitAt 15 = .ok (.istore 4, 2) := by decide +kernel
theorem dX10_awaitAt_17 : decode cX10_awaitAt 17 = .ok (.iload 4, 2) := by decide +kernel
theorem dX10_awaitAt_19 : decode cX10_awaitAt 19 = .ok (.ifCond .eq 21, 3) := by decide +kernel
theorem dX10_awaitAt_22 : decode cX10_awaitAt 22 = .ok (.aload_n 0, 1) := by decide +kernel
theorem dX10_awaitAt_23 : decode cX10_awaitAt 23 = .ok (.iload_n 1, 1) := by decide +kernel
theorem dX10_awaitAt_24 : decode cX10_awaitAt 24 = .ok (.invokevirtual 128, 3) := by decide +kernel
theorem dX10_awaitAt_27 : decode cX10_awaitAt 27 = .ok (.ifCond .eq 13, 3) := by decide +kernel
theorem dX10_awaitAt_30 : decode cX10_awaitAt 30 = .ok (.iload_n 2, 1) := by decide +kernel
theorem dX10_awaitAt_31 : decode cX10_awaitAt 31 = .ok (.invokestatic 132, 3) := by decide +kernel
theorem dX10_awaitAt_34 : decode cX10_awaitAt 34 = .ok (.ifCond .eq 6, 3) := by decide +kernel
theorem dX10_awaitAt_37 : decode cX10_awaitAt 37 = .ok (.bipush (-3), 2) := by decide +kernel
theorem dX10_awaitAt_39 : decode cX10_awaitAt 39 = .ok (.ireturn, 1) := by decide +kernel
theorem dX10_awaitAt_40 : decode cX10_awaitAt 40 = .ok (.aload_n 0, 1) := by decide +kernel
theorem dX10_awaitAt_41 : decode cX10_awaitAt 41 = .ok (.iload_n 1, 1) := by decide +kernel
theorem dX10_awaitAt_42 : decode cX10_awaitAt 42 = .ok (.iload_n 2, 1) := by decide +kernel
theorem dX10_awaitAt_43 : decode cX10_awaitAt 43 = .ok (.invokevirtual 261, 3) := by decide +kernel
theorem dX10_awaitAt_46 : decode cX10_awaitAt 46 = .ok (.istore 5, 2) := by decide +kernel
theorem dX10_awaitAt_48 : decode cX10_awaitAt 48 = .ok (.iload 5, 2) := by decide +kernel
theorem dX10_awaitAt_50 : decode cX10_awaitAt 50 = .ok (.ifCond .eq 6, 3) := by decide +kernel
theorem dX10_awaitAt_53 : decode cX10_awaitAt 53 = .ok (.iload 5, 2) := by decide +kernel
theorem dX10_awaitAt_55 : decode cX10_awaitAt 55 = .ok (.ireturn, 1) := by decide +kernel
theorem dX10_awaitAt_56 : decode cX10_awaitAt 56 = .ok (.aload_n 0, 1) := by decide +kernel
theorem dX10_awaitAt_57 : decode cX10_awaitAt 57 = .ok (.getfield 26, 3) := by decide +kernel
theorem dX10_awaitAt_60 : decode cX10_awaitAt 60 = .ok (.iload_n 1, 1) := by decide +kernel
theorem dX10_awaitAt_61 : decode cX10_awaitAt 61 = .ok (.aaload, 1) := by decide +kernel
theorem dX10_awaitAt_62 : decode cX10_awaitAt 62 = .ok (.astore 6, 2) := by decide +kernel
theorem dX10_awaitAt_64 : decode cX10_awaitAt 64 = .ok (.aload 6, 2) := by decide +kernel
theorem dX10_awaitAt_66 : decode cX10_awaitAt 66 = .ok (.getfield 282, 3) := by decide +kernel
theorem dX10_awaitAt_69 : decode cX10_awaitAt 69 = .ok (.ifCond .eq 18, 3) := by decide +kernel
theorem dX10_awaitAt_72 : decode cX10_awaitAt 72 = .ok (.aload 6, 2) := by decide +kernel
theorem dX10_awaitAt_74 : decode cX10_awaitAt 74 = .ok (.iconst 0, 1) := by decide +kernel
theorem dX10_awaitAt_75 : decode cX10_awaitAt 75 = .ok (.putfield 282, 3) := by decide +kernel
theorem dX10_awaitAt_78 : decode cX10_awaitAt 78 = .ok (.aload 6, 2) := by decide +kernel
theorem dX10_awaitAt_80 : decode cX10_awaitAt 80 = .ok (.iconst 3, 1) := by decide +kernel
theorem dX10_awaitAt_81 : decode cX10_awaitAt 81 = .ok (.putfield 285, 3) := by decide +kernel
theorem dX10_awaitAt_84 : decode cX10_awaitAt 84 = .ok (.bipush (-9), 2) := by decide +kernel
theorem dX10_awaitAt_86 : decode cX10_awaitAt 86 = .ok (.ireturn, 1) := by decide +kernel
theorem dX10_awaitAt_87 : decode cX10_awaitAt 87 = .ok (.aload_n 0, 1) := by decide +kernel
theorem dX10_awaitAt_88 : decode cX10_awaitAt 88 = .ok (.getfield 32, 3) := by decide +kernel
theorem dX10_awaitAt_91 : decode cX10_awaitAt 91 = .ok (.iload_n 2, 1) := by decide +kernel
theorem dX10_awaitAt_92 : decode cX10_awaitAt 92 = .ok (.aaload, 1) := by decide +kernel
theorem dX10_awaitAt_93 : decode cX10_awaitAt 93 = .ok (.astore 7, 2) := by decide +kernel
theorem dX10_awaitAt_95 : decode cX10_awaitAt 95 = .ok (.aload 7, 2) := by decide +kernel
theorem dX10_awaitAt_97 : decode cX10_awaitAt 97 = .ok (.getfield 152, 3) := by decide +kernel
theorem dX10_awaitAt_100 : decode cX10_awaitAt 100 = .ok (.iconst 4, 1) := by decide +kernel
theorem dX10_awaitAt_101 : decode cX10_awaitAt 101 = .ok (.if_icmp .eq 19, 3) := by decide +kernel
theorem dX10_awaitAt_104 : decode cX10_awaitAt 104 = .ok (.aload_n 0, 1) := by decide +kernel
theorem dX10_awaitAt_105 : decode cX10_awaitAt 105 = .ok (.invokevirtual 148, 3) := by decide +kernel
theorem dX10_awaitAt_108 : decode cX10_awaitAt 108 = .ok (.ifCond .ne 6, 3) := by decide +kernel
theorem dX10_awaitAt_111 : decode cX10_awaitAt 111 = .ok (.bipush (-6), 2) := by decide +kernel
theorem dX10_awaitAt_113 : decode cX10_awaitAt 113 = .ok (.ireturn, 1) := by decide +kernel
theorem dX10_awaitAt_114 : decode cX10_awaitAt 114 = .ok (.aload_n 0, 1) := by decide +kernel
theorem dX10_awaitAt_115 : decode cX10_awaitAt 115 = .ok (.aload 7, 2) := by decide +kernel
theorem dX10_awaitAt_117 : decode cX10_awaitAt 117 = .ok (.invokevirtual 163, 3) := by decide +kernel
theorem dX10_awaitAt_120 : decode cX10_awaitAt 120 = .ok (.aload_n 0, 1) := by decide +kernel
theorem dX10_awaitAt_121 : decode cX10_awaitAt 121 = .ok (.iload_n 1, 1) := by decide +kernel
theorem dX10_awaitAt_122 : decode cX10_awaitAt 122 = .ok (.aload 7, 2) := by decide +kernel
theorem dX10_awaitAt_124 : decode cX10_awaitAt 124 = .ok (.iload_n 3, 1) := by decide +kernel
theorem dX10_awaitAt_125 : decode cX10_awaitAt 125 = .ok (.invokevirtual 288, 3) := by decide +kernel
theorem dX10_awaitAt_128 : decode cX10_awaitAt 128 = .ok (.aload_n 0, 1) := by decide +kernel
theorem dX10_awaitAt_129 : decode cX10_awaitAt 129 = .ok (.aload 7, 2) := by decide +kernel
theorem dX10_awaitAt_131 : decode cX10_awaitAt 131 = .ok (.invokevirtual 264, 3) := by decide +kernel
theorem dX10_awaitAt_134 : decode cX10_awaitAt 134 = .ok (.aload 6, 2) := by decide +kernel
theorem dX10_awaitAt_136 : decode cX10_awaitAt 136 = .ok (.getfield 219, 3) := by decide +kernel
theorem dX10_awaitAt_139 : decode cX10_awaitAt 139 = .ok (.ireturn, 1) := by decide +kernel
theorem dX10_beginWait_0 : decode cX10_beginWait 0 = .ok (.aload_n 0, 1) := by decide +kernel
theorem dX10_beginWait_1 : decode cX10_beginWait 1 = .ok (.getfield 26, 3) := by decide +kernel
theorem dX10_beginWait_4 : decode cX10_beginWait 4 = .ok (.iload_n 1, 1) := by decide +kernel
theorem dX10_beginWait_5 : decode cX10_beginWait 5 = .ok (.aaload, 1) := by decide +kernel
theorem dX10_beginWait_6 : decode cX10_beginWait 6 = .ok (.astore 4, 2) := by decide +kernel
theorem dX10_beginWait_8 : decode cX10_beginWait 8 = .ok (.aload 4, 2) := by decide +kernel
theorem dX10_beginWait_10 : decode cX10_beginWait 10 = .ok (.iconst 2, 1) := by decide +kernel
theorem dX10_beginWait_11 : decode cX10_beginWait 11 = .ok (.putfield 135, 3) := by decide +kernel
theorem dX10_beginWait_14 : decode cX10_beginWait 14 = .ok (.aload 4, 2) := by decide +kernel
theorem dX10_beginWait_16 : decode cX10_beginWait 16 = .ok (.aload_n 2, 1) := by decide +kernel
theorem dX10_beginWait_17 : decode cX10_beginWait 17 = .ok (.getfield 213, 3) := by decide +kernel
theorem dX10_beginWait_20 : decode cX10_beginWait 20 = .ok (.putfield 216, 3) := by decide +kernel
theorem dX10_beginWait_23 : decode cX10_beginWait 23 = .ok (.aload 4, 2) := by decide +kernel
theorem dX10_beginWait_25 : decode cX10_beginWait 25 = .ok (.iload_n 3, 1) := by decide +kernel
theorem dX10_beginWait_26 : decode cX10_beginWait 26 = .ok (.ifCond .ne 7, 3) := by decide +kernel
theorem dX10_beginWait_29 : decode cX10_beginWait 29 = .ok (.iconst (-1), 1) := by decide +kernel
theorem dX10_beginWait_30 : decode cX10_beginWait 30 = .ok (.goto 9, 3) := by decide +kernel
theorem dX10_beginWait_33 : decode cX10_beginWait 33 = .ok (.aload_n 0, 1) := by decide +kernel
theorem dX10_beginWait_34 : decode cX10_beginWait 34 = .ok (.getfield 54, 3) := by decide +kernel
theorem dX10_beginWait_37 : decode cX10_beginWait 37 = .ok (.iload_n 3, 1) := by decide +kernel
theorem dX10_beginWait_38 : decode cX10_beginWait 38 = .ok (.iadd, 1) := by decide +kernel
theorem dX10_beginWait_39 : decode cX10_beginWait 39 = .ok (.putfield 292, 3) := by decide +kernel
theorem dX10_beginWait_42 : decode cX10_beginWait 42 = .ok (.aload 4, 2) := by decide +kernel
theorem dX10_beginWait_44 : decode cX10_beginWait 44 = .ok (.aload_n 2, 1) := by decide +kernel
theorem dX10_beginWait_45 : decode cX10_beginWait 45 = .ok (.getfield 166, 3) := by decide +kernel
theorem dX10_beginWait_48 : decode cX10_beginWait 48 = .ok (.putfield 219, 3) := by decide +kernel
theorem dX10_beginWait_51 : decode cX10_beginWait 51 = .ok (.aload_n 2, 1) := by decide +kernel
theorem dX10_beginWait_52 : decode cX10_beginWait 52 = .ok (.getfield 295, 3) := by decide +kernel
theorem dX10_beginWait_55 : decode cX10_beginWait 55 = .ok (.iload_n 1, 1) := by decide +kernel
theorem dX10_beginWait_56 : decode cX10_beginWait 56 = .ok (.invokevirtual 210, 3) := by decide +kernel
theorem dX10_beginWait_59 : decode cX10_beginWait 59 = .ok (.return_, 1) := by decide +kernel
theorem dX10_notifyFirst_0 : decode cX10_notifyFirst 0 = .ok (.aload_n 0, 1) := by decide +kernel
theorem dX10_notifyFirst_1 : decode cX10_notifyFirst 1 = .ok (.iload_n 1, 1) := by decide +kernel
theorem dX10_notifyFirst_2 : decode cX10_notifyFirst 2 = .ok (.iload_n 2, 1) := by decide +kernel
theorem dX10_notifyFirst_3 : decode cX10_notifyFirst 3 = .ok (.invokevirtual 261, 3) := by decide +kernel
theorem dX10_notifyFirst_6 : decode cX10_notifyFirst 6 = .ok (.istore_n 3, 1) := by decide +kernel
theorem dX10_notifyFirst_7 : decode cX10_notifyFirst 7 = .ok (.iload_n 3, 1) := by decide +kernel
theorem dX10_notifyFirst_8 : decode cX10_notifyFirst 8 = .ok (.ifCond .eq 5, 3) := by decide +kernel
theorem dX10_notifyFirst_11 : decode cX10_notifyFirst 11 = .ok (.iload_n 3, 1) := by decide +kernel
theorem dX10_notifyFirst_12 : decode cX10_notifyFirst 12 = .ok (.ireturn, 1) := by decide +kernel
theorem dX10_notifyFirst_13 : decode cX10_notifyFirst 13 = .ok (.aload_n 0, 1) := by decide +kernel
theorem dX10_notifyFirst_14 : decode cX10_notifyFirst 14 = .ok (.getfield 32, 3) := by decide +kernel
theorem dX10_notifyFirst_17 : decode cX10_notifyFirst 17 = .ok (.iload_n 2, 1) := by decide +kernel
theorem dX10_notifyFirst_18 : decode cX10_notifyFirst 18 = .ok (.aaload, 1) := by decide +kernel
theorem dX10_notifyFirst_19 : decode cX10_notifyFirst 19 = .ok (.astore 4, 2) := by decide +kernel
theorem dX10_notifyFirst_21 : decode cX10_notifyFirst 21 = .ok (.aload 4, 2) := by decide +kernel
theorem dX10_notifyFirst_23 : decode cX10_notifyFirst 23 = .ok (.getfield 295, 3) := by decide +kernel
theorem dX10_notifyFirst_26 : decode cX10_notifyFirst 26 = .ok (.iconst 0, 1) := by decide +kernel
theorem dX10_notifyFirst_27 : decode cX10_notifyFirst 27 = .ok (.invokevirtual 273, 3) := by decide +kernel
theorem dX10_notifyFirst_30 : decode cX10_notifyFirst 30 = .ok (.istore 5, 2) := by decide +kernel
theorem dX10_notifyFirst_32 : decode cX10_notifyFirst 32 = .ok (.aload_n 0, 1) := by decide +kernel
theorem dX10_notifyFirst_33 : decode cX10_notifyFirst 33 = .ok (.iload 5, 2) := by decide +kernel
theorem dX10_notifyFirst_35 : decode cX10_notifyFirst 35 = .ok (.invokevirtual 128, 3) := by decide +kernel
theorem dX10_notifyFirst_38 : decode cX10_notifyFirst 38 = .ok (.ifCond .ne 6, 3) := by decide +kernel
theorem dX10_notifyFirst_41 : decode cX10_notifyFirst 41 = .ok (.bipush (-8), 2) := by decide +kernel
theorem dX10_notifyFirst_43 : decode cX10_notifyFirst 43 = .ok (.ireturn, 1) := by decide +kernel
theorem dX10_notifyFirst_44 : decode cX10_notifyFirst 44 = .ok (.aload_n 0, 1) := by decide +kernel
theorem dX10_notifyFirst_45 : decode cX10_notifyFirst 45 = .ok (.iload 5, 2) := by decide +kernel
theorem dX10_notifyFirst_47 : decode cX10_notifyFirst 47 = .ok (.aload 4, 2) := by decide +kernel
theorem dX10_notifyFirst_49 : decode cX10_notifyFirst 49 = .ok (.iconst 1, 1) := by decide +kernel
theorem dX10_notifyFirst_50 : decode cX10_notifyFirst 50 = .ok (.invokevirtual 298, 3) := by decide +kernel
theorem dX10_notifyFirst_53 : decode cX10_notifyFirst 53 = .ok (.aload_n 0, 1) := by decide +kernel
theorem dX10_notifyFirst_54 : decode cX10_notifyFirst 54 = .ok (.getfield 12, 3) := by decide +kernel
theorem dX10_notifyFirst_57 : decode cX10_notifyFirst 57 = .ok (.bipush 7, 2) := by decide +kernel
theorem dX10_notifyFirst_59 : decode cX10_notifyFirst 59 = .ok (.invokevirtual 69, 3) := by decide +kernel
theorem dX10_notifyFirst_62 : decode cX10_notifyFirst 62 = .ok (.iconst 1, 1) := by decide +kernel
theorem dX10_notifyFirst_63 : decode cX10_notifyFirst 63 = .ok (.if_icmp .ne 16, 3) := by decide +kernel
theorem dX10_notifyFirst_66 : decode cX10_notifyFirst 66 = .ok (.aload 4, 2) := by decide +kernel
theorem dX10_notifyFirst_68 : decode cX10_notifyFirst 68 = .ok (.getfield 194, 3) := by decide +kernel
theorem dX10_notifyFirst_71 : decode cX10_notifyFirst 71 = .ok (.iload 5, 2) := by decide +kernel
theorem dX10_notifyFirst_73 : decode cX10_notifyFirst 73 = .ok (.invokevirtual 301, 3) := by decide +kernel
theorem dX10_notifyFirst_76 : decode cX10_notifyFirst 76 = .ok (.goto 13, 3) := by decide +kernel
theorem dX10_notifyFirst_79 : decode cX10_notifyFirst 79 = .ok (.aload 4, 2) := by decide +kernel
theorem dX10_notifyFirst_81 : decode cX10_notifyFirst 81 = .ok (.getfield 194, 3) := by decide +kernel
theorem dX10_notifyFirst_84 : decode cX10_notifyFirst 84 = .ok (.iload 5, 2) := by decide +kernel
theorem dX10_notifyFirst_86 : decode cX10_notifyFirst 86 = .ok (.invokevirtual 210, 3) := by decide +kernel
theorem dX10_notifyFirst_89 : decode cX10_notifyFirst 89 = .ok (.iload 5, 2) := by decide +kernel
theorem dX10_notifyFirst_91 : decode cX10_notifyFirst 91 = .ok (.ireturn, 1) := by decide +kernel
theorem dX10_notifyEach_0 : decode cX10_notifyEach 0 = .ok (.aload_n 0, 1) := by decide +kernel
theorem dX10_notifyEach_1 : decode cX10_notifyEach 1 = .ok (.iload_n 1, 1) := by decide +kernel
theorem dX10_notifyEach_2 : decode cX10_notifyEach 2 = .ok (.iload_n 2, 1) := by decide +kernel
theorem dX10_notifyEach_3 : decode cX10_notifyEach 3 = .ok (.invokevirtual 261, 3) := by decide +kernel
theorem dX10_notifyEach_6 : decode cX10_notifyEach 6 = .ok (.istore_n 3, 1) := by decide +kernel
theorem dX10_notifyEach_7 : decode cX10_notifyEach 7 = .ok (.iload_n 3, 1) := by decide +kernel
theorem dX10_notifyEach_8 : decode cX10_notifyEach 8 = .ok (.ifCond .eq 5, 3) := by decide +kernel
theorem dX10_notifyEach_11 : decode cX10_notifyEach 11 = .ok (.iload_n 3, 1) := by decide +kernel
theorem dX10_notifyEach_12 : decode cX10_notifyEach 12 = .ok (.ireturn, 1) := by decide +kernel
theorem dX10_notifyEach_13 : decode cX10_notifyEach 13 = .ok (.aload_n 0, 1) := by decide +kernel
theorem dX10_notifyEach_14 : decode cX10_notifyEach 14 = .ok (.getfield 32, 3) := by decide +kernel
theorem dX10_notifyEach_17 : decode cX10_notifyEach 17 = .ok (.iload_n 2, 1) := by decide +kernel
theorem dX10_notifyEach_18 : decode cX10_notifyEach 18 = .ok (.aaload, 1) := by decide +kernel
theorem dX10_notifyEach_19 : decode cX10_notifyEach 19 = .ok (.astore 4, 2) := by decide +kernel
theorem dX10_notifyEach_21 : decode cX10_notifyEach 21 = .ok (.iconst 0, 1) := by decide +kernel
theorem dX10_notifyEach_22 : decode cX10_notifyEach 22 = .ok (.istore 5, 2) := by decide +kernel
theorem dX10_notifyEach_24 : decode cX10_notifyEach 24 = .ok (.iconst 0, 1) := by decide +kernel
theorem dX10_notifyEach_25 : decode cX10_notifyEach 25 = .ok (.istore 6, 2) := by decide +kernel
theorem dX10_notifyEach_27 : decode cX10_notifyEach 27 = .ok (.iload 6, 2) := by decide +kernel
theorem dX10_notifyEach_29 : decode cX10_notifyEach 29 = .ok (.bipush 6, 2) := by decide +kernel
theorem dX10_notifyEach_31 : decode cX10_notifyEach 31 = .ok (.if_icmp .ge 51, 3) := by decide +kernel
theorem dX10_notifyEach_34 : decode cX10_notifyEach 34 = .ok (.aload 4, 2) := by decide +kernel
theorem dX10_notifyEach_36 : decode cX10_notifyEach 36 = .ok (.getfield 295, 3) := by decide +kernel
theorem dX10_notifyEach_39 : decode cX10_notifyEach 39 = .ok (.iconst 0, 1) := by decide +kernel
theorem dX10_notifyEach_40 : decode cX10_notifyEach 40 = .ok (.invokevirtual 273, 3) := by decide +kernel
theorem dX10_notifyEach_43 : decode cX10_notifyEach 43 = .ok (.istore 7, 2) := by decide +kernel
theorem dX10_notifyEach_45 : decode cX10_notifyEach 45 = .ok (.aload_n 0, 1) := by decide +kernel
theorem dX10_notifyEach_46 : decode cX10_notifyEach 46 = .ok (.iload 7, 2) := by decide +kernel
theorem dX10_notifyEach_48 : decode cX10_notifyEach 48 = .ok (.invokevirtual 128, 3) := by decide +kernel
theorem dX10_notifyEach_51 : decode cX10_notifyEach 51 = .ok (.ifCond .eq 25, 3) := by decide +kernel
theorem dX10_notifyEach_54 : decode cX10_notifyEach 54 = .ok (.aload_n 0, 1) := by decide +kernel
theorem dX10_notifyEach_55 : decode cX10_notifyEach 55 = .ok (.iload 7, 2) := by decide +kernel
theorem dX10_notifyEach_57 : decode cX10_notifyEach 57 = .ok (.aload 4, 2) := by decide +kernel
theorem dX10_notifyEach_59 : decode cX10_notifyEach 59 = .ok (.iconst 1, 1) := by decide +kernel
theorem dX10_notifyEach_60 : decode cX10_notifyEach 60 = .ok (.invokevirtual 298, 3) := by decide +kernel
theorem dX10_notifyEach_63 : decode cX10_notifyEach 63 = .ok (.aload 4, 2) := by decide +kernel
theorem dX10_notifyEach_65 : decode cX10_notifyEach 65 = .ok (.getfield 194, 3) := by decide +kernel
theorem dX10_notifyEach_68 : decode cX10_notifyEach 68 = .ok (.iload 7, 2) := by decide +kernel
theorem dX10_notifyEach_70 : decode cX10_notifyEach 70 = .ok (.invokevirtual 210, 3) := by decide +kernel
theorem dX10_notifyEach_73 : decode cX10_notifyEach 73 = .ok (.iinc 5 1, 3) := by decide +kernel
theorem dX10_notifyEach_76 : decode cX10_notifyEach 76 = .ok (.iinc 6 1, 3) := by decide +kernel
theorem dX10_notifyEach_79 : decode cX10_notifyEach 79 = .ok (.goto (-52), 3) := by decide +kernel
theorem dX10_notifyEach_82 : decode cX10_notifyEach 82 = .ok (.iload 5, 2) := by decide +kernel
theorem dX10_notifyEach_84 : decode cX10_notifyEach 84 = .ok (.ireturn, 1) := by decide +kernel
theorem dX10_endWait_0 : decode cX10_endWait 0 = .ok (.aload_n 2, 1) := by decide +kernel
theorem dX10_endWait_1 : decode cX10_endWait 1 = .ok (.getfield 295, 3) := by decide +kernel
theorem dX10_endWait_4 : decode cX10_endWait 4 = .ok (.iload_n 1, 1) := by decide +kernel
theorem dX10_endWait_5 : decode cX10_endWait 5 = .ok (.invokevirtual 276, 3) := by decide +kernel
theorem dX10_endWait_8 : decode cX10_endWait 8 = .ok (.aload_n 0, 1) := by decide +kernel
theorem dX10_endWait_9 : decode cX10_endWait 9 = .ok (.getfield 26, 3) := by decide +kernel
theorem dX10_endWait_12 : decode cX10_endWait 12 = .ok (.iload_n 1, 1) := by decide +kernel
theorem dX10_endWait_13 : decode cX10_endWait 13 = .ok (.aaload, 1) := by decide +kernel
theorem dX10_endWait_14 : decode cX10_endWait 14 = .ok (.astore 4, 2) := by decide +kernel
theorem dX10_endWait_16 : decode cX10_endWait 16 = .ok (.aload 4, 2) := by decide +kernel
theorem dX10_endWait_18 : decode cX10_endWait 18 = .ok (.iconst 1, 1) := by decide +kernel
theorem dX10_endWait_19 : decode cX10_endWait 19 = .ok (.putfield 135, 3) := by decide +kernel
theorem dX10_endWait_22 : decode cX10_endWait 22 = .ok (.aload 4, 2) := by decide +kernel
theorem dX10_endWait_24 : decode cX10_endWait 24 = .ok (.iload_n 3, 1) := by decide +kernel
theorem dX10_endWait_25 : decode cX10_endWait 25 = .ok (.putfield 285, 3) := by decide +kernel
theorem dX10_endWait_28 : decode cX10_endWait 28 = .ok (.return_, 1) := by decide +kernel
theorem dX10_interruptThread_0 : decode cX10_interruptThread 0 = .ok (.aload_n 0, 1) := by decide +kernel
theorem dX10_interruptThread_1 : decode cX10_interruptThread 1 = .ok (.iload_n 1, 1) := by decide +kernel
theorem dX10_interruptThread_2 : decode cX10_interruptThread 2 = .ok (.invokevirtual 128, 3) := by decide +kernel
theorem dX10_interruptThread_5 : decode cX10_interruptThread 5 = .ok (.ifCond .ne 5, 3) := by decide +kernel
theorem dX10_interruptThread_8 : decode cX10_interruptThread 8 = .ok (.iconst (-1), 1) := by decide +kernel
theorem dX10_interruptThread_9 : decode cX10_interruptThread 9 = .ok (.ireturn, 1) := by decide +kernel
theorem dX10_interruptThread_10 : decode cX10_interruptThread 10 = .ok (.aload_n 0, 1) := by decide +kernel
theorem dX10_interruptThread_11 : decode cX10_interruptThread 11 = .ok (.getfield 26, 3) := by decide +kernel
theorem dX10_interruptThread_14 : decode cX10_interruptThread 14 = .ok (.iload_n 1, 1) := by decide +kernel
theorem dX10_interruptThread_15 : decode cX10_interruptThread 15 = .ok (.aaload, 1) := by decide +kernel
theorem dX10_interruptThread_16 : decode cX10_interruptThread 16 = .ok (.astore_n 2, 1) := by decide +kernel
theorem dX10_interruptThread_17 : decode cX10_interruptThread 17 = .ok (.aload_n 2, 1) := by decide +kernel
theorem dX10_interruptThread_18 : decode cX10_interruptThread 18 = .ok (.getfield 135, 3) := by decide +kernel
theorem dX10_interruptThread_21 : decode cX10_interruptThread 21 = .ok (.iconst 3, 1) := by decide +kernel
theorem dX10_interruptThread_22 : decode cX10_interruptThread 22 = .ok (.if_icmp .ne 6, 3) := by decide +kernel
theorem dX10_interruptThread_25 : decode cX10_interruptThread 25 = .ok (.bipush (-7), 2) := by decide +kernel
theorem dX10_interruptThread_27 : decode cX10_interruptThread 27 = .ok (.ireturn, 1) := by decide +kernel
theorem dX10_interruptThread_28 : decode cX10_interruptThread 28 = .ok (.aload_n 2, 1) := by decide +kernel
theorem dX10_interruptThread_29 : decode cX10_interruptThread 29 = .ok (.getfield 135, 3) := by decide +kernel
theorem dX10_interruptThread_32 : decode cX10_interruptThread 32 = .ok (.iconst 2, 1) := by decide +kernel
theorem dX10_interruptThread_33 : decode cX10_interruptThread 33 = .ok (.if_icmp .ne 40, 3) := by decide +kernel
theorem dX10_interruptThread_36 : decode cX10_interruptThread 36 = .ok (.aload_n 2, 1) := by decide +kernel
theorem dX10_interruptThread_37 : decode cX10_interruptThread 37 = .ok (.getfield 216, 3) := by decide +kernel
theorem dX10_interruptThread_40 : decode cX10_interruptThread 40 = .ok (.invokestatic 132, 3) := by decide +kernel
theorem dX10_interruptThread_43 : decode cX10_interruptThread 43 = .ok (.ifCond .eq 30, 3) := by decide +kernel
theorem dX10_interruptThread_46 : decode cX10_interruptThread 46 = .ok (.aload_n 0, 1) := by decide +kernel
theorem dX10_interruptThread_47 : decode cX10_interruptThread 47 = .ok (.getfield 32, 3) := by decide +kernel
theorem dX10_interruptThread_50 : decode cX10_interruptThread 50 = .ok (.aload_n 2, 1) := by decide +kernel
theorem dX10_interruptThread_51 : decode cX10_interruptThread 51 = .ok (.getfield 216, 3) := by decide +kernel
theorem dX10_interruptThread_54 : decode cX10_interruptThread 54 = .ok (.aaload, 1) := by decide +kernel
theorem dX10_interruptThread_55 : decode cX10_interruptThread 55 = .ok (.astore_n 3, 1) := by decide +kernel
theorem dX10_interruptThread_56 : decode cX10_interruptThread 56 = .ok (.aload_n 0, 1) := by decide +kernel
theorem dX10_interruptThread_57 : decode cX10_interruptThread 57 = .ok (.iload_n 1, 1) := by decide +kernel
theorem dX10_interruptThread_58 : decode cX10_interruptThread 58 = .ok (.aload_n 3, 1) := by decide +kernel
theorem dX10_interruptThread_59 : decode cX10_interruptThread 59 = .ok (.iconst 3, 1) := by decide +kernel
theorem dX10_interruptThread_60 : decode cX10_interruptThread 60 = .ok (.invokevirtual 298, 3) := by decide +kernel
theorem dX10_interruptThread_63 : decode cX10_interruptThread 63 = .ok (.aload_n 3, 1) := by decide +kernel
theorem dX10_interruptThread_64 : decode cX10_interruptThread 64 = .ok (.getfield 194, 3) := by decide +kernel
theorem dX10_interruptThread_67 : decode cX10_interruptThread 67 = .ok (.iload_n 1, 1) := by decide +kernel
theorem dX10_interruptThread_68 : decode cX10_interruptThread 68 = .ok (.invokevirtual 210, 3) := by decide +kernel
theorem dX10_interruptThread_71 : decode cX10_interruptThread 71 = .ok (.iconst 1, 1) := by decide +kernel
theorem dX10_interruptThread_72 : decode cX10_interruptThread 72 = .ok (.ireturn, 1) := by decide +kernel
theorem dX10_interruptThread_73 : decode cX10_interruptThread 73 = .ok (.aload_n 2, 1) := by decide +kernel
theorem dX10_interruptThread_74 : decode cX10_interruptThread 74 = .ok (.iconst 1, 1) := by decide +kernel
theorem dX10_interruptThread_75 : decode cX10_interruptThread 75 = .ok (.putfield 282, 3) := by decide +kernel
theorem dX10_interruptThread_78 : decode cX10_interruptThread 78 = .ok (.iconst 0, 1) := by decide +kernel
theorem dX10_interruptThread_79 : decode cX10_interruptThread 79 = .ok (.ireturn, 1) := by decide +kernel
theorem dX10_endThread_0 : decode cX10_endThread 0 = .ok (.aload_n 0, 1) := by decide +kernel
theorem dX10_endThread_1 : decode cX10_endThread 1 = .ok (.iload_n 1, 1) := by decide +kernel
theorem dX10_endThread_2 : decode cX10_endThread 2 = .ok (.invokevirtual 128, 3) := by decide +kernel
theorem dX10_endThread_5 : decode cX10_endThread 5 = .ok (.ifCond .ne 5, 3) := by decide +kernel
theorem dX10_endThread_8 : decode cX10_endThread 8 = .ok (.iconst (-1), 1) := by decide +kernel
theorem dX10_endThread_9 : decode cX10_endThread 9 = .ok (.ireturn, 1) := by decide +kernel
theorem dX10_endThread_10 : decode cX10_endThread 10 = .ok (.aload_n 0, 1) := by decide +kernel
theorem dX10_endThread_11 : decode cX10_endThread 11 = .ok (.getfield 26, 3) := by decide +kernel
theorem dX10_endThread_14 : decode cX10_endThread 14 = .ok (.iload_n 1, 1) := by decide +kernel
theorem dX10_endThread_15 : decode cX10_endThread 15 = .ok (.aaload, 1) := by decide +kernel
theorem dX10_endThread_16 : decode cX10_endThread 16 = .ok (.astore_n 2, 1) := by decide +kernel
theorem dX10_endThread_17 : decode cX10_endThread 17 = .ok (.aload_n 2, 1) := by decide +kernel
theorem dX10_endThread_18 : decode cX10_endThread 18 = .ok (.getfield 135, 3) := by decide +kernel
theorem dX10_endThread_21 : decode cX10_endThread 21 = .ok (.iconst 3, 1) := by decide +kernel
theorem dX10_endThread_22 : decode cX10_endThread 22 = .ok (.if_icmp .ne 6, 3) := by decide +kernel
theorem dX10_endThread_25 : decode cX10_endThread 25 = .ok (.bipush (-7), 2) := by decide +kernel
theorem dX10_endThread_27 : decode cX10_endThread 27 = .ok (.ireturn, 1) := by decide +kernel
theorem dX10_endThread_28 : decode cX10_endThread 28 = .ok (.aload_n 2, 1) := by decide +kernel
theorem dX10_endThread_29 : decode cX10_endThread 29 = .ok (.getfield 216, 3) := by decide +kernel
theorem dX10_endThread_32 : decode cX10_endThread 32 = .ok (.invokestatic 132, 3) := by decide +kernel
theorem dX10_endThread_35 : decode cX10_endThread 35 = .ok (.ifCond .eq 35, 3) := by decide +kernel
theorem dX10_endThread_38 : decode cX10_endThread 38 = .ok (.aload_n 0, 1) := by decide +kernel
theorem dX10_endThread_39 : decode cX10_endThread 39 = .ok (.getfield 32, 3) := by decide +kernel
theorem dX10_endThread_42 : decode cX10_endThread 42 = .ok (.aload_n 2, 1) := by decide +kernel
theorem dX10_endThread_43 : decode cX10_endThread 43 = .ok (.getfield 216, 3) := by decide +kernel
theorem dX10_endThread_46 : decode cX10_endThread 46 = .ok (.aaload, 1) := by decide +kernel
theorem dX10_endThread_47 : decode cX10_endThread 47 = .ok (.getfield 194, 3) := by decide +kernel
theorem dX10_endThread_50 : decode cX10_endThread 50 = .ok (.iload_n 1, 1) := by decide +kernel
theorem dX10_endThread_51 : decode cX10_endThread 51 = .ok (.invokevirtual 276, 3) := by decide +kernel
theorem dX10_endThread_54 : decode cX10_endThread 54 = .ok (.aload_n 0, 1) := by decide +kernel
theorem dX10_endThread_55 : decode cX10_endThread 55 = .ok (.getfield 32, 3) := by decide +kernel
theorem dX10_endThread_58 : decode cX10_endThread 58 = .ok (.aload_n 2, 1) := by decide +kernel
theorem dX10_endThread_59 : decode cX10_endThread 59 = .ok (.getfield 216, 3) := by decide +kernel
theorem dX10_endThread_62 : decode cX10_endThread 62 = .ok (.aaload, 1) := by decide +kernel
theorem dX10_endThread_63 : decode cX10_endThread 63 = .ok (.getfield 295, 3) := by decide +kernel
theorem dX10_endThread_66 : decode cX10_endThread 66 = .ok (.iload_n 1, 1) := by decide +kernel
theorem dX10_endThread_67 : decode cX10_endThread 67 = .ok (.invokevirtual 276, 3) := by decide +kernel
theorem dX10_endThread_70 : decode cX10_endThread 70 = .ok (.aload_n 2, 1) := by decide +kernel
theorem dX10_endThread_71 : decode cX10_endThread 71 = .ok (.iconst 3, 1) := by decide +kernel
theorem dX10_endThread_72 : decode cX10_endThread 72 = .ok (.invokevirtual 279, 3) := by decide +kernel
theorem dX10_endThread_75 : decode cX10_endThread 75 = .ok (.aload_n 2, 1) := by decide +kernel
theorem dX10_endThread_76 : decode cX10_endThread 76 = .ok (.iconst 0, 1) := by decide +kernel
theorem dX10_endThread_77 : decode cX10_endThread 77 = .ok (.putfield 282, 3) := by decide +kernel
theorem dX10_endThread_80 : decode cX10_endThread 80 = .ok (.iconst 0, 1) := by decide +kernel
theorem dX10_endThread_81 : decode cX10_endThread 81 = .ok (.istore_n 3, 1) := by decide +kernel
theorem dX10_endThread_82 : decode cX10_endThread 82 = .ok (.aload_n 0, 1) := by decide +kernel
theorem dX10_endThread_83 : decode cX10_endThread 83 = .ok (.getfield 32, 3) := by decide +kernel
theorem dX10_endThread_86 : decode cX10_endThread 86 = .ok (.astore 4, 2) := by decide +kernel
theorem dX10_endThread_88 : decode cX10_endThread 88 = .ok (.aload 4, 2) := by decide +kernel
theorem dX10_endThread_90 : decode cX10_endThread 90 = .ok (.arraylength, 1) := by decide +kernel
theorem dX10_endThread_91 : decode cX10_endThread 91 = .ok (.istore 5, 2) := by decide +kernel
theorem dX10_endThread_93 : decode cX10_endThread 93 = .ok (.iconst 0, 1) := by decide +kernel
theorem dX10_endThread_94 : decode cX10_endThread 94 = .ok (.istore 6, 2) := by decide +kernel
theorem dX10_endThread_96 : decode cX10_endThread 96 = .ok (.iload 6, 2) := by decide +kernel
theorem dX10_endThread_98 : decode cX10_endThread 98 = .ok (.iload 5, 2) := by decide +kernel
theorem dX10_endThread_100 : decode cX10_endThread 100 = .ok (.if_icmp .ge 40, 3) := by decide +kernel
theorem dX10_endThread_103 : decode cX10_endThread 103 = .ok (.aload 4, 2) := by decide +kernel
theorem dX10_endThread_105 : decode cX10_endThread 105 = .ok (.iload 6, 2) := by decide +kernel
theorem dX10_endThread_107 : decode cX10_endThread 107 = .ok (.aaload, 1) := by decide +kernel
theorem dX10_endThread_108 : decode cX10_endThread 108 = .ok (.astore 7, 2) := by decide +kernel
theorem dX10_endThread_110 : decode cX10_endThread 110 = .ok (.aload 7, 2) := by decide +kernel
theorem dX10_endThread_112 : decode cX10_endThread 112 = .ok (.iload_n 1, 1) := by decide +kernel
theorem dX10_endThread_113 : decode cX10_endThread 113 = .ok (.invokevirtual 141, 3) := by decide +kernel
theorem dX10_endThread_116 : decode cX10_endThread 116 = .ok (.ifCond .eq 18, 3) := by decide +kernel
theorem dX10_endThread_119 : decode cX10_endThread 119 = .ok (.aload 7, 2) := by decide +kernel
theorem dX10_endThread_121 : decode cX10_endThread 121 = .ok (.iconst 1, 1) := by decide +kernel
theorem dX10_endThread_122 : decode cX10_endThread 122 = .ok (.putfield 222, 3) := by decide +kernel
theorem dX10_endThread_125 : decode cX10_endThread 125 = .ok (.aload_n 0, 1) := by decide +kernel
theorem dX10_endThread_126 : decode cX10_endThread 126 = .ok (.aload 7, 2) := by decide +kernel
theorem dX10_endThread_128 : decode cX10_endThread 128 = .ok (.invokevirtual 264, 3) := by decide +kernel
theorem dX10_endThread_131 : decode cX10_endThread 131 = .ok (.iinc 3 1, 3) := by decide +kernel
theorem dX10_endThread_134 : decode cX10_endThread 134 = .ok (.iinc 6 1, 3) := by decide +kernel
theorem dX10_endThread_137 : decode cX10_endThread 137 = .ok (.goto (-41), 3) := by decide +kernel
theorem dX10_endThread_140 : decode cX10_endThread 140 = .ok (.iload_n 3, 1) := by decide +kernel
theorem dX10_endThread_141 : decode cX10_endThread 141 = .ok (.ireturn, 1) := by decide +kernel
theorem dX10_startThread_0 : decode cX10_startThread 0 = .ok (.aload_n 0, 1) := by decide +kernel
theorem dX10_startThread_1 : decode cX10_startThread 1 = .ok (.iload_n 1, 1) := by decide +kernel
theorem dX10_startThread_2 : decode cX10_startThread 2 = .ok (.invokevirtual 128, 3) := by decide +kernel
theorem dX10_startThread_5 : decode cX10_startThread 5 = .ok (.ifCond .ne 5, 3) := by decide +kernel
theorem dX10_startThread_8 : decode cX10_startThread 8 = .ok (.iconst (-1), 1) := by decide +kernel
theorem dX10_startThread_9 : decode cX10_startThread 9 = .ok (.ireturn, 1) := by decide +kernel
theorem dX10_startThread_10 : decode cX10_startThread 10 = .ok (.aload_n 0, 1) := by decide +kernel
theorem dX10_startThread_11 : decode cX10_startThread 11 = .ok (.getfield 26, 3) := by decide +kernel
theorem dX10_startThread_14 : decode cX10_startThread 14 = .ok (.iload_n 1, 1) := by decide +kernel
theorem dX10_startThread_15 : decode cX10_startThread 15 = .ok (.aaload, 1) := by decide +kernel
theorem dX10_startThread_16 : decode cX10_startThread 16 = .ok (.getfield 135, 3) := by decide +kernel
theorem dX10_startThread_19 : decode cX10_startThread 19 = .ok (.iconst 3, 1) := by decide +kernel
theorem dX10_startThread_20 : decode cX10_startThread 20 = .ok (.if_icmp .eq 6, 3) := by decide +kernel
theorem dX10_startThread_23 : decode cX10_startThread 23 = .ok (.bipush (-7), 2) := by decide +kernel
theorem dX10_startThread_25 : decode cX10_startThread 25 = .ok (.ireturn, 1) := by decide +kernel
theorem dX10_startThread_26 : decode cX10_startThread 26 = .ok (.aload_n 0, 1) := by decide +kernel
theorem dX10_startThread_27 : decode cX10_startThread 27 = .ok (.getfield 26, 3) := by decide +kernel
theorem dX10_startThread_30 : decode cX10_startThread 30 = .ok (.iload_n 1, 1) := by decide +kernel
theorem dX10_startThread_31 : decode cX10_startThread 31 = .ok (.aaload, 1) := by decide +kernel
theorem dX10_startThread_32 : decode cX10_startThread 32 = .ok (.iconst 0, 1) := by decide +kernel
theorem dX10_startThread_33 : decode cX10_startThread 33 = .ok (.putfield 135, 3) := by decide +kernel
theorem dX10_startThread_36 : decode cX10_startThread 36 = .ok (.iconst 0, 1) := by decide +kernel
theorem dX10_startThread_37 : decode cX10_startThread 37 = .ok (.istore_n 2, 1) := by decide +kernel
theorem dX10_startThread_38 : decode cX10_startThread 38 = .ok (.iconst 0, 1) := by decide +kernel
theorem dX10_startThread_39 : decode cX10_startThread 39 = .ok (.istore_n 3, 1) := by decide +kernel
theorem dX10_startThread_40 : decode cX10_startThread 40 = .ok (.iload_n 3, 1) := by decide +kernel
theorem dX10_startThread_41 : decode cX10_startThread 41 = .ok (.aload_n 0, 1) := by decide +kernel
theorem dX10_startThread_42 : decode cX10_startThread 42 = .ok (.getfield 50, 3) := by decide +kernel
theorem dX10_startThread_45 : decode cX10_startThread 45 = .ok (.if_icmp .ge 25, 3) := by decide +kernel
theorem dX10_startThread_48 : decode cX10_startThread 48 = .ok (.aload_n 0, 1) := by decide +kernel
theorem dX10_startThread_49 : decode cX10_startThread 49 = .ok (.getfield 26, 3) := by decide +kernel
theorem dX10_startThread_52 : decode cX10_startThread 52 = .ok (.iload_n 3, 1) := by decide +kernel
theorem dX10_startThread_53 : decode cX10_startThread 53 = .ok (.aaload, 1) := by decide +kernel
theorem dX10_startThread_54 : decode cX10_startThread 54 = .ok (.getfield 135, 3) := by decide +kernel
theorem dX10_startThread_57 : decode cX10_startThread 57 = .ok (.iconst 3, 1) := by decide +kernel
theorem dX10_startThread_58 : decode cX10_startThread 58 = .ok (.if_icmp .eq 6, 3) := by decide +kernel
theorem dX10_startThread_61 : decode cX10_startThread 61 = .ok (.iinc 2 1, 3) := by decide +kernel
theorem dX10_startThread_64 : decode cX10_startThread 64 = .ok (.iinc 3 1, 3) := by decide +kernel
theorem dX10_startThread_67 : decode cX10_startThread 67 = .ok (.goto (-27), 3) := by decide +kernel
theorem dX10_startThread_70 : decode cX10_startThread 70 = .ok (.iload_n 2, 1) := by decide +kernel
theorem dX10_startThread_71 : decode cX10_startThread 71 = .ok (.ireturn, 1) := by decide +kernel
theorem dX10_hashOf_0 : decode cX10_hashOf 0 = .ok (.iload_n 1, 1) := by decide +kernel
theorem dX10_hashOf_1 : decode cX10_hashOf 1 = .ok (.invokestatic 132, 3) := by decide +kernel
theorem dX10_hashOf_4 : decode cX10_hashOf 4 = .ok (.ifCond .ne 6, 3) := by decide +kernel
theorem dX10_hashOf_7 : decode cX10_hashOf 7 = .ok (.bipush (-2), 2) := by decide +kernel
theorem dX10_hashOf_9 : decode cX10_hashOf 9 = .ok (.ireturn, 1) := by decide +kernel
theorem dX10_hashOf_10 : decode cX10_hashOf 10 = .ok (.aload_n 0, 1) := by decide +kernel
theorem dX10_hashOf_11 : decode cX10_hashOf 11 = .ok (.getfield 32, 3) := by decide +kernel
theorem dX10_hashOf_14 : decode cX10_hashOf 14 = .ok (.iload_n 1, 1) := by decide +kernel
theorem dX10_hashOf_15 : decode cX10_hashOf 15 = .ok (.aaload, 1) := by decide +kernel
theorem dX10_hashOf_16 : decode cX10_hashOf 16 = .ok (.astore_n 2, 1) := by decide +kernel
theorem dX10_hashOf_17 : decode cX10_hashOf 17 = .ok (.aload_n 2, 1) := by decide +kernel
theorem dX10_hashOf_18 : decode cX10_hashOf 18 = .ok (.getfield 304, 3) := by decide +kernel
theorem dX10_hashOf_21 : decode cX10_hashOf 21 = .ok (.iconst (-1), 1) := by decide +kernel
theorem dX10_hashOf_22 : decode cX10_hashOf 22 = .ok (.if_icmp .eq 8, 3) := by decide +kernel
theorem dX10_hashOf_25 : decode cX10_hashOf 25 = .ok (.aload_n 2, 1) := by decide +kernel
theorem dX10_hashOf_26 : decode cX10_hashOf 26 = .ok (.getfield 304, 3) := by decide +kernel
theorem dX10_hashOf_29 : decode cX10_hashOf 29 = .ok (.ireturn, 1) := by decide +kernel
theorem dX10_hashOf_30 : decode cX10_hashOf 30 = .ok (.aload_n 2, 1) := by decide +kernel
theorem dX10_hashOf_31 : decode cX10_hashOf 31 = .ok (.invokevirtual 169, 3) := by decide +kernel
theorem dX10_hashOf_34 : decode cX10_hashOf 34 = .ok (.ifCond .eq 29, 3) := by decide +kernel
theorem dX10_hashOf_37 : decode cX10_hashOf 37 = .ok (.aload_n 2, 1) := by decide +kernel
theorem dX10_hashOf_38 : decode cX10_hashOf 38 = .ok (.getfield 152, 3) := by decide +kernel
theorem dX10_hashOf_41 : decode cX10_hashOf 41 = .ok (.iconst 4, 1) := by decide +kernel
theorem dX10_hashOf_42 : decode cX10_hashOf 42 = .ok (.if_icmp .eq 21, 3) := by decide +kernel
theorem dX10_hashOf_45 : decode cX10_hashOf 45 = .ok (.aload_n 0, 1) := by decide +kernel
theorem dX10_hashOf_46 : decode cX10_hashOf 46 = .ok (.invokevirtual 148, 3) := by decide +kernel
theorem dX10_hashOf_49 : decode cX10_hashOf 49 = .ok (.ifCond .ne 6, 3) := by decide +kernel
theorem dX10_hashOf_52 : decode cX10_hashOf 52 = .ok (.bipush (-6), 2) := by decide +kernel
theorem dX10_hashOf_54 : decode cX10_hashOf 54 = .ok (.ireturn, 1) := by decide +kernel
theorem dX10_hashOf_55 : decode cX10_hashOf 55 = .ok (.aload_n 0, 1) := by decide +kernel
theorem dX10_hashOf_56 : decode cX10_hashOf 56 = .ok (.aload_n 2, 1) := by decide +kernel
theorem dX10_hashOf_57 : decode cX10_hashOf 57 = .ok (.invokevirtual 163, 3) := by decide +kernel
theorem dX10_hashOf_60 : decode cX10_hashOf 60 = .ok (.goto 16, 3) := by decide +kernel
theorem dX10_hashOf_63 : decode cX10_hashOf 63 = .ok (.aload_n 2, 1) := by decide +kernel
theorem dX10_hashOf_64 : decode cX10_hashOf 64 = .ok (.getfield 152, 3) := by decide +kernel
theorem dX10_hashOf_67 : decode cX10_hashOf 67 = .ok (.iconst 4, 1) := by decide +kernel
theorem dX10_hashOf_68 : decode cX10_hashOf 68 = .ok (.if_icmp .eq 8, 3) := by decide +kernel
theorem dX10_hashOf_71 : decode cX10_hashOf 71 = .ok (.aload_n 2, 1) := by decide +kernel
theorem dX10_hashOf_72 : decode cX10_hashOf 72 = .ok (.iconst 0, 1) := by decide +kernel
theorem dX10_hashOf_73 : decode cX10_hashOf 73 = .ok (.putfield 152, 3) := by decide +kernel
theorem dX10_hashOf_76 : decode cX10_hashOf 76 = .ok (.aload_n 0, 1) := by decide +kernel
theorem dX10_hashOf_77 : decode cX10_hashOf 77 = .ok (.dup, 1) := by decide +kernel
theorem dX10_hashOf_78 : decode cX10_hashOf 78 = .ok (.getfield 57, 3) := by decide +kernel
theorem dX10_hashOf_81 : decode cX10_hashOf 81 = .ok (.iconst 1, 1) := by decide +kernel
theorem dX10_hashOf_82 : decode cX10_hashOf 82 = .ok (.iadd, 1) := by decide +kernel
theorem dX10_hashOf_83 : decode cX10_hashOf 83 = .ok (.putfield 57, 3) := by decide +kernel
theorem dX10_hashOf_86 : decode cX10_hashOf 86 = .ok (.aload_n 2, 1) := by decide +kernel
theorem dX10_hashOf_87 : decode cX10_hashOf 87 = .ok (.sipush 7919, 3) := by decide +kernel
theorem dX10_hashOf_90 : decode cX10_hashOf 90 = .ok (.aload_n 0, 1) := by decide +kernel
theorem dX10_hashOf_91 : decode cX10_hashOf 91 = .ok (.getfield 57, 3) := by decide +kernel
theorem dX10_hashOf_94 : decode cX10_hashOf 94 = .ok (.imul, 1) := by decide +kernel
theorem dX10_hashOf_95 : decode cX10_hashOf 95 = .ok (.bipush 13, 2) := by decide +kernel
theorem dX10_hashOf_97 : decode cX10_hashOf 97 = .ok (.iload_n 1, 1) := by decide +kernel
theorem dX10_hashOf_98 : decode cX10_hashOf 98 = .ok (.imul, 1) := by decide +kernel
theorem dX10_hashOf_99 : decode cX10_hashOf 99 = .ok (.iadd, 1) := by decide +kernel
theorem dX10_hashOf_100 : decode cX10_hashOf 100 = .ok (.sipush 1000, 3) := by decide +kernel
theorem dX10_hashOf_103 : decode cX10_hashOf 103 = .ok (.irem, 1) := by decide +kernel
theorem dX10_hashOf_104 : decode cX10_hashOf 104 = .ok (.putfield 304, 3) := by decide +kernel
theorem dX10_hashOf_107 : decode cX10_hashOf 107 = .ok (.aload_n 2, 1) := by decide +kernel
theorem dX10_hashOf_108 : decode cX10_hashOf 108 = .ok (.getfield 304, 3) := by decide +kernel
theorem dX10_hashOf_111 : decode cX10_hashOf 111 = .ok (.ireturn, 1) := by decide +kernel
theorem dX10_letPass_0 : decode cX10_letPass 0 = .ok (.iload_n 1, 1) := by decide +kernel
theorem dX10_letPass_1 : decode cX10_letPass 1 = .ok (.iconst 1, 1) := by decide +kernel
theorem dX10_letPass_2 : decode cX10_letPass 2 = .ok (.if_icmp .lt 9, 3) := by decide +kernel
theorem dX10_letPass_5 : decode cX10_letPass 5 = .ok (.iload_n 1, 1) := by decide +kernel
theorem dX10_letPass_6 : decode cX10_letPass 6 = .ok (.bipush 20, 2) := by decide +kernel
theorem dX10_letPass_8 : decode cX10_letPass 8 = .ok (.if_icmp .le 6, 3) := by decide +kernel
theorem dX10_letPass_11 : decode cX10_letPass 11 = .ok (.bipush (-3), 2) := by decide +kernel
theorem dX10_letPass_13 : decode cX10_letPass 13 = .ok (.ireturn, 1) := by decide +kernel
theorem dX10_letPass_14 : decode cX10_letPass 14 = .ok (.iconst 0, 1) := by decide +kernel
theorem dX10_letPass_15 : decode cX10_letPass 15 = .ok (.istore_n 2, 1) := by decide +kernel
theorem dX10_letPass_16 : decode cX10_letPass 16 = .ok (.iconst 0, 1) := by decide +kernel
theorem dX10_letPass_17 : decode cX10_letPass 17 = .ok (.istore_n 3, 1) := by decide +kernel
theorem dX10_letPass_18 : decode cX10_letPass 18 = .ok (.iload_n 3, 1) := by decide +kernel
theorem dX10_letPass_19 : decode cX10_letPass 19 = .ok (.iload_n 1, 1) := by decide +kernel
theorem dX10_letPass_20 : decode cX10_letPass 20 = .ok (.if_icmp .ge 34, 3) := by decide +kernel
theorem dX10_letPass_23 : decode cX10_letPass 23 = .ok (.aload_n 0, 1) := by decide +kernel
theorem dX10_letPass_24 : decode cX10_letPass 24 = .ok (.dup, 1) := by decide +kernel
theorem dX10_letPass_25 : decode cX10_letPass 25 = .ok (.getfield 54, 3) := by decide +kernel
theorem dX10_letPass_28 : decode cX10_letPass 28 = .ok (.iconst 1, 1) := by decide +kernel
theorem dX10_letPass_29 : decode cX10_letPass 29 = .ok (.iadd, 1) := by decide +kernel
theorem dX10_letPass_30 : decode cX10_letPass 30 = .ok (.putfield 54, 3) := by decide +kernel
theorem dX10_letPass_33 : decode cX10_letPass 33 = .ok (.aload_n 0, 1) := by decide +kernel
theorem dX10_letPass_34 : decode cX10_letPass 34 = .ok (.invokevirtual 307, 3) := by decide +kernel
theorem dX10_letPass_37 : decode cX10_letPass 37 = .ok (.iload_n 2, 1) := by decide +kernel
theorem dX10_letPass_38 : decode cX10_letPass 38 = .ok (.aload_n 0, 1) := by decide +kernel
theorem dX10_letPass_39 : decode cX10_letPass 39 = .ok (.invokevirtual 310, 3) := by decide +kernel
theorem dX10_letPass_42 : decode cX10_letPass 42 = .ok (.iadd, 1) := by decide +kernel
theorem dX10_letPass_43 : decode cX10_letPass 43 = .ok (.istore_n 2, 1) := by decide +kernel
theorem dX10_letPass_44 : decode cX10_letPass 44 = .ok (.aload_n 0, 1) := by decide +kernel
theorem dX10_letPass_45 : decode cX10_letPass 45 = .ok (.invokevirtual 313, 3) := by decide +kernel
theorem dX10_letPass_48 : decode cX10_letPass 48 = .ok (.iinc 3 1, 3) := by decide +kernel
theorem dX10_letPass_51 : decode cX10_letPass 51 = .ok (.goto (-33), 3) := by decide +kernel
theorem dX10_letPass_54 : decode cX10_letPass 54 = .ok (.iload_n 2, 1) := by decide +kernel
theorem dX10_letPass_55 : decode cX10_letPass 55 = .ok (.ireturn, 1) := by decide +kernel
theorem dX10_endOverdueWaits_0 : decode cX10_endOverdueWaits 0 = .ok (.iconst 0, 1) := by decide +kernel
theorem dX10_endOverdueWaits_1 : decode cX10_endOverdueWaits 1 = .ok (.istore_n 1, 1) := by decide +kernel
theorem dX10_endOverdueWaits_2 : decode cX10_endOverdueWaits 2 = .ok (.iload_n 1, 1) := by decide +kernel
theorem dX10_endOverdueWaits_3 : decode cX10_endOverdueWaits 3 = .ok (.aload_n 0, 1) := by decide +kernel
theorem dX10_endOverdueWaits_4 : decode cX10_endOverdueWaits 4 = .ok (.getfield 50, 3) := by decide +kernel
theorem dX10_endOverdueWaits_7 : decode cX10_endOverdueWaits 7 = .ok (.if_icmp .ge 91, 3) := by decide +kernel
theorem dX10_endOverdueWaits_10 : decode cX10_endOverdueWaits 10 = .ok (.aload_n 0, 1) := by decide +kernel
theorem dX10_endOverdueWaits_11 : decode cX10_endOverdueWaits 11 = .ok (.getfield 26, 3) := by decide +kernel
theorem dX10_endOverdueWaits_14 : decode cX10_endOverdueWaits 14 = .ok (.iload_n 1, 1) := by decide +kernel
theorem dX10_endOverdueWaits_15 : decode cX10_endOverdueWaits 15 = .ok (.aaload, 1) := by decide +kernel
theorem dX10_endOverdueWaits_16 : decode cX10_endOverdueWaits 16 = .ok (.astore_n 2, 1) := by decide +kernel
theorem dX10_endOverdueWaits_17 : decode cX10_endOverdueWaits 17 = .ok (.aload_n 2, 1) := by decide +kernel
theorem dX10_endOverdueWaits_18 : decode cX10_endOverdueWaits 18 = .ok (.getfield 135, 3) := by decide +kernel
theorem dX10_endOverdueWaits_21 : decode cX10_endOverdueWaits 21 = .ok (.iconst 2, 1) := by decide +kernel
theorem dX10_endOverdueWaits_22 : decode cX10_endOverdueWaits 22 = .ok (.if_icmp .ne 15, 3) := by decide +kernel
theorem dX10_endOverdueWaits_25 : decode cX10_endOverdueWaits 25 = .ok (.aload_n 2, 1) := by decide +kernel
theorem dX10_endOverdueWaits_26 : decode cX10_endOverdueWaits 26 = .ok (.getfield 292, 3) := by decide +kernel
theorem dX10_endOverdueWaits_29 : decode cX10_endOverdueWaits 29 = .ok (.iconst (-1), 1) := by decide +kernel
theorem dX10_endOverdueWaits_30 : decode cX10_endOverdueWaits 30 = .ok (.if_icmp .eq 7, 3) := by decide +kernel
theorem dX10_endOverdueWaits_33 : decode cX10_endOverdueWaits 33 = .ok (.iconst 1, 1) := by decide +kernel
theorem dX10_endOverdueWaits_34 : decode cX10_endOverdueWaits 34 = .ok (.goto 4, 3) := by decide +kernel
theorem dX10_endOverdueWaits_37 : decode cX10_endOverdueWaits 37 = .ok (.iconst 0, 1) := by decide +kernel
theorem dX10_endOverdueWaits_38 : decode cX10_endOverdueWaits 38 = .ok (.istore_n 3, 1) := by decide +kernel
theorem dX10_endOverdueWaits_39 : decode cX10_endOverdueWaits 39 = .ok (.iload_n 3, 1) := by decide +kernel
theorem dX10_endOverdueWaits_40 : decode cX10_endOverdueWaits 40 = .ok (.ifCond .eq 52, 3) := by decide +kernel
theorem dX10_endOverdueWaits_43 : decode cX10_endOverdueWaits 43 = .ok (.aload_n 2, 1) := by decide +kernel
theorem dX10_endOverdueWaits_44 : decode cX10_endOverdueWaits 44 = .ok (.getfield 292, 3) := by decide +kernel
theorem dX10_endOverdueWaits_47 : decode cX10_endOverdueWaits 47 = .ok (.aload_n 0, 1) := by decide +kernel
theorem dX10_endOverdueWaits_48 : decode cX10_endOverdueWaits 48 = .ok (.getfield 54, 3) := by decide +kernel
theorem dX10_endOverdueWaits_51 : decode cX10_endOverdueWaits 51 = .ok (.if_icmp .gt 41, 3) := by decide +kernel
theorem dX10_endOverdueWaits_54 : decode cX10_endOverdueWaits 54 = .ok (.aload_n 2, 1) := by decide +kernel
theorem dX10_endOverdueWaits_55 : decode cX10_endOverdueWaits 55 = .ok (.getfield 216, 3) := by decide +kernel
theorem dX10_endOverdueWaits_58 : decode cX10_endOverdueWaits 58 = .ok (.invokestatic 132, 3) := by decide +kernel
theorem dX10_endOverdueWaits_61 : decode cX10_endOverdueWaits 61 = .ok (.ifCond .eq 31, 3) := by decide +kernel
theorem dX10_endOverdueWaits_64 : decode cX10_endOverdueWaits 64 = .ok (.aload_n 0, 1) := by decide +kernel
theorem dX10_endOverdueWaits_65 : decode cX10_endOverdueWaits 65 = .ok (.getfield 32, 3) := by decide +kernel
theorem dX10_endOverdueWaits_68 : decode cX10_endOverdueWaits 68 = .ok (.aload_n 2, 1) := by decide +kernel
theorem dX10_endOverdueWaits_69 : decode cX10_endOverdueWaits 69 = .ok (.getfield 216, 3) := by decide +kernel
theorem dX10_endOverdueWaits_72 : decode cX10_endOverdueWaits 72 = .ok (.aaload, 1) := by decide +kernel
theorem dX10_endOverdueWaits_73 : decode cX10_endOverdueWaits 73 = .ok (.astore 4, 2) := by decide +kernel
theorem dX10_endOverdueWaits_75 : decode cX10_endOverdueWaits 75 = .ok (.aload_n 0, 1) := by decide +kernel
theorem dX10_endOverdueWaits_76 : decode cX10_endOverdueWaits 76 = .ok (.iload_n 1, 1) := by decide +kernel
theorem dX10_endOverdueWaits_77 : decode cX10_endOverdueWaits 77 = .ok (.aload 4, 2) := by decide +kernel
theorem dX10_endOverdueWaits_79 : decode cX10_endOverdueWaits 79 = .ok (.iconst 2, 1) := by decide +kernel
theorem dX10_endOverdueWaits_80 : decode cX10_endOverdueWaits 80 = .ok (.invokevirtual 298, 3) := by decide +kernel
theorem dX10_endOverdueWaits_83 : decode cX10_endOverdueWaits 83 = .ok (.aload 4, 2) := by decide +kernel
theorem dX10_endOverdueWaits_85 : decode cX10_endOverdueWaits 85 = .ok (.getfield 194, 3) := by decide +kernel
theorem dX10_endOverdueWaits_88 : decode cX10_endOverdueWaits 88 = .ok (.iload_n 1, 1) := by decide +kernel
theorem dX10_endOverdueWaits_89 : decode cX10_endOverdueWaits 89 = .ok (.invokevirtual 210, 3) := by decide +kernel
theorem dX10_endOverdueWaits_92 : decode cX10_endOverdueWaits 92 = .ok (.iinc 1 1, 3) := by decide +kernel
theorem dX10_endOverdueWaits_95 : decode cX10_endOverdueWaits 95 = .ok (.goto (-93), 3) := by decide +kernel
theorem dX10_endOverdueWaits_98 : decode cX10_endOverdueWaits 98 = .ok (.return_, 1) := by decide +kernel
theorem dX10_wakeQueues_0 : decode cX10_wakeQueues 0 = .ok (.iconst 0, 1) := by decide +kernel
theorem dX10_wakeQueues_1 : decode cX10_wakeQueues 1 = .ok (.istore_n 1, 1) := by decide +kernel
theorem dX10_wakeQueues_2 : decode cX10_wakeQueues 2 = .ok (.aload_n 0, 1) := by decide +kernel
theorem dX10_wakeQueues_3 : decode cX10_wakeQueues 3 = .ok (.getfield 32, 3) := by decide +kernel
theorem dX10_wakeQueues_6 : decode cX10_wakeQueues 6 = .ok (.astore_n 2, 1) := by decide +kernel
theorem dX10_wakeQueues_7 : decode cX10_wakeQueues 7 = .ok (.aload_n 2, 1) := by decide +kernel
theorem dX10_wakeQueues_8 : decode cX10_wakeQueues 8 = .ok (.arraylength, 1) := by decide +kernel
theorem dX10_wakeQueues_9 : decode cX10_wakeQueues 9 = .ok (.istore_n 3, 1) := by decide +kernel
theorem dX10_wakeQueues_10 : decode cX10_wakeQueues 10 = .ok (.iconst 0, 1) := by decide +kernel
theorem dX10_wakeQueues_11 : decode cX10_wakeQueues 11 = .ok (.istore 4, 2) := by decide +kernel
theorem dX10_wakeQueues_13 : decode cX10_wakeQueues 13 = .ok (.iload 4, 2) := by decide +kernel
theorem dX10_wakeQueues_15 : decode cX10_wakeQueues 15 = .ok (.iload_n 3, 1) := by decide +kernel
theorem dX10_wakeQueues_16 : decode cX10_wakeQueues 16 = .ok (.if_icmp .ge 62, 3) := by decide +kernel
theorem dX10_wakeQueues_19 : decode cX10_wakeQueues 19 = .ok (.aload_n 2, 1) := by decide +kernel
theorem dX10_wakeQueues_20 : decode cX10_wakeQueues 20 = .ok (.iload 4, 2) := by decide +kernel
theorem dX10_wakeQueues_22 : decode cX10_wakeQueues 22 = .ok (.aaload, 1) := by decide +kernel
theorem dX10_wakeQueues_23 : decode cX10_wakeQueues 23 = .ok (.astore 5, 2) := by decide +kernel
theorem dX10_wakeQueues_25 : decode cX10_wakeQueues 25 = .ok (.aload 5, 2) := by decide +kernel
theorem dX10_wakeQueues_27 : decode cX10_wakeQueues 27 = .ok (.getfield 152, 3) := by decide +kernel
theorem dX10_wakeQueues_30 : decode cX10_wakeQueues 30 = .ok (.iconst 4, 1) := by decide +kernel
theorem dX10_wakeQueues_31 : decode cX10_wakeQueues 31 = .ok (.if_icmp .ne 41, 3) := by decide +kernel
theorem dX10_wakeQueues_34 : decode cX10_wakeQueues 34 = .ok (.aload 5, 2) := by decide +kernel
theorem dX10_wakeQueues_36 : decode cX10_wakeQueues 36 = .ok (.invokevirtual 169, 3) := by decide +kernel
theorem dX10_wakeQueues_39 : decode cX10_wakeQueues 39 = .ok (.ifCond .ne 33, 3) := by decide +kernel
theorem dX10_wakeQueues_42 : decode cX10_wakeQueues 42 = .ok (.aload 5, 2) := by decide +kernel
theorem dX10_wakeQueues_44 : decode cX10_wakeQueues 44 = .ok (.getfield 194, 3) := by decide +kernel
theorem dX10_wakeQueues_47 : decode cX10_wakeQueues 47 = .ok (.invokevirtual 198, 3) := by decide +kernel
theorem dX10_wakeQueues_50 : decode cX10_wakeQueues 50 = .ok (.ifCond .ne 22, 3) := by decide +kernel
theorem dX10_wakeQueues_53 : decode cX10_wakeQueues 53 = .ok (.aload_n 0, 1) := by decide +kernel
theorem dX10_wakeQueues_54 : decode cX10_wakeQueues 54 = .ok (.getfield 20, 3) := by decide +kernel
theorem dX10_wakeQueues_57 : decode cX10_wakeQueues 57 = .ok (.iconst 5, 1) := by decide +kernel
theorem dX10_wakeQueues_58 : decode cX10_wakeQueues 58 = .ok (.dup2, 1) := by decide +kernel
theorem dX10_wakeQueues_59 : decode cX10_wakeQueues 59 = .ok (.iaload, 1) := by decide +kernel
theorem dX10_wakeQueues_60 : decode cX10_wakeQueues 60 = .ok (.iconst 1, 1) := by decide +kernel
theorem dX10_wakeQueues_61 : decode cX10_wakeQueues 61 = .ok (.iadd, 1) := by decide +kernel
theorem dX10_wakeQueues_62 : decode cX10_wakeQueues 62 = .ok (.iastore, 1) := by decide +kernel
theorem dX10_wakeQueues_63 : decode cX10_wakeQueues 63 = .ok (.aload_n 0, 1) := by decide +kernel
theorem dX10_wakeQueues_64 : decode cX10_wakeQueues 64 = .ok (.aload 5, 2) := by decide +kernel
theorem dX10_wakeQueues_66 : decode cX10_wakeQueues 66 = .ok (.invokevirtual 270, 3) := by decide +kernel
theorem dX10_wakeQueues_69 : decode cX10_wakeQueues 69 = .ok (.iinc 1 1, 3) := by decide +kernel
theorem dX10_wakeQueues_72 : decode cX10_wakeQueues 72 = .ok (.iinc 4 1, 3) := by decide +kernel
theorem dX10_wakeQueues_75 : decode cX10_wakeQueues 75 = .ok (.goto (-62), 3) := by decide +kernel
theorem dX10_wakeQueues_78 : decode cX10_wakeQueues 78 = .ok (.iload_n 1, 1) := by decide +kernel
theorem dX10_wakeQueues_79 : decode cX10_wakeQueues 79 = .ok (.ireturn, 1) := by decide +kernel
theorem dX10_deflateOverdue_0 : decode cX10_deflateOverdue 0 = .ok (.aload_n 0, 1) := by decide +kernel
theorem dX10_deflateOverdue_1 : decode cX10_deflateOverdue 1 = .ok (.getfield 12, 3) := by decide +kernel
theorem dX10_deflateOverdue_4 : decode cX10_deflateOverdue 4 = .ok (.iconst 5, 1) := by decide +kernel
theorem dX10_deflateOverdue_5 : decode cX10_deflateOverdue 5 = .ok (.invokevirtual 69, 3) := by decide +kernel
theorem dX10_deflateOverdue_8 : decode cX10_deflateOverdue 8 = .ok (.istore_n 1, 1) := by decide +kernel
theorem dX10_deflateOverdue_9 : decode cX10_deflateOverdue 9 = .ok (.aload_n 0, 1) := by decide +kernel
theorem dX10_deflateOverdue_10 : decode cX10_deflateOverdue 10 = .ok (.getfield 32, 3) := by decide +kernel
theorem dX10_deflateOverdue_13 : decode cX10_deflateOverdue 13 = .ok (.astore_n 2, 1) := by decide +kernel
theorem dX10_deflateOverdue_14 : decode cX10_deflateOverdue 14 = .ok (.aload_n 2, 1) := by decide +kernel
theorem dX10_deflateOverdue_15 : decode cX10_deflateOverdue 15 = .ok (.arraylength, 1) := by decide +kernel
theorem dX10_deflateOverdue_16 : decode cX10_deflateOverdue 16 = .ok (.istore_n 3, 1) := by decide +kernel
theorem dX10_deflateOverdue_17 : decode cX10_deflateOverdue 17 = .ok (.iconst 0, 1) := by decide +kernel
theorem dX10_deflateOverdue_18 : decode cX10_deflateOverdue 18 = .ok (.istore 4, 2) := by decide +kernel
theorem dX10_deflateOverdue_20 : decode cX10_deflateOverdue 20 = .ok (.iload 4, 2) := by decide +kernel
theorem dX10_deflateOverdue_22 : decode cX10_deflateOverdue 22 = .ok (.iload_n 3, 1) := by decide +kernel
theorem dX10_deflateOverdue_23 : decode cX10_deflateOverdue 23 = .ok (.if_icmp .ge 43, 3) := by decide +kernel
theorem dX10_deflateOverdue_26 : decode cX10_deflateOverdue 26 = .ok (.aload_n 2, 1) := by decide +kernel
theorem dX10_deflateOverdue_27 : decode cX10_deflateOverdue 27 = .ok (.iload 4, 2) := by decide +kernel
theorem dX10_deflateOverdue_29 : decode cX10_deflateOverdue 29 = .ok (.aaload, 1) := by decide +kernel
theorem dX10_deflateOverdue_30 : decode cX10_deflateOverdue 30 = .ok (.astore 5, 2) := by decide +kernel
theorem dX10_deflateOverdue_32 : decode cX10_deflateOverdue 32 = .ok (.aload 5, 2) := by decide +kernel
theorem dX10_deflateOverdue_34 : decode cX10_deflateOverdue 34 = .ok (.invokevirtual 252, 3) := by decide +kernel
theorem dX10_deflateOverdue_37 : decode cX10_deflateOverdue 37 = .ok (.ifCond .eq 23, 3) := by decide +kernel
theorem dX10_deflateOverdue_40 : decode cX10_deflateOverdue 40 = .ok (.aload_n 0, 1) := by decide +kernel
theorem dX10_deflateOverdue_41 : decode cX10_deflateOverdue 41 = .ok (.getfield 54, 3) := by decide +kernel
theorem dX10_deflateOverdue_44 : decode cX10_deflateOverdue 44 = .ok (.aload 5, 2) := by decide +kernel
theorem dX10_deflateOverdue_46 : decode cX10_deflateOverdue 46 = .ok (.getfield 255, 3) := by decide +kernel
theorem dX10_deflateOverdue_49 : decode cX10_deflateOverdue 49 = .ok (.isub, 1) := by decide +kernel
theorem dX10_deflateOverdue_50 : decode cX10_deflateOverdue 50 = .ok (.iload_n 1, 1) := by decide +kernel
theorem dX10_deflateOverdue_51 : decode cX10_deflateOverdue 51 = .ok (.if_icmp .lt 9, 3) := by decide +kernel
theorem dX10_deflateOverdue_54 : decode cX10_deflateOverdue 54 = .ok (.aload_n 0, 1) := by decide +kernel
theorem dX10_deflateOverdue_55 : decode cX10_deflateOverdue 55 = .ok (.aload 5, 2) := by decide +kernel
theorem dX10_deflateOverdue_57 : decode cX10_deflateOverdue 57 = .ok (.invokevirtual 258, 3) := by decide +kernel
theorem dX10_deflateOverdue_60 : decode cX10_deflateOverdue 60 = .ok (.iinc 4 1, 3) := by decide +kernel
theorem dX10_deflateOverdue_63 : decode cX10_deflateOverdue 63 = .ok (.goto (-43), 3) := by decide +kernel
theorem dX10_deflateOverdue_66 : decode cX10_deflateOverdue 66 = .ok (.return_, 1) := by decide +kernel
theorem dX10_waitsForItself_0 : decode cX10_waitsForItself 0 = .ok (.iload_n 1, 1) := by decide +kernel
theorem dX10_waitsForItself_1 : decode cX10_waitsForItself 1 = .ok (.istore_n 2, 1) := by decide +kernel
theorem dX10_waitsForItself_2 : decode cX10_waitsForItself 2 = .ok (.iconst 0, 1) := by decide +kernel
theorem dX10_waitsForItself_3 : decode cX10_waitsForItself 3 = .ok (.istore_n 3, 1) := by decide +kernel
theorem dX10_waitsForItself_4 : decode cX10_waitsForItself 4 = .ok (.iload_n 3, 1) := by decide +kernel
theorem dX10_waitsForItself_5 : decode cX10_waitsForItself 5 = .ok (.aload_n 0, 1) := by decide +kernel
theorem dX10_waitsForItself_6 : decode cX10_waitsForItself 6 = .ok (.getfield 50, 3) := by decide +kernel
theorem dX10_waitsForItself_9 : decode cX10_waitsForItself 9 = .ok (.if_icmp .ge 22, 3) := by decide +kernel
theorem dX10_waitsForItself_12 : decode cX10_waitsForItself 12 = .ok (.aload_n 0, 1) := by decide +kernel
theorem dX10_waitsForItself_13 : decode cX10_waitsForItself 13 = .ok (.iload_n 2, 1) := by decide +kernel
theorem dX10_waitsForItself_14 : decode cX10_waitsForItself 14 = .ok (.invokevirtual 316, 3) := by decide +kernel
theorem dX10_waitsForItself_17 : decode cX10_waitsForItself 17 = .ok (.istore_n 2, 1) := by decide +kernel
theorem dX10_waitsForItself_18 : decode cX10_waitsForItself 18 = .ok (.iload_n 2, 1) := by decide +kernel
theorem dX10_waitsForItself_19 : decode cX10_waitsForItself 19 = .ok (.iload_n 1, 1) := by decide +kernel
theorem dX10_waitsForItself_20 : decode cX10_waitsForItself 20 = .ok (.if_icmp .ne 5, 3) := by decide +kernel
theorem dX10_waitsForItself_23 : decode cX10_waitsForItself 23 = .ok (.iconst 1, 1) := by decide +kernel
theorem dX10_waitsForItself_24 : decode cX10_waitsForItself 24 = .ok (.ireturn, 1) := by decide +kernel
theorem dX10_waitsForItself_25 : decode cX10_waitsForItself 25 = .ok (.iinc 3 1, 3) := by decide +kernel
theorem dX10_waitsForItself_28 : decode cX10_waitsForItself 28 = .ok (.goto (-24), 3) := by decide +kernel
theorem dX10_waitsForItself_31 : decode cX10_waitsForItself 31 = .ok (.iconst 0, 1) := by decide +kernel
theorem dX10_waitsForItself_32 : decode cX10_waitsForItself 32 = .ok (.ireturn, 1) := by decide +kernel
theorem dX10_waitedFor_0 : decode cX10_waitedFor 0 = .ok (.aload_n 0, 1) := by decide +kernel
theorem dX10_waitedFor_1 : decode cX10_waitedFor 1 = .ok (.iload_n 1, 1) := by decide +kernel
theorem dX10_waitedFor_2 : decode cX10_waitedFor 2 = .ok (.invokevirtual 128, 3) := by decide +kernel
theorem dX10_waitedFor_5 : decode cX10_waitedFor 5 = .ok (.ifCond .ne 6, 3) := by decide +kernel
theorem dX10_waitedFor_8 : decode cX10_waitedFor 8 = .ok (.bipush (-8), 2) := by decide +kernel
theorem dX10_waitedFor_10 : decode cX10_waitedFor 10 = .ok (.ireturn, 1) := by decide +kernel
theorem dX10_waitedFor_11 : decode cX10_waitedFor 11 = .ok (.aload_n 0, 1) := by decide +kernel
theorem dX10_waitedFor_12 : decode cX10_waitedFor 12 = .ok (.getfield 26, 3) := by decide +kernel
theorem dX10_waitedFor_15 : decode cX10_waitedFor 15 = .ok (.iload_n 1, 1) := by decide +kernel
theorem dX10_waitedFor_16 : decode cX10_waitedFor 16 = .ok (.aaload, 1) := by decide +kernel
theorem dX10_waitedFor_17 : decode cX10_waitedFor 17 = .ok (.astore_n 2, 1) := by decide +kernel
theorem dX10_waitedFor_18 : decode cX10_waitedFor 18 = .ok (.aload_n 2, 1) := by decide +kernel
theorem dX10_waitedFor_19 : decode cX10_waitedFor 19 = .ok (.getfield 135, 3) := by decide +kernel
theorem dX10_waitedFor_22 : decode cX10_waitedFor 22 = .ok (.iconst 1, 1) := by decide +kernel
theorem dX10_waitedFor_23 : decode cX10_waitedFor 23 = .ok (.if_icmp .ne 17, 3) := by decide +kernel
theorem dX10_waitedFor_26 : decode cX10_waitedFor 26 = .ok (.aload_n 2, 1) := by decide +kernel
theorem dX10_waitedFor_27 : decode cX10_waitedFor 27 = .ok (.getfield 216, 3) := by decide +kernel
theorem dX10_waitedFor_30 : decode cX10_waitedFor 30 = .ok (.invokestatic 132, 3) := by decide +kernel
theorem dX10_waitedFor_33 : decode cX10_waitedFor 33 = .ok (.ifCond .eq 7, 3) := by decide +kernel
theorem dX10_waitedFor_36 : decode cX10_waitedFor 36 = .ok (.iconst 1, 1) := by decide +kernel
theorem dX10_waitedFor_37 : decode cX10_waitedFor 37 = .ok (.goto 4, 3) := by decide +kernel
theorem dX10_waitedFor_40 : decode cX10_waitedFor 40 = .ok (.iconst 0, 1) := by decide +kernel
theorem dX10_waitedFor_41 : decode cX10_waitedFor 41 = .ok (.istore_n 3, 1) := by decide +kernel
theorem dX10_waitedFor_42 : decode cX10_waitedFor 42 = .ok (.iload_n 3, 1) := by decide +kernel
theorem dX10_waitedFor_43 : decode cX10_waitedFor 43 = .ok (.ifCond .eq 18, 3) := by decide +kernel
theorem dX10_waitedFor_46 : decode cX10_waitedFor 46 = .ok (.aload_n 0, 1) := by decide +kernel
theorem dX10_waitedFor_47 : decode cX10_waitedFor 47 = .ok (.getfield 32, 3) := by decide +kernel
theorem dX10_waitedFor_50 : decode cX10_waitedFor 50 = .ok (.aload_n 2, 1) := by decide +kernel
theorem dX10_waitedFor_51 : decode cX10_waitedFor 51 = .ok (.getfield 216, 3) := by decide +kernel
theorem dX10_waitedFor_54 : decode cX10_waitedFor 54 = .ok (.aaload, 1) := by decide +kernel
theorem dX10_waitedFor_55 : decode cX10_waitedFor 55 = .ok (.getfield 184, 3) := by decide +kernel
theorem dX10_waitedFor_58 : decode cX10_waitedFor 58 = .ok (.goto 5, 3) := by decide +kernel
theorem dX10_waitedFor_61 : decode cX10_waitedFor 61 = .ok (.bipush (-8), 2) := by decide +kernel
theorem dX10_waitedFor_63 : decode cX10_waitedFor 63 = .ok (.ireturn, 1) := by decide +kernel
