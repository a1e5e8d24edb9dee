theorem dX11_init_0 : decode cX11_init 0 = .ok (.aload_n 0, 1) := by decide +kernel
theorem dX11_init_1 : decode cX11_init 1 = .ok (.invokespecial 1, 3) := by decide +kernel
theorem dX11_init_4 : decode cX11_init 4 = .ok (.aload_n 0, 1) := by decide +kernel
theorem dX11_init_5 : decode cX11_init 5 = .ok (.new 7, 3) := by decide +kernel
theorem dX11_init_8 : decode cX11_init 8 = .ok (.dup, 1) := by decide +kernel
theorem dX11_init_9 : decode cX11_init 9 = .ok (.invokespecial 9, 3) := by decide +kernel
theorem dX11_init_12 : decode cX11_init 12 = .ok (.putfield 10, 3) := by decide +kernel
theorem dX11_init_15 : decode cX11_init 15 = .ok (.aload_n 0, 1) := by decide +kernel
theorem dX11_init_16 : decode cX11_init 16 = .ok (.new 7, 3) := by decide +kernel
theorem dX11_init_19 : decode cX11_init 19 = .ok (.dup, 1) := by decide +kernel
theorem dX11_init_20 : decode cX11_init 20 = .ok (.invokespecial 9, 3) := by decide +kernel
theorem dX11_init_23 : decode cX11_init 23 = .ok (.putfield 16, 3) := by decide +kernel
theorem dX11_init_26 : decode cX11_init 26 = .ok (.aload_n 0, 1) := by decide +kernel
theorem dX11_init_27 : decode cX11_init 27 = .ok (.new 19, 3) := by decide +kernel
theorem dX11_init_30 : decode cX11_init 30 = .ok (.dup, 1) := by decide +kernel
theorem dX11_init_31 : decode cX11_init 31 = .ok (.invokespecial 21, 3) := by decide +kernel
theorem dX11_init_34 : decode cX11_init 34 = .ok (.putfield 22, 3) := by decide +kernel
theorem dX11_init_37 : decode cX11_init 37 = .ok (.aload_n 0, 1) := by decide +kernel
theorem dX11_init_38 : decode cX11_init 38 = .ok (.new 26, 3) := by decide +kernel
theorem dX11_init_41 : decode cX11_init 41 = .ok (.dup, 1) := by decide +kernel
theorem dX11_init_42 : decode cX11_init 42 = .ok (.invokespecial 28, 3) := by decide +kernel
theorem dX11_init_45 : decode cX11_init 45 = .ok (.putfield 29, 3) := by decide +kernel
theorem dX11_init_48 : decode cX11_init 48 = .ok (.aload_n 0, 1) := by decide +kernel
theorem dX11_init_49 : decode cX11_init 49 = .ok (.iconst 2, 1) := by decide +kernel
theorem dX11_init_50 : decode cX11_init 50 = .ok (.anewarray 33, 3) := by decide +kernel
theorem dX11_init_53 : decode cX11_init 53 = .ok (.putfield 35, 3) := by decide +kernel
theorem dX11_init_56 : decode cX11_init 56 = .ok (.aload_n 0, 1) := by decide +kernel
theorem dX11_init_57 : decode cX11_init 57 = .ok (.new 39, 3) := by decide +kernel
theorem dX11_init_60 : decode cX11_init 60 = .ok (.dup, 1) := by decide +kernel
theorem dX11_init_61 : decode cX11_init 61 = .ok (.invokespecial 41, 3) := by decide +kernel
theorem dX11_init_64 : decode cX11_init 64 = .ok (.putfield 42, 3) := by decide +kernel
theorem dX11_init_67 : decode cX11_init 67 = .ok (.iconst 0, 1) := by decide +kernel
theorem dX11_init_68 : decode cX11_init 68 = .ok (.istore_n 1, 1) := by decide +kernel
theorem dX11_init_69 : decode cX11_init 69 = .ok (.iload_n 1, 1) := by decide +kernel
theorem dX11_init_70 : decode cX11_init 70 = .ok (.iconst 2, 1) := by decide +kernel
theorem dX11_init_71 : decode cX11_init 71 = .ok (.if_icmp .ge 22, 3) := by decide +kernel
theorem dX11_init_74 : decode cX11_init 74 = .ok (.aload_n 0, 1) := by decide +kernel
theorem dX11_init_75 : decode cX11_init 75 = .ok (.getfield 35, 3) := by decide +kernel
theorem dX11_init_78 : decode cX11_init 78 = .ok (.iload_n 1, 1) := by decide +kernel
theorem dX11_init_79 : decode cX11_init 79 = .ok (.new 33, 3) := by decide +kernel
theorem dX11_init_82 : decode cX11_init 82 = .ok (.dup, 1) := by decide +kernel
theorem dX11_init_83 : decode cX11_init 83 = .ok (.invokespecial 46, 3) := by decide +kernel
theorem dX11_init_86 : decode cX11_init 86 = .ok (.aastore, 1) := by decide +kernel
theorem dX11_init_87 : decode cX11_init 87 = .ok (.iinc 1 1, 3) := by decide +kernel
theorem dX11_init_90 : decode cX11_init 90 = .ok (.goto (-21), 3) := by decide +kernel
theorem dX11_init_93 : decode cX11_init 93 = .ok (.return_, 1) := by decide +kernel
theorem dX11_reset_0 : decode cX11_reset 0 = .ok (.iload_n 1, 1) := by decide +kernel
theorem dX11_reset_1 : decode cX11_reset 1 = .ok (.iconst 2, 1) := by decide +kernel
theorem dX11_reset_2 : decode cX11_reset 2 = .ok (.if_icmp .lt 9, 3) := by decide +kernel
theorem dX11_reset_5 : decode cX11_reset 5 = .ok (.iload_n 1, 1) := by decide +kernel
theorem dX11_reset_6 : decode cX11_reset 6 = .ok (.bipush 6, 2) := by decide +kernel
theorem dX11_reset_8 : decode cX11_reset 8 = .ok (.if_icmp .le 6, 3) := by decide +kernel
theorem dX11_reset_11 : decode cX11_reset 11 = .ok (.bipush (-3), 2) := by decide +kernel
theorem dX11_reset_13 : decode cX11_reset 13 = .ok (.ireturn, 1) := by decide +kernel
theorem dX11_reset_14 : decode cX11_reset 14 = .ok (.aload_n 0, 1) := by decide +kernel
theorem dX11_reset_15 : decode cX11_reset 15 = .ok (.getfield 10, 3) := by decide +kernel
theorem dX11_reset_18 : decode cX11_reset 18 = .ok (.getfield 47, 3) := by decide +kernel
theorem dX11_reset_21 : decode cX11_reset 21 = .ok (.istore_n 2, 1) := by decide +kernel
theorem dX11_reset_22 : decode cX11_reset 22 = .ok (.aload_n 0, 1) := by decide +kernel
theorem dX11_reset_23 : decode cX11_reset 23 = .ok (.getfield 10, 3) := by decide +kernel
theorem dX11_reset_26 : decode cX11_reset 26 = .ok (.iload_n 1, 1) := by decide +kernel
theorem dX11_reset_27 : decode cX11_reset 27 = .ok (.invokevirtual 51, 3) := by decide +kernel
theorem dX11_reset_30 : decode cX11_reset 30 = .ok (.aload_n 0, 1) := by decide +kernel
theorem dX11_reset_31 : decode cX11_reset 31 = .ok (.getfield 22, 3) := by decide +kernel
theorem dX11_reset_34 : decode cX11_reset 34 = .ok (.invokevirtual 55, 3) := by decide +kernel
theorem dX11_reset_37 : decode cX11_reset 37 = .ok (.iload_n 2, 1) := by decide +kernel
theorem dX11_reset_38 : decode cX11_reset 38 = .ok (.ireturn, 1) := by decide +kernel
theorem dX11_set_0 : decode cX11_set 0 = .ok (.iload_n 1, 1) := by decide +kernel
theorem dX11_set_1 : decode cX11_set 1 = .ok (.iload_n 2, 1) := by decide +kernel
theorem dX11_set_2 : decode cX11_set 2 = .ok (.invokestatic 58, 3) := by decide +kernel
theorem dX11_set_5 : decode cX11_set 5 = .ok (.ifCond .ne 6, 3) := by decide +kernel
theorem dX11_set_8 : decode cX11_set 8 = .ok (.bipush (-3), 2) := by decide +kernel
theorem dX11_set_10 : decode cX11_set 10 = .ok (.ireturn, 1) := by decide +kernel
theorem dX11_set_11 : decode cX11_set 11 = .ok (.iload_n 1, 1) := by decide +kernel
theorem dX11_set_12 : decode cX11_set 12 = .ok (.bipush 6, 2) := by decide +kernel
theorem dX11_set_14 : decode cX11_set 14 = .ok (.if_icmp .ne 17, 3) := by decide +kernel
theorem dX11_set_17 : decode cX11_set 17 = .ok (.iload_n 2, 1) := by decide +kernel
theorem dX11_set_18 : decode cX11_set 18 = .ok (.aload_n 0, 1) := by decide +kernel
theorem dX11_set_19 : decode cX11_set 19 = .ok (.getfield 10, 3) := by decide +kernel
theorem dX11_set_22 : decode cX11_set 22 = .ok (.invokevirtual 64, 3) := by decide +kernel
theorem dX11_set_25 : decode cX11_set 25 = .ok (.if_icmp .ge 6, 3) := by decide +kernel
theorem dX11_set_28 : decode cX11_set 28 = .ok (.bipush (-7), 2) := by decide +kernel
theorem dX11_set_30 : decode cX11_set 30 = .ok (.ireturn, 1) := by decide +kernel
theorem dX11_set_31 : decode cX11_set 31 = .ok (.aload_n 0, 1) := by decide +kernel
theorem dX11_set_32 : decode cX11_set 32 = .ok (.getfield 10, 3) := by decide +kernel
theorem dX11_set_35 : decode cX11_set 35 = .ok (.getfield 68, 3) := by decide +kernel
theorem dX11_set_38 : decode cX11_set 38 = .ok (.iload_n 1, 1) := by decide +kernel
theorem dX11_set_39 : decode cX11_set 39 = .ok (.invokevirtual 72, 3) := by decide +kernel
theorem dX11_set_42 : decode cX11_set 42 = .ok (.istore_n 3, 1) := by decide +kernel
theorem dX11_set_43 : decode cX11_set 43 = .ok (.aload_n 0, 1) := by decide +kernel
theorem dX11_set_44 : decode cX11_set 44 = .ok (.getfield 10, 3) := by decide +kernel
theorem dX11_set_47 : decode cX11_set 47 = .ok (.getfield 68, 3) := by decide +kernel
theorem dX11_set_50 : decode cX11_set 50 = .ok (.iload_n 1, 1) := by decide +kernel
theorem dX11_set_51 : decode cX11_set 51 = .ok (.iload_n 2, 1) := by decide +kernel
theorem dX11_set_52 : decode cX11_set 52 = .ok (.invokevirtual 76, 3) := by decide +kernel
theorem dX11_set_55 : decode cX11_set 55 = .ok (.iload_n 3, 1) := by decide +kernel
theorem dX11_set_56 : decode cX11_set 56 = .ok (.ireturn, 1) := by decide +kernel
theorem dX11_setting_0 : decode cX11_setting 0 = .ok (.iload_n 1, 1) := by decide +kernel
theorem dX11_setting_1 : decode cX11_setting 1 = .ok (.invokestatic 80, 3) := by decide +kernel
theorem dX11_setting_4 : decode cX11_setting 4 = .ok (.ifCond .eq 17, 3) := by decide +kernel
theorem dX11_setting_7 : decode cX11_setting 7 = .ok (.aload_n 0, 1) := by decide +kernel
theorem dX11_setting_8 : decode cX11_setting 8 = .ok (.getfield 10, 3) := by decide +kernel
theorem dX11_setting_11 : decode cX11_setting 11 = .ok (.getfield 68, 3) := by decide +kernel
theorem dX11_setting_14 : decode cX11_setting 14 = .ok (.iload_n 1, 1) := by decide +kernel
theorem dX11_setting_15 : decode cX11_setting 15 = .ok (.invokevirtual 72, 3) := by decide +kernel
theorem dX11_setting_18 : decode cX11_setting 18 = .ok (.goto 5, 3) := by decide +kernel
theorem dX11_setting_21 : decode cX11_setting 21 = .ok (.bipush (-3), 2) := by decide +kernel
theorem dX11_setting_23 : decode cX11_setting 23 = .ok (.ireturn, 1) := by decide +kernel
theorem dX11_enter_0 : decode cX11_enter 0 = .ok (.aload_n 0, 1) := by decide +kernel
theorem dX11_enter_1 : decode cX11_enter 1 = .ok (.iconst 0, 1) := by decide +kernel
theorem dX11_enter_2 : decode cX11_enter 2 = .ok (.iload_n 1, 1) := by decide +kernel
theorem dX11_enter_3 : decode cX11_enter 3 = .ok (.iload_n 2, 1) := by decide +kernel
theorem dX11_enter_4 : decode cX11_enter 4 = .ok (.iconst 0, 1) := by decide +kernel
theorem dX11_enter_5 : decode cX11_enter 5 = .ok (.invokevirtual 86, 3) := by decide +kernel
theorem dX11_enter_8 : decode cX11_enter 8 = .ok (.ireturn, 1) := by decide +kernel
theorem dX11_exit_0 : decode cX11_exit 0 = .ok (.aload_n 0, 1) := by decide +kernel
theorem dX11_exit_1 : decode cX11_exit 1 = .ok (.iconst 1, 1) := by decide +kernel
theorem dX11_exit_2 : decode cX11_exit 2 = .ok (.iload_n 1, 1) := by decide +kernel
theorem dX11_exit_3 : decode cX11_exit 3 = .ok (.iload_n 2, 1) := by decide +kernel
theorem dX11_exit_4 : decode cX11_exit 4 = .ok (.iconst 0, 1) := by decide +kernel
theorem dX11_exit_5 : decode cX11_exit 5 = .ok (.invokevirtual 86, 3) := by decide +kernel
theorem dX11_exit_8 : decode cX11_exit 8 = .ok (.ireturn, 1) := by decide +kernel
theorem dX11_await_0 : decode cX11_await 0 = .ok (.aload_n 0, 1) := by decide +kernel
theorem dX11_await_1 : decode cX11_await 1 = .ok (.iconst 2, 1) := by decide +kernel
theorem dX11_await_2 : decode cX11_await 2 = .ok (.iload_n 1, 1) := by decide +kernel
theorem dX11_await_3 : decode cX11_await 3 = .ok (.iload_n 2, 1) := by decide +kernel
theorem dX11_await_4 : decode cX11_await 4 = .ok (.iload_n 3, 1) := by decide +kernel
theorem dX11_await_5 : decode cX11_await 5 = .ok (.invokevirtual 86, 3) := by decide +kernel
theorem dX11_await_8 : decode cX11_await 8 = .ok (.ireturn, 1) := by decide +kernel
theorem dX11_signal_0 : decode cX11_signal 0 = .ok (.aload_n 0, 1) := by decide +kernel
theorem dX11_signal_1 : decode cX11_signal 1 = .ok (.iconst 3, 1) := by decide +kernel
theorem dX11_signal_2 : decode cX11_signal 2 = .ok (.iload_n 1, 1) := by decide +kernel
theorem dX11_signal_3 : decode cX11_signal 3 = .ok (.iload_n 2, 1) := by decide +kernel
theorem dX11_signal_4 : decode cX11_signal 4 = .ok (.iconst 0, 1) := by decide +kernel
theorem dX11_signal_5 : decode cX11_signal 5 = .ok (.invokevirtual 86, 3) := by decide +kernel
theorem dX11_signal_8 : decode cX11_signal 8 = .ok (.ireturn, 1) := by decide +kernel
theorem dX11_signalAll_0 : decode cX11_signalAll 0 = .ok (.aload_n 0, 1) := by decide +kernel
theorem dX11_signalAll_1 : decode cX11_signalAll 1 = .ok (.iconst 4, 1) := by decide +kernel
theorem dX11_signalAll_2 : decode cX11_signalAll 2 = .ok (.iload_n 1, 1) := by decide +kernel
theorem dX11_signalAll_3 : decode cX11_signalAll 3 = .ok (.iload_n 2, 1) := by decide +kernel
theorem dX11_signalAll_4 : decode cX11_signalAll 4 = .ok (.iconst 0, 1) := by decide +kernel
theorem dX11_signalAll_5 : decode cX11_signalAll 5 = .ok (.invokevirtual 86, 3) := by decide +kernel
theorem dX11_signalAll_8 : decode cX11_signalAll 8 = .ok (.ireturn, 1) := by decide +kernel
theorem dX11_interrupt_0 : decode cX11_interrupt 0 = .ok (.aload_n 0, 1) := by decide +kernel
theorem dX11_interrupt_1 : decode cX11_interrupt 1 = .ok (.iconst 5, 1) := by decide +kernel
theorem dX11_interrupt_2 : decode cX11_interrupt 2 = .ok (.iload_n 1, 1) := by decide +kernel
theorem dX11_interrupt_3 : decode cX11_interrupt 3 = .ok (.iconst 0, 1) := by decide +kernel
theorem dX11_interrupt_4 : decode cX11_interrupt 4 = .ok (.iconst 0, 1) := by decide +kernel
theorem dX11_interrupt_5 : decode cX11_interrupt 5 = .ok (.invokevirtual 86, 3) := by decide +kernel
theorem dX11_interrupt_8 : decode cX11_interrupt 8 = .ok (.ireturn, 1) := by decide +kernel
theorem dX11_die_0 : decode cX11_die 0 = .ok (.aload_n 0, 1) := by decide +kernel
theorem dX11_die_1 : decode cX11_die 1 = .ok (.bipush 6, 2) := by decide +kernel
theorem dX11_die_3 : decode cX11_die 3 = .ok (.iload_n 1, 1) := by decide +kernel
theorem dX11_die_4 : decode cX11_die 4 = .ok (.iconst 0, 1) := by decide +kernel
theorem dX11_die_5 : decode cX11_die 5 = .ok (.iconst 0, 1) := by decide +kernel
theorem dX11_die_6 : decode cX11_die 6 = .ok (.invokevirtual 86, 3) := by decide +kernel
theorem dX11_die_9 : decode cX11_die 9 = .ok (.ireturn, 1) := by decide +kernel
theorem dX11_start_0 : decode cX11_start 0 = .ok (.aload_n 0, 1) := by decide +kernel
theorem dX11_start_1 : decode cX11_start 1 = .ok (.bipush 7, 2) := by decide +kernel
theorem dX11_start_3 : decode cX11_start 3 = .ok (.iload_n 1, 1) := by decide +kernel
theorem dX11_start_4 : decode cX11_start 4 = .ok (.iconst 0, 1) := by decide +kernel
theorem dX11_start_5 : decode cX11_start 5 = .ok (.iconst 0, 1) := by decide +kernel
theorem dX11_start_6 : decode cX11_start 6 = .ok (.invokevirtual 86, 3) := by decide +kernel
theorem dX11_start_9 : decode cX11_start 9 = .ok (.ireturn, 1) := by decide +kernel
theorem dX11_hash_0 : decode cX11_hash 0 = .ok (.aload_n 0, 1) := by decide +kernel
theorem dX11_hash_1 : decode cX11_hash 1 = .ok (.bipush 8, 2) := by decide +kernel
theorem dX11_hash_3 : decode cX11_hash 3 = .ok (.iload_n 1, 1) := by decide +kernel
theorem dX11_hash_4 : decode cX11_hash 4 = .ok (.iconst 0, 1) := by decide +kernel
theorem dX11_hash_5 : decode cX11_hash 5 = .ok (.iconst 0, 1) := by decide +kernel
theorem dX11_hash_6 : decode cX11_hash 6 = .ok (.invokevirtual 86, 3) := by decide +kernel
theorem dX11_hash_9 : decode cX11_hash 9 = .ok (.ireturn, 1) := by decide +kernel
theorem dX11_tick_0 : decode cX11_tick 0 = .ok (.aload_n 0, 1) := by decide +kernel
theorem dX11_tick_1 : decode cX11_tick 1 = .ok (.bipush 9, 2) := by decide +kernel
theorem dX11_tick_3 : decode cX11_tick 3 = .ok (.iload_n 1, 1) := by decide +kernel
theorem dX11_tick_4 : decode cX11_tick 4 = .ok (.iconst 0, 1) := by decide +kernel
theorem dX11_tick_5 : decode cX11_tick 5 = .ok (.iconst 0, 1) := by decide +kernel
theorem dX11_tick_6 : decode cX11_tick 6 = .ok (.invokevirtual 86, 3) := by decide +kernel
theorem dX11_tick_9 : decode cX11_tick 9 = .ok (.ireturn, 1) := by decide +kernel
theorem dX11_operate_0 : decode cX11_operate 0 = .ok (.aload_n 0, 1) := by decide +kernel
theorem dX11_operate_1 : decode cX11_operate 1 = .ok (.getfield 10, 3) := by decide +kernel
theorem dX11_operate_4 : decode cX11_operate 4 = .ok (.iload_n 1, 1) := by decide +kernel
theorem dX11_operate_5 : decode cX11_operate 5 = .ok (.iload_n 2, 1) := by decide +kernel
theorem dX11_operate_6 : decode cX11_operate 6 = .ok (.iload_n 3, 1) := by decide +kernel
theorem dX11_operate_7 : decode cX11_operate 7 = .ok (.iload 4, 2) := by decide +kernel
theorem dX11_operate_9 : decode cX11_operate 9 = .ok (.invokevirtual 90, 3) := by decide +kernel
theorem dX11_operate_12 : decode cX11_operate 12 = .ok (.istore 5, 2) := by decide +kernel
theorem dX11_operate_14 : decode cX11_operate 14 = .ok (.iload 5, 2) := by decide +kernel
theorem dX11_operate_16 : decode cX11_operate 16 = .ok (.invokestatic 93, 3) := by decide +kernel
theorem dX11_operate_19 : decode cX11_operate 19 = .ok (.ifCond .ne 15, 3) := by decide +kernel
theorem dX11_operate_22 : decode cX11_operate 22 = .ok (.aload_n 0, 1) := by decide +kernel
theorem dX11_operate_23 : decode cX11_operate 23 = .ok (.getfield 22, 3) := by decide +kernel
theorem dX11_operate_26 : decode cX11_operate 26 = .ok (.iload_n 1, 1) := by decide +kernel
theorem dX11_operate_27 : decode cX11_operate 27 = .ok (.iload_n 2, 1) := by decide +kernel
theorem dX11_operate_28 : decode cX11_operate 28 = .ok (.iload_n 3, 1) := by decide +kernel
theorem dX11_operate_29 : decode cX11_operate 29 = .ok (.iload 4, 2) := by decide +kernel
theorem dX11_operate_31 : decode cX11_operate 31 = .ok (.invokevirtual 96, 3) := by decide +kernel
theorem dX11_operate_34 : decode cX11_operate 34 = .ok (.iload 5, 2) := by decide +kernel
theorem dX11_operate_36 : decode cX11_operate 36 = .ok (.ireturn, 1) := by decide +kernel
theorem dX11_isError_0 : decode cX11_isError 0 = .ok (.iload_n 0, 1) := by decide +kernel
theorem dX11_isError_1 : decode cX11_isError 1 = .ok (.ifCond .ge 19, 3) := by decide +kernel
theorem dX11_isError_4 : decode cX11_isError 4 = .ok (.iload_n 0, 1) := by decide +kernel
theorem dX11_isError_5 : decode cX11_isError 5 = .ok (.bipush (-8), 2) := by decide +kernel
theorem dX11_isError_7 : decode cX11_isError 7 = .ok (.if_icmp .eq 13, 3) := by decide +kernel
theorem dX11_isError_10 : decode cX11_isError 10 = .ok (.iload_n 0, 1) := by decide +kernel
theorem dX11_isError_11 : decode cX11_isError 11 = .ok (.bipush (-9), 2) := by decide +kernel
theorem dX11_isError_13 : decode cX11_isError 13 = .ok (.if_icmp .eq 7, 3) := by decide +kernel
theorem dX11_isError_16 : decode cX11_isError 16 = .ok (.iconst 1, 1) := by decide +kernel
theorem dX11_isError_17 : decode cX11_isError 17 = .ok (.goto 4, 3) := by decide +kernel
theorem dX11_isError_20 : decode cX11_isError 20 = .ok (.iconst 0, 1) := by decide +kernel
theorem dX11_isError_21 : decode cX11_isError 21 = .ok (.ireturn, 1) := by decide +kernel
theorem dX11_threads_0 : decode cX11_threads 0 = .ok (.aload_n 0, 1) := by decide +kernel
theorem dX11_threads_1 : decode cX11_threads 1 = .ok (.getfield 10, 3) := by decide +kernel
theorem dX11_threads_4 : decode cX11_threads 4 = .ok (.getfield 47, 3) := by decide +kernel
theorem dX11_threads_7 : decode cX11_threads 7 = .ok (.ireturn, 1) := by decide +kernel
theorem dX11_threadState_0 : decode cX11_threadState 0 = .ok (.aload_n 0, 1) := by decide +kernel
theorem dX11_threadState_1 : decode cX11_threadState 1 = .ok (.getfield 10, 3) := by decide +kernel
theorem dX11_threadState_4 : decode cX11_threadState 4 = .ok (.iload_n 1, 1) := by decide +kernel
theorem dX11_threadState_5 : decode cX11_threadState 5 = .ok (.invokevirtual 100, 3) := by decide +kernel
theorem dX11_threadState_8 : decode cX11_threadState 8 = .ok (.ifCond .ne 5, 3) := by decide +kernel
theorem dX11_threadState_11 : decode cX11_threadState 11 = .ok (.iconst (-1), 1) := by decide +kernel
theorem dX11_threadState_12 : decode cX11_threadState 12 = .ok (.ireturn, 1) := by decide +kernel
theorem dX11_threadState_13 : decode cX11_threadState 13 = .ok (.aload_n 0, 1) := by decide +kernel
theorem dX11_threadState_14 : decode cX11_threadState 14 = .ok (.getfield 10, 3) := by decide +kernel
theorem dX11_threadState_17 : decode cX11_threadState 17 = .ok (.getfield 103, 3) := by decide +kernel
theorem dX11_threadState_20 : decode cX11_threadState 20 = .ok (.iload_n 1, 1) := by decide +kernel
theorem dX11_threadState_21 : decode cX11_threadState 21 = .ok (.aaload, 1) := by decide +kernel
theorem dX11_threadState_22 : decode cX11_threadState 22 = .ok (.astore_n 2, 1) := by decide +kernel
theorem dX11_threadState_23 : decode cX11_threadState 23 = .ok (.aload_n 2, 1) := by decide +kernel
theorem dX11_threadState_24 : decode cX11_threadState 24 = .ok (.getfield 107, 3) := by decide +kernel
theorem dX11_threadState_27 : decode cX11_threadState 27 = .ok (.ifCond .eq 13, 3) := by decide +kernel
theorem dX11_threadState_30 : decode cX11_threadState 30 = .ok (.aload_n 2, 1) := by decide +kernel
theorem dX11_threadState_31 : decode cX11_threadState 31 = .ok (.getfield 113, 3) := by decide +kernel
theorem dX11_threadState_34 : decode cX11_threadState 34 = .ok (.bipush 10, 2) := by decide +kernel
theorem dX11_threadState_36 : decode cX11_threadState 36 = .ok (.iadd, 1) := by decide +kernel
theorem dX11_threadState_37 : decode cX11_threadState 37 = .ok (.goto 7, 3) := by decide +kernel
theorem dX11_threadState_40 : decode cX11_threadState 40 = .ok (.aload_n 2, 1) := by decide +kernel
theorem dX11_threadState_41 : decode cX11_threadState 41 = .ok (.getfield 113, 3) := by decide +kernel
theorem dX11_threadState_44 : decode cX11_threadState 44 = .ok (.ireturn, 1) := by decide +kernel
theorem dX11_threadAt_0 : decode cX11_threadAt 0 = .ok (.aload_n 0, 1) := by decide +kernel
theorem dX11_threadAt_1 : decode cX11_threadAt 1 = .ok (.getfield 10, 3) := by decide +kernel
theorem dX11_threadAt_4 : decode cX11_threadAt 4 = .ok (.iload_n 1, 1) := by decide +kernel
theorem dX11_threadAt_5 : decode cX11_threadAt 5 = .ok (.invokevirtual 100, 3) := by decide +kernel
theorem dX11_threadAt_8 : decode cX11_threadAt 8 = .ok (.ifCond .eq 18, 3) := by decide +kernel
theorem dX11_threadAt_11 : decode cX11_threadAt 11 = .ok (.aload_n 0, 1) := by decide +kernel
theorem dX11_threadAt_12 : decode cX11_threadAt 12 = .ok (.getfield 10, 3) := by decide +kernel
theorem dX11_threadAt_15 : decode cX11_threadAt 15 = .ok (.getfield 103, 3) := by decide +kernel
theorem dX11_threadAt_18 : decode cX11_threadAt 18 = .ok (.iload_n 1, 1) := by decide +kernel
theorem dX11_threadAt_19 : decode cX11_threadAt 19 = .ok (.aaload, 1) := by decide +kernel
theorem dX11_threadAt_20 : decode cX11_threadAt 20 = .ok (.getfield 116, 3) := by decide +kernel
theorem dX11_threadAt_23 : decode cX11_threadAt 23 = .ok (.goto 4, 3) := by decide +kernel
theorem dX11_threadAt_26 : decode cX11_threadAt 26 = .ok (.iconst (-1), 1) := by decide +kernel
theorem dX11_threadAt_27 : decode cX11_threadAt 27 = .ok (.ireturn, 1) := by decide +kernel
theorem dX11_held_0 : decode cX11_held 0 = .ok (.aload_n 0, 1) := by decide +kernel
theorem dX11_held_1 : decode cX11_held 1 = .ok (.getfield 10, 3) := by decide +kernel
theorem dX11_held_4 : decode cX11_held 4 = .ok (.iload_n 1, 1) := by decide +kernel
theorem dX11_held_5 : decode cX11_held 5 = .ok (.invokevirtual 100, 3) := by decide +kernel
theorem dX11_held_8 : decode cX11_held 8 = .ok (.ifCond .ne 5, 3) := by decide +kernel
theorem dX11_held_11 : decode cX11_held 11 = .ok (.iconst (-1), 1) := by decide +kernel
theorem dX11_held_12 : decode cX11_held 12 = .ok (.ireturn, 1) := by decide +kernel
theorem dX11_held_13 : decode cX11_held 13 = .ok (.iconst 0, 1) := by decide +kernel
theorem dX11_held_14 : decode cX11_held 14 = .ok (.istore_n 2, 1) := by decide +kernel
theorem dX11_held_15 : decode cX11_held 15 = .ok (.iconst 0, 1) := by decide +kernel
theorem dX11_held_16 : decode cX11_held 16 = .ok (.istore_n 3, 1) := by decide +kernel
theorem dX11_held_17 : decode cX11_held 17 = .ok (.iload_n 3, 1) := by decide +kernel
theorem dX11_held_18 : decode cX11_held 18 = .ok (.bipush 8, 2) := by decide +kernel
theorem dX11_held_20 : decode cX11_held 20 = .ok (.if_icmp .ge 31, 3) := by decide +kernel
theorem dX11_held_23 : decode cX11_held 23 = .ok (.aload_n 0, 1) := by decide +kernel
theorem dX11_held_24 : decode cX11_held 24 = .ok (.getfield 10, 3) := by decide +kernel
theorem dX11_held_27 : decode cX11_held 27 = .ok (.getfield 119, 3) := by decide +kernel
theorem dX11_held_30 : decode cX11_held 30 = .ok (.iload_n 3, 1) := by decide +kernel
theorem dX11_held_31 : decode cX11_held 31 = .ok (.aaload, 1) := by decide +kernel
theorem dX11_held_32 : decode cX11_held 32 = .ok (.iload_n 1, 1) := by decide +kernel
theorem dX11_held_33 : decode cX11_held 33 = .ok (.invokevirtual 123, 3) := by decide +kernel
theorem dX11_held_36 : decode cX11_held 36 = .ok (.ifCond .eq 9, 3) := by decide +kernel
theorem dX11_held_39 : decode cX11_held 39 = .ok (.iload_n 2, 1) := by decide +kernel
theorem dX11_held_40 : decode cX11_held 40 = .ok (.iconst 1, 1) := by decide +kernel
theorem dX11_held_41 : decode cX11_held 41 = .ok (.iload_n 3, 1) := by decide +kernel
theorem dX11_held_42 : decode cX11_held 42 = .ok (.ishl, 1) := by decide +kernel
theorem dX11_held_43 : decode cX11_held 43 = .ok (.ior, 1) := by decide +kernel
theorem dX11_held_44 : decode cX11_held 44 = .ok (.istore_n 2, 1) := by decide +kernel
theorem dX11_held_45 : decode cX11_held 45 = .ok (.iinc 3 1, 3) := by decide +kernel
theorem dX11_held_48 : decode cX11_held 48 = .ok (.goto (-31), 3) := by decide +kernel
theorem dX11_held_51 : decode cX11_held 51 = .ok (.iload_n 2, 1) := by decide +kernel
theorem dX11_held_52 : decode cX11_held 52 = .ok (.ireturn, 1) := by decide +kernel
theorem dX11_waitEnd_0 : decode cX11_waitEnd 0 = .ok (.aload_n 0, 1) := by decide +kernel
theorem dX11_waitEnd_1 : decode cX11_waitEnd 1 = .ok (.getfield 10, 3) := by decide +kernel
theorem dX11_waitEnd_4 : decode cX11_waitEnd 4 = .ok (.iload_n 1, 1) := by decide +kernel
theorem dX11_waitEnd_5 : decode cX11_waitEnd 5 = .ok (.invokevirtual 100, 3) := by decide +kernel
theorem dX11_waitEnd_8 : decode cX11_waitEnd 8 = .ok (.ifCond .eq 18, 3) := by decide +kernel
theorem dX11_waitEnd_11 : decode cX11_waitEnd 11 = .ok (.aload_n 0, 1) := by decide +kernel
theorem dX11_waitEnd_12 : decode cX11_waitEnd 12 = .ok (.getfield 10, 3) := by decide +kernel
theorem dX11_waitEnd_15 : decode cX11_waitEnd 15 = .ok (.getfield 103, 3) := by decide +kernel
theorem dX11_waitEnd_18 : decode cX11_waitEnd 18 = .ok (.iload_n 1, 1) := by decide +kernel
theorem dX11_waitEnd_19 : decode cX11_waitEnd 19 = .ok (.aaload, 1) := by decide +kernel
theorem dX11_waitEnd_20 : decode cX11_waitEnd 20 = .ok (.getfield 128, 3) := by decide +kernel
theorem dX11_waitEnd_23 : decode cX11_waitEnd 23 = .ok (.goto 4, 3) := by decide +kernel
theorem dX11_waitEnd_26 : decode cX11_waitEnd 26 = .ok (.iconst (-1), 1) := by decide +kernel
theorem dX11_waitEnd_27 : decode cX11_waitEnd 27 = .ok (.ireturn, 1) := by decide +kernel
theorem dX11_deadlocked_0 : decode cX11_deadlocked 0 = .ok (.iconst 0, 1) := by decide +kernel
theorem dX11_deadlocked_1 : decode cX11_deadlocked 1 = .ok (.istore_n 1, 1) := by decide +kernel
theorem dX11_deadlocked_2 : decode cX11_deadlocked 2 = .ok (.iconst 0, 1) := by decide +kernel
theorem dX11_deadlocked_3 : decode cX11_deadlocked 3 = .ok (.istore_n 2, 1) := by decide +kernel
theorem dX11_deadlocked_4 : decode cX11_deadlocked 4 = .ok (.iload_n 2, 1) := by decide +kernel
theorem dX11_deadlocked_5 : decode cX11_deadlocked 5 = .ok (.aload_n 0, 1) := by decide +kernel
theorem dX11_deadlocked_6 : decode cX11_deadlocked 6 = .ok (.getfield 10, 3) := by decide +kernel
theorem dX11_deadlocked_9 : decode cX11_deadlocked 9 = .ok (.getfield 47, 3) := by decide +kernel
theorem dX11_deadlocked_12 : decode cX11_deadlocked 12 = .ok (.if_icmp .ge 26, 3) := by decide +kernel
theorem dX11_deadlocked_15 : decode cX11_deadlocked 15 = .ok (.aload_n 0, 1) := by decide +kernel
theorem dX11_deadlocked_16 : decode cX11_deadlocked 16 = .ok (.getfield 10, 3) := by decide +kernel
theorem dX11_deadlocked_19 : decode cX11_deadlocked 19 = .ok (.iload_n 2, 1) := by decide +kernel
theorem dX11_deadlocked_20 : decode cX11_deadlocked 20 = .ok (.invokevirtual 131, 3) := by decide +kernel
theorem dX11_deadlocked_23 : decode cX11_deadlocked 23 = .ok (.ifCond .eq 9, 3) := by decide +kernel
theorem dX11_deadlocked_26 : decode cX11_deadlocked 26 = .ok (.iload_n 1, 1) := by decide +kernel
theorem dX11_deadlocked_27 : decode cX11_deadlocked 27 = .ok (.iconst 1, 1) := by decide +kernel
theorem dX11_deadlocked_28 : decode cX11_deadlocked 28 = .ok (.iload_n 2, 1) := by decide +kernel
theorem dX11_deadlocked_29 : decode cX11_deadlocked 29 = .ok (.ishl, 1) := by decide +kernel
theorem dX11_deadlocked_30 : decode cX11_deadlocked 30 = .ok (.ior, 1) := by decide +kernel
theorem dX11_deadlocked_31 : decode cX11_deadlocked 31 = .ok (.istore_n 1, 1) := by decide +kernel
theorem dX11_deadlocked_32 : decode cX11_deadlocked 32 = .ok (.iinc 2 1, 3) := by decide +kernel
theorem dX11_deadlocked_35 : decode cX11_deadlocked 35 = .ok (.goto (-31), 3) := by decide +kernel
theorem dX11_deadlocked_38 : decode cX11_deadlocked 38 = .ok (.iload_n 1, 1) := by decide +kernel
theorem dX11_deadlocked_39 : decode cX11_deadlocked 39 = .ok (.ireturn, 1) := by decide +kernel
theorem dX11_lockState_0 : decode cX11_lockState 0 = .ok (.iload_n 1, 1) := by decide +kernel
theorem dX11_lockState_1 : decode cX11_lockState 1 = .ok (.invokestatic 134, 3) := by decide +kernel
theorem dX11_lockState_4 : decode cX11_lockState 4 = .ok (.ifCond .ne 6, 3) := by decide +kernel
theorem dX11_lockState_7 : decode cX11_lockState 7 = .ok (.bipush (-2), 2) := by decide +kernel
theorem dX11_lockState_9 : decode cX11_lockState 9 = .ok (.ireturn, 1) := by decide +kernel
theorem dX11_lockState_10 : decode cX11_lockState 10 = .ok (.aload_n 0, 1) := by decide +kernel
theorem dX11_lockState_11 : decode cX11_lockState 11 = .ok (.getfield 10, 3) := by decide +kernel
theorem dX11_lockState_14 : decode cX11_lockState 14 = .ok (.getfield 119, 3) := by decide +kernel
theorem dX11_lockState_17 : decode cX11_lockState 17 = .ok (.iload_n 1, 1) := by decide +kernel
theorem dX11_lockState_18 : decode cX11_lockState 18 = .ok (.aaload, 1) := by decide +kernel
theorem dX11_lockState_19 : decode cX11_lockState 19 = .ok (.astore_n 2, 1) := by decide +kernel
theorem dX11_lockState_20 : decode cX11_lockState 20 = .ok (.aload_n 2, 1) := by decide +kernel
theorem dX11_lockState_21 : decode cX11_lockState 21 = .ok (.getfield 137, 3) := by decide +kernel
theorem dX11_lockState_24 : decode cX11_lockState 24 = .ok (.ifCond .eq 13, 3) := by decide +kernel
theorem dX11_lockState_27 : decode cX11_lockState 27 = .ok (.aload_n 2, 1) := by decide +kernel
theorem dX11_lockState_28 : decode cX11_lockState 28 = .ok (.getfield 140, 3) := by decide +kernel
theorem dX11_lockState_31 : decode cX11_lockState 31 = .ok (.bipush 10, 2) := by decide +kernel
theorem dX11_lockState_33 : decode cX11_lockState 33 = .ok (.iadd, 1) := by decide +kernel
theorem dX11_lockState_34 : decode cX11_lockState 34 = .ok (.goto 7, 3) := by decide +kernel
theorem dX11_lockState_37 : decode cX11_lockState 37 = .ok (.aload_n 2, 1) := by decide +kernel
theorem dX11_lockState_38 : decode cX11_lockState 38 = .ok (.getfield 140, 3) := by decide +kernel
theorem dX11_lockState_41 : decode cX11_lockState 41 = .ok (.ireturn, 1) := by decide +kernel
theorem dX11_owner_0 : decode cX11_owner 0 = .ok (.iload_n 1, 1) := by decide +kernel
theorem dX11_owner_1 : decode cX11_owner 1 = .ok (.invokestatic 134, 3) := by decide +kernel
theorem dX11_owner_4 : decode cX11_owner 4 = .ok (.ifCond .eq 18, 3) := by decide +kernel
theorem dX11_owner_7 : decode cX11_owner 7 = .ok (.aload_n 0, 1) := by decide +kernel
theorem dX11_owner_8 : decode cX11_owner 8 = .ok (.getfield 10, 3) := by decide +kernel
theorem dX11_owner_11 : decode cX11_owner 11 = .ok (.getfield 119, 3) := by decide +kernel
theorem dX11_owner_14 : decode cX11_owner 14 = .ok (.iload_n 1, 1) := by decide +kernel
theorem dX11_owner_15 : decode cX11_owner 15 = .ok (.aaload, 1) := by decide +kernel
theorem dX11_owner_16 : decode cX11_owner 16 = .ok (.getfield 141, 3) := by decide +kernel
theorem dX11_owner_19 : decode cX11_owner 19 = .ok (.goto 5, 3) := by decide +kernel
theorem dX11_owner_22 : decode cX11_owner 22 = .ok (.bipush (-2), 2) := by decide +kernel
theorem dX11_owner_24 : decode cX11_owner 24 = .ok (.ireturn, 1) := by decide +kernel
theorem dX11_count_0 : decode cX11_count 0 = .ok (.iload_n 1, 1) := by decide +kernel
theorem dX11_count_1 : decode cX11_count 1 = .ok (.invokestatic 134, 3) := by decide +kernel
theorem dX11_count_4 : decode cX11_count 4 = .ok (.ifCond .eq 18, 3) := by decide +kernel
theorem dX11_count_7 : decode cX11_count 7 = .ok (.aload_n 0, 1) := by decide +kernel
theorem dX11_count_8 : decode cX11_count 8 = .ok (.getfield 10, 3) := by decide +kernel
theorem dX11_count_11 : decode cX11_count 11 = .ok (.getfield 119, 3) := by decide +kernel
theorem dX11_count_14 : decode cX11_count 14 = .ok (.iload_n 1, 1) := by decide +kernel
theorem dX11_count_15 : decode cX11_count 15 = .ok (.aaload, 1) := by decide +kernel
theorem dX11_count_16 : decode cX11_count 16 = .ok (.getfield 144, 3) := by decide +kernel
theorem dX11_count_19 : decode cX11_count 19 = .ok (.goto 5, 3) := by decide +kernel
theorem dX11_count_22 : decode cX11_count 22 = .ok (.bipush (-2), 2) := by decide +kernel
theorem dX11_count_24 : decode cX11_count 24 = .ok (.ireturn, 1) := by decide +kernel
theorem dX11_bias_0 : decode cX11_bias 0 = .ok (.iload_n 1, 1) := by decide +kernel
theorem dX11_bias_1 : decode cX11_bias 1 = .ok (.invokestatic 134, 3) := by decide +kernel
theorem dX11_bias_4 : decode cX11_bias 4 = .ok (.ifCond .ne 6, 3) := by decide +kernel
theorem dX11_bias_7 : decode cX11_bias 7 = .ok (.bipush (-2), 2) := by decide +kernel
theorem dX11_bias_9 : decode cX11_bias 9 = .ok (.ireturn, 1) := by decide +kernel
theorem dX11_bias_10 : decode cX11_bias 10 = .ok (.aload_n 0, 1) := by decide +kernel
theorem dX11_bias_11 : decode cX11_bias 11 = .ok (.getfield 10, 3) := by decide +kernel
theorem dX11_bias_14 : decode cX11_bias 14 = .ok (.getfield 119, 3) := by decide +kernel
theorem dX11_bias_17 : decode cX11_bias 17 = .ok (.iload_n 1, 1) := by decide +kernel
theorem dX11_bias_18 : decode cX11_bias 18 = .ok (.aaload, 1) := by decide +kernel
theorem dX11_bias_19 : decode cX11_bias 19 = .ok (.astore_n 2, 1) := by decide +kernel
theorem dX11_bias_20 : decode cX11_bias 20 = .ok (.aload_n 2, 1) := by decide +kernel
theorem dX11_bias_21 : decode cX11_bias 21 = .ok (.getfield 140, 3) := by decide +kernel
theorem dX11_bias_24 : decode cX11_bias 24 = .ok (.iconst 2, 1) := by decide +kernel
theorem dX11_bias_25 : decode cX11_bias 25 = .ok (.if_icmp .eq 6, 3) := by decide +kernel
theorem dX11_bias_28 : decode cX11_bias 28 = .ok (.bipush (-8), 2) := by decide +kernel
theorem dX11_bias_30 : decode cX11_bias 30 = .ok (.ireturn, 1) := by decide +kernel
theorem dX11_bias_31 : decode cX11_bias 31 = .ok (.aload_n 0, 1) := by decide +kernel
theorem dX11_bias_32 : decode cX11_bias 32 = .ok (.getfield 10, 3) := by decide +kernel
theorem dX11_bias_35 : decode cX11_bias 35 = .ok (.aload_n 2, 1) := by decide +kernel
theorem dX11_bias_36 : decode cX11_bias 36 = .ok (.invokevirtual 147, 3) := by decide +kernel
theorem dX11_bias_39 : decode cX11_bias 39 = .ok (.ifCond .eq 10, 3) := by decide +kernel
theorem dX11_bias_42 : decode cX11_bias 42 = .ok (.aload_n 2, 1) := by decide +kernel
theorem dX11_bias_43 : decode cX11_bias 43 = .ok (.getfield 151, 3) := by decide +kernel
theorem dX11_bias_46 : decode cX11_bias 46 = .ok (.goto 10, 3) := by decide +kernel
theorem dX11_bias_49 : decode cX11_bias 49 = .ok (.aload_n 2, 1) := by decide +kernel
theorem dX11_bias_50 : decode cX11_bias 50 = .ok (.getfield 151, 3) := by decide +kernel
theorem dX11_bias_53 : decode cX11_bias 53 = .ok (.bipush 10, 2) := by decide +kernel
theorem dX11_bias_55 : decode cX11_bias 55 = .ok (.iadd, 1) := by decide +kernel
theorem dX11_bias_56 : decode cX11_bias 56 = .ok (.ireturn, 1) := by decide +kernel
theorem dX11_queued_0 : decode cX11_queued 0 = .ok (.iload_n 1, 1) := by decide +kernel
theorem dX11_queued_1 : decode cX11_queued 1 = .ok (.invokestatic 134, 3) := by decide +kernel
theorem dX11_queued_4 : decode cX11_queued 4 = .ok (.ifCond .ne 6, 3) := by decide +kernel
theorem dX11_queued_7 : decode cX11_queued 7 = .ok (.bipush (-2), 2) := by decide +kernel
theorem dX11_queued_9 : decode cX11_queued 9 = .ok (.ireturn, 1) := by decide +kernel
theorem dX11_queued_10 : decode cX11_queued 10 = .ok (.iload_n 2, 1) := by decide +kernel
theorem dX11_queued_11 : decode cX11_queued 11 = .ok (.ifCond .ge 8, 3) := by decide +kernel
theorem dX11_queued_14 : decode cX11_queued 14 = .ok (.bipush (-3), 2) := by decide +kernel
theorem dX11_queued_16 : decode cX11_queued 16 = .ok (.goto 19, 3) := by decide +kernel
theorem dX11_queued_19 : decode cX11_queued 19 = .ok (.aload_n 0, 1) := by decide +kernel
theorem dX11_queued_20 : decode cX11_queued 20 = .ok (.getfield 10, 3) := by decide +kernel
theorem dX11_queued_23 : decode cX11_queued 23 = .ok (.getfield 119, 3) := by decide +kernel
theorem dX11_queued_26 : decode cX11_queued 26 = .ok (.iload_n 1, 1) := by decide +kernel
theorem dX11_queued_27 : decode cX11_queued 27 = .ok (.aaload, 1) := by decide +kernel
theorem dX11_queued_28 : decode cX11_queued 28 = .ok (.getfield 154, 3) := by decide +kernel
theorem dX11_queued_31 : decode cX11_queued 31 = .ok (.iload_n 2, 1) := by decide +kernel
theorem dX11_queued_32 : decode cX11_queued 32 = .ok (.invokevirtual 158, 3) := by decide +kernel
theorem dX11_queued_35 : decode cX11_queued 35 = .ok (.ireturn, 1) := by decide +kernel
theorem dX11_waiting_0 : decode cX11_waiting 0 = .ok (.iload_n 1, 1) := by decide +kernel
theorem dX11_waiting_1 : decode cX11_waiting 1 = .ok (.invokestatic 134, 3) := by decide +kernel
theorem dX11_waiting_4 : decode cX11_waiting 4 = .ok (.ifCond .ne 6, 3) := by decide +kernel
theorem dX11_waiting_7 : decode cX11_waiting 7 = .ok (.bipush (-2), 2) := by decide +kernel
theorem dX11_waiting_9 : decode cX11_waiting 9 = .ok (.ireturn, 1) := by decide +kernel
theorem dX11_waiting_10 : decode cX11_waiting 10 = .ok (.iload_n 2, 1) := by decide +kernel
theorem dX11_waiting_11 : decode cX11_waiting 11 = .ok (.ifCond .ge 8, 3) := by decide +kernel
theorem dX11_waiting_14 : decode cX11_waiting 14 = .ok (.bipush (-3), 2) := by decide +kernel
theorem dX11_waiting_16 : decode cX11_waiting 16 = .ok (.goto 19, 3) := by decide +kernel
theorem dX11_waiting_19 : decode cX11_waiting 19 = .ok (.aload_n 0, 1) := by decide +kernel
theorem dX11_waiting_20 : decode cX11_waiting 20 = .ok (.getfield 10, 3) := by decide +kernel
theorem dX11_waiting_23 : decode cX11_waiting 23 = .ok (.getfield 119, 3) := by decide +kernel
theorem dX11_waiting_26 : decode cX11_waiting 26 = .ok (.iload_n 1, 1) := by decide +kernel
theorem dX11_waiting_27 : decode cX11_waiting 27 = .ok (.aaload, 1) := by decide +kernel
theorem dX11_waiting_28 : decode cX11_waiting 28 = .ok (.getfield 163, 3) := by decide +kernel
theorem dX11_waiting_31 : decode cX11_waiting 31 = .ok (.iload_n 2, 1) := by decide +kernel
theorem dX11_waiting_32 : decode cX11_waiting 32 = .ok (.invokevirtual 158, 3) := by decide +kernel
theorem dX11_waiting_35 : decode cX11_waiting 35 = .ok (.ireturn, 1) := by decide +kernel
theorem dX11_describe_0 : decode cX11_describe 0 = .ok (.iload_n 1, 1) := by decide +kernel
theorem dX11_describe_1 : decode cX11_describe 1 = .ok (.invokestatic 134, 3) := by decide +kernel
theorem dX11_describe_4 : decode cX11_describe 4 = .ok (.ifCond .ne 6, 3) := by decide +kernel
theorem dX11_describe_7 : decode cX11_describe 7 = .ok (.bipush (-2), 2) := by decide +kernel
theorem dX11_describe_9 : decode cX11_describe 9 = .ok (.ireturn, 1) := by decide +kernel
theorem dX11_describe_10 : decode cX11_describe 10 = .ok (.iload_n 2, 1) := by decide +kernel
theorem dX11_describe_11 : decode cX11_describe 11 = .ok (.ifCond .ge 6, 3) := by decide +kernel
theorem dX11_describe_14 : decode cX11_describe 14 = .ok (.bipush (-3), 2) := by decide +kernel
theorem dX11_describe_16 : decode cX11_describe 16 = .ok (.ireturn, 1) := by decide +kernel
theorem dX11_describe_17 : decode cX11_describe 17 = .ok (.aload_n 0, 1) := by decide +kernel
theorem dX11_describe_18 : decode cX11_describe 18 = .ok (.getfield 10, 3) := by decide +kernel
theorem dX11_describe_21 : decode cX11_describe 21 = .ok (.getfield 119, 3) := by decide +kernel
theorem dX11_describe_24 : decode cX11_describe 24 = .ok (.iload_n 1, 1) := by decide +kernel
theorem dX11_describe_25 : decode cX11_describe 25 = .ok (.aaload, 1) := by decide +kernel
theorem dX11_describe_26 : decode cX11_describe 26 = .ok (.astore_n 3, 1) := by decide +kernel
theorem dX11_describe_27 : decode cX11_describe 27 = .ok (.aload_n 0, 1) := by decide +kernel
theorem dX11_describe_28 : decode cX11_describe 28 = .ok (.getfield 42, 3) := by decide +kernel
theorem dX11_describe_31 : decode cX11_describe 31 = .ok (.iconst 0, 1) := by decide +kernel
theorem dX11_describe_32 : decode cX11_describe 32 = .ok (.invokevirtual 166, 3) := by decide +kernel
theorem dX11_describe_35 : decode cX11_describe 35 = .ok (.aload_n 3, 1) := by decide +kernel
theorem dX11_describe_36 : decode cX11_describe 36 = .ok (.aload_n 0, 1) := by decide +kernel
theorem dX11_describe_37 : decode cX11_describe 37 = .ok (.getfield 42, 3) := by decide +kernel
theorem dX11_describe_40 : decode cX11_describe 40 = .ok (.aload_n 0, 1) := by decide +kernel
theorem dX11_describe_41 : decode cX11_describe 41 = .ok (.getfield 10, 3) := by decide +kernel
theorem dX11_describe_44 : decode cX11_describe 44 = .ok (.aload_n 3, 1) := by decide +kernel
theorem dX11_describe_45 : decode cX11_describe 45 = .ok (.invokevirtual 147, 3) := by decide +kernel
theorem dX11_describe_48 : decode cX11_describe 48 = .ok (.invokevirtual 169, 3) := by decide +kernel
theorem dX11_describe_51 : decode cX11_describe 51 = .ok (.iload_n 2, 1) := by decide +kernel
theorem dX11_describe_52 : decode cX11_describe 52 = .ok (.aload_n 0, 1) := by decide +kernel
theorem dX11_describe_53 : decode cX11_describe 53 = .ok (.getfield 42, 3) := by decide +kernel
theorem dX11_describe_56 : decode cX11_describe 56 = .ok (.invokevirtual 173, 3) := by decide +kernel
theorem dX11_describe_59 : decode cX11_describe 59 = .ok (.if_icmp .lt 6, 3) := by decide +kernel
theorem dX11_describe_62 : decode cX11_describe 62 = .ok (.bipush (-8), 2) := by decide +kernel
theorem dX11_describe_64 : decode cX11_describe 64 = .ok (.ireturn, 1) := by decide +kernel
theorem dX11_describe_65 : decode cX11_describe 65 = .ok (.aload_n 0, 1) := by decide +kernel
theorem dX11_describe_66 : decode cX11_describe 66 = .ok (.getfield 42, 3) := by decide +kernel
theorem dX11_describe_69 : decode cX11_describe 69 = .ok (.iload_n 2, 1) := by decide +kernel
theorem dX11_describe_70 : decode cX11_describe 70 = .ok (.invokevirtual 176, 3) := by decide +kernel
theorem dX11_describe_73 : decode cX11_describe 73 = .ok (.ireturn, 1) := by decide +kernel
theorem dX11_isObject_0 : decode cX11_isObject 0 = .ok (.iload_n 0, 1) := by decide +kernel
theorem dX11_isObject_1 : decode cX11_isObject 1 = .ok (.ifCond .lt 13, 3) := by decide +kernel
theorem dX11_isObject_4 : decode cX11_isObject 4 = .ok (.iload_n 0, 1) := by decide +kernel
theorem dX11_isObject_5 : decode cX11_isObject 5 = .ok (.bipush 8, 2) := by decide +kernel
theorem dX11_isObject_7 : decode cX11_isObject 7 = .ok (.if_icmp .ge 7, 3) := by decide +kernel
theorem dX11_isObject_10 : decode cX11_isObject 10 = .ok (.iconst 1, 1) := by decide +kernel
theorem dX11_isObject_11 : decode cX11_isObject 11 = .ok (.goto 4, 3) := by decide +kernel
theorem dX11_isObject_14 : decode cX11_isObject 14 = .ok (.iconst 0, 1) := by decide +kernel
theorem dX11_isObject_15 : decode cX11_isObject 15 = .ok (.ireturn, 1) := by decide +kernel
theorem dX11_type_0 : decode cX11_type 0 = .ok (.iload_n 1, 1) := by decide +kernel
theorem dX11_type_1 : decode cX11_type 1 = .ok (.ifCond .lt 8, 3) := by decide +kernel
theorem dX11_type_4 : decode cX11_type 4 = .ok (.iload_n 1, 1) := by decide +kernel
theorem dX11_type_5 : decode cX11_type 5 = .ok (.iconst 3, 1) := by decide +kernel
theorem dX11_type_6 : decode cX11_type 6 = .ok (.if_icmp .lt 6, 3) := by decide +kernel
theorem dX11_type_9 : decode cX11_type 9 = .ok (.bipush (-3), 2) := by decide +kernel
theorem dX11_type_11 : decode cX11_type 11 = .ok (.ireturn, 1) := by decide +kernel
theorem dX11_type_12 : decode cX11_type 12 = .ok (.aload_n 0, 1) := by decide +kernel
theorem dX11_type_13 : decode cX11_type 13 = .ok (.getfield 10, 3) := by decide +kernel
theorem dX11_type_16 : decode cX11_type 16 = .ok (.getfield 180, 3) := by decide +kernel
theorem dX11_type_19 : decode cX11_type 19 = .ok (.iload_n 1, 1) := by decide +kernel
theorem dX11_type_20 : decode cX11_type 20 = .ok (.aaload, 1) := by decide +kernel
theorem dX11_type_21 : decode cX11_type 21 = .ok (.astore_n 3, 1) := by decide +kernel
theorem dX11_type_22 : decode cX11_type 22 = .ok (.iload_n 2, 1) := by decide +kernel
theorem dX11_type_23 : decode cX11_type 23 = .ok (.tableswitch 48 0 2 #[25, 30, 35], 25) := by decide +kernel
theorem dX11_type_48 : decode cX11_type 48 = .ok (.aload_n 3, 1) := by decide +kernel
theorem dX11_type_49 : decode cX11_type 49 = .ok (.getfield 184, 3) := by decide +kernel
theorem dX11_type_52 : decode cX11_type 52 = .ok (.ireturn, 1) := by decide +kernel
theorem dX11_type_53 : decode cX11_type 53 = .ok (.aload_n 3, 1) := by decide +kernel
theorem dX11_type_54 : decode cX11_type 54 = .ok (.getfield 189, 3) := by decide +kernel
theorem dX11_type_57 : decode cX11_type 57 = .ok (.ireturn, 1) := by decide +kernel
theorem dX11_type_58 : decode cX11_type 58 = .ok (.aload_n 3, 1) := by decide +kernel
theorem dX11_type_59 : decode cX11_type 59 = .ok (.getfield 192, 3) := by decide +kernel
theorem dX11_type_62 : decode cX11_type 62 = .ok (.ifCond .eq 7, 3) := by decide +kernel
theorem dX11_type_65 : decode cX11_type 65 = .ok (.iconst 1, 1) := by decide +kernel
theorem dX11_type_66 : decode cX11_type 66 = .ok (.goto 4, 3) := by decide +kernel
theorem dX11_type_69 : decode cX11_type 69 = .ok (.iconst 0, 1) := by decide +kernel
theorem dX11_type_70 : decode cX11_type 70 = .ok (.ireturn, 1) := by decide +kernel
theorem dX11_type_71 : decode cX11_type 71 = .ok (.bipush (-3), 2) := by decide +kernel
theorem dX11_type_73 : decode cX11_type 73 = .ok (.ireturn, 1) := by decide +kernel
theorem dX11_time_0 : decode cX11_time 0 = .ok (.aload_n 0, 1) := by decide +kernel
theorem dX11_time_1 : decode cX11_time 1 = .ok (.getfield 10, 3) := by decide +kernel
theorem dX11_time_4 : decode cX11_time 4 = .ok (.getfield 195, 3) := by decide +kernel
theorem dX11_time_7 : decode cX11_time 7 = .ok (.ireturn, 1) := by decide +kernel
theorem dX11_monitors_0 : decode cX11_monitors 0 = .ok (.aload_n 0, 1) := by decide +kernel
theorem dX11_monitors_1 : decode cX11_monitors 1 = .ok (.getfield 10, 3) := by decide +kernel
theorem dX11_monitors_4 : decode cX11_monitors 4 = .ok (.invokevirtual 64, 3) := by decide +kernel
theorem dX11_monitors_7 : decode cX11_monitors 7 = .ok (.ireturn, 1) := by decide +kernel
theorem dX11_counted_0 : decode cX11_counted 0 = .ok (.iload_n 1, 1) := by decide +kernel
theorem dX11_counted_1 : decode cX11_counted 1 = .ok (.ifCond .lt 9, 3) := by decide +kernel
theorem dX11_counted_4 : decode cX11_counted 4 = .ok (.iload_n 1, 1) := by decide +kernel
theorem dX11_counted_5 : decode cX11_counted 5 = .ok (.bipush 9, 2) := by decide +kernel
theorem dX11_counted_7 : decode cX11_counted 7 = .ok (.if_icmp .lt 8, 3) := by decide +kernel
theorem dX11_counted_10 : decode cX11_counted 10 = .ok (.bipush (-3), 2) := by decide +kernel
theorem dX11_counted_12 : decode cX11_counted 12 = .ok (.goto 12, 3) := by decide +kernel
theorem dX11_counted_15 : decode cX11_counted 15 = .ok (.aload_n 0, 1) := by decide +kernel
theorem dX11_counted_16 : decode cX11_counted 16 = .ok (.getfield 10, 3) := by decide +kernel
theorem dX11_counted_19 : decode cX11_counted 19 = .ok (.getfield 200, 3) := by decide +kernel
theorem dX11_counted_22 : decode cX11_counted 22 = .ok (.iload_n 1, 1) := by decide +kernel
theorem dX11_counted_23 : decode cX11_counted 23 = .ok (.iaload, 1) := by decide +kernel
theorem dX11_counted_24 : decode cX11_counted 24 = .ok (.ireturn, 1) := by decide +kernel
theorem dX11_cost_0 : decode cX11_cost 0 = .ok (.aload_n 0, 1) := by decide +kernel
theorem dX11_cost_1 : decode cX11_cost 1 = .ok (.getfield 10, 3) := by decide +kernel
theorem dX11_cost_4 : decode cX11_cost 4 = .ok (.getfield 200, 3) := by decide +kernel
theorem dX11_cost_7 : decode cX11_cost 7 = .ok (.invokestatic 204, 3) := by decide +kernel
theorem dX11_cost_10 : decode cX11_cost 10 = .ok (.ireturn, 1) := by decide +kernel
theorem dX11_recorded_0 : decode cX11_recorded 0 = .ok (.aload_n 0, 1) := by decide +kernel
theorem dX11_recorded_1 : decode cX11_recorded 1 = .ok (.getfield 22, 3) := by decide +kernel
theorem dX11_recorded_4 : decode cX11_recorded 4 = .ok (.getfield 208, 3) := by decide +kernel
theorem dX11_recorded_7 : decode cX11_recorded 7 = .ok (.ireturn, 1) := by decide +kernel
theorem dX11_replayCost_0 : decode cX11_replayCost 0 = .ok (.iload_n 1, 1) := by decide +kernel
theorem dX11_replayCost_1 : decode cX11_replayCost 1 = .ok (.iload_n 2, 1) := by decide +kernel
theorem dX11_replayCost_2 : decode cX11_replayCost 2 = .ok (.invokestatic 58, 3) := by decide +kernel
theorem dX11_replayCost_5 : decode cX11_replayCost 5 = .ok (.ifCond .eq 12, 3) := by decide +kernel
theorem dX11_replayCost_8 : decode cX11_replayCost 8 = .ok (.aload_n 0, 1) := by decide +kernel
theorem dX11_replayCost_9 : decode cX11_replayCost 9 = .ok (.iload_n 1, 1) := by decide +kernel
theorem dX11_replayCost_10 : decode cX11_replayCost 10 = .ok (.iload_n 2, 1) := by decide +kernel
theorem dX11_replayCost_11 : decode cX11_replayCost 11 = .ok (.invokevirtual 211, 3) := by decide +kernel
theorem dX11_replayCost_14 : decode cX11_replayCost 14 = .ok (.goto 5, 3) := by decide +kernel
theorem dX11_replayCost_17 : decode cX11_replayCost 17 = .ok (.bipush (-3), 2) := by decide +kernel
theorem dX11_replayCost_19 : decode cX11_replayCost 19 = .ok (.ireturn, 1) := by decide +kernel
theorem dX11_bestValue_0 : decode cX11_bestValue 0 = .ok (.iload_n 1, 1) := by decide +kernel
theorem dX11_bestValue_1 : decode cX11_bestValue 1 = .ok (.invokestatic 80, 3) := by decide +kernel
theorem dX11_bestValue_4 : decode cX11_bestValue 4 = .ok (.ifCond .ne 6, 3) := by decide +kernel
theorem dX11_bestValue_7 : decode cX11_bestValue 7 = .ok (.bipush (-3), 2) := by decide +kernel
theorem dX11_bestValue_9 : decode cX11_bestValue 9 = .ok (.ireturn, 1) := by decide +kernel
theorem dX11_bestValue_10 : decode cX11_bestValue 10 = .ok (.iload_n 1, 1) := by decide +kernel
theorem dX11_bestValue_11 : decode cX11_bestValue 11 = .ok (.invokestatic 215, 3) := by decide +kernel
theorem dX11_bestValue_14 : decode cX11_bestValue 14 = .ok (.istore_n 2, 1) := by decide +kernel
theorem dX11_bestValue_15 : decode cX11_bestValue 15 = .ok (.aload_n 0, 1) := by decide +kernel
theorem dX11_bestValue_16 : decode cX11_bestValue 16 = .ok (.iload_n 1, 1) := by decide +kernel
theorem dX11_bestValue_17 : decode cX11_bestValue 17 = .ok (.iload_n 2, 1) := by decide +kernel
theorem dX11_bestValue_18 : decode cX11_bestValue 18 = .ok (.invokevirtual 211, 3) := by decide +kernel
theorem dX11_bestValue_21 : decode cX11_bestValue 21 = .ok (.istore_n 3, 1) := by decide +kernel
theorem dX11_bestValue_22 : decode cX11_bestValue 22 = .ok (.iload_n 2, 1) := by decide +kernel
theorem dX11_bestValue_23 : decode cX11_bestValue 23 = .ok (.iconst 1, 1) := by decide +kernel
theorem dX11_bestValue_24 : decode cX11_bestValue 24 = .ok (.iadd, 1) := by decide +kernel
theorem dX11_bestValue_25 : decode cX11_bestValue 25 = .ok (.istore 4, 2) := by decide +kernel
theorem dX11_bestValue_27 : decode cX11_bestValue 27 = .ok (.iload 4, 2) := by decide +kernel
theorem dX11_bestValue_29 : decode cX11_bestValue 29 = .ok (.iload_n 1, 1) := by decide +kernel
theorem dX11_bestValue_30 : decode cX11_bestValue 30 = .ok (.invokestatic 218, 3) := by decide +kernel
theorem dX11_bestValue_33 : decode cX11_bestValue 33 = .ok (.if_icmp .gt 30, 3) := by decide +kernel
theorem dX11_bestValue_36 : decode cX11_bestValue 36 = .ok (.aload_n 0, 1) := by decide +kernel
theorem dX11_bestValue_37 : decode cX11_bestValue 37 = .ok (.iload_n 1, 1) := by decide +kernel
theorem dX11_bestValue_38 : decode cX11_bestValue 38 = .ok (.iload 4, 2) := by decide +kernel
theorem dX11_bestValue_40 : decode cX11_bestValue 40 = .ok (.invokevirtual 211, 3) := by decide +kernel
theorem dX11_bestValue_43 : decode cX11_bestValue 43 = .ok (.istore 5, 2) := by decide +kernel
theorem dX11_bestValue_45 : decode cX11_bestValue 45 = .ok (.iload 5, 2) := by decide +kernel
theorem dX11_bestValue_47 : decode cX11_bestValue 47 = .ok (.iload_n 3, 1) := by decide +kernel
theorem dX11_bestValue_48 : decode cX11_bestValue 48 = .ok (.if_icmp .ge 9, 3) := by decide +kernel
theorem dX11_bestValue_51 : decode cX11_bestValue 51 = .ok (.iload 4, 2) := by decide +kernel
theorem dX11_bestValue_53 : decode cX11_bestValue 53 = .ok (.istore_n 2, 1) := by decide +kernel
theorem dX11_bestValue_54 : decode cX11_bestValue 54 = .ok (.iload 5, 2) := by decide +kernel
theorem dX11_bestValue_56 : decode cX11_bestValue 56 = .ok (.istore_n 3, 1) := by decide +kernel
theorem dX11_bestValue_57 : decode cX11_bestValue 57 = .ok (.iinc 4 1, 3) := by decide +kernel
theorem dX11_bestValue_60 : decode cX11_bestValue 60 = .ok (.goto (-33), 3) := by decide +kernel
theorem dX11_bestValue_63 : decode cX11_bestValue 63 = .ok (.iload_n 2, 1) := by decide +kernel
theorem dX11_bestValue_64 : decode cX11_bestValue 64 = .ok (.ireturn, 1) := by decide +kernel
theorem dX11_costWith_0 : decode cX11_costWith 0 = .ok (.aload_n 0, 1) := by decide +kernel
theorem dX11_costWith_1 : decode cX11_costWith 1 = .ok (.getfield 16, 3) := by decide +kernel
theorem dX11_costWith_4 : decode cX11_costWith 4 = .ok (.getfield 68, 3) := by decide +kernel
theorem dX11_costWith_7 : decode cX11_costWith 7 = .ok (.aload_n 0, 1) := by decide +kernel
theorem dX11_costWith_8 : decode cX11_costWith 8 = .ok (.getfield 10, 3) := by decide +kernel
theorem dX11_costWith_11 : decode cX11_costWith 11 = .ok (.getfield 68, 3) := by decide +kernel
theorem dX11_costWith_14 : decode cX11_costWith 14 = .ok (.invokevirtual 221, 3) := by decide +kernel
theorem dX11_costWith_17 : decode cX11_costWith 17 = .ok (.aload_n 0, 1) := by decide +kernel
theorem dX11_costWith_18 : decode cX11_costWith 18 = .ok (.getfield 16, 3) := by decide +kernel
theorem dX11_costWith_21 : decode cX11_costWith 21 = .ok (.getfield 68, 3) := by decide +kernel
theorem dX11_costWith_24 : decode cX11_costWith 24 = .ok (.iload_n 1, 1) := by decide +kernel
theorem dX11_costWith_25 : decode cX11_costWith 25 = .ok (.iload_n 2, 1) := by decide +kernel
theorem dX11_costWith_26 : decode cX11_costWith 26 = .ok (.invokevirtual 76, 3) := by decide +kernel
theorem dX11_costWith_29 : decode cX11_costWith 29 = .ok (.aload_n 0, 1) := by decide +kernel
theorem dX11_costWith_30 : decode cX11_costWith 30 = .ok (.getfield 16, 3) := by decide +kernel
theorem dX11_costWith_33 : decode cX11_costWith 33 = .ok (.aload_n 0, 1) := by decide +kernel
theorem dX11_costWith_34 : decode cX11_costWith 34 = .ok (.getfield 10, 3) := by decide +kernel
theorem dX11_costWith_37 : decode cX11_costWith 37 = .ok (.getfield 47, 3) := by decide +kernel
theorem dX11_costWith_40 : decode cX11_costWith 40 = .ok (.invokevirtual 51, 3) := by decide +kernel
theorem dX11_costWith_43 : decode cX11_costWith 43 = .ok (.iconst 0, 1) := by decide +kernel
theorem dX11_costWith_44 : decode cX11_costWith 44 = .ok (.istore_n 3, 1) := by decide +kernel
theorem dX11_costWith_45 : decode cX11_costWith 45 = .ok (.iload_n 3, 1) := by decide +kernel
theorem dX11_costWith_46 : decode cX11_costWith 46 = .ok (.aload_n 0, 1) := by decide +kernel
theorem dX11_costWith_47 : decode cX11_costWith 47 = .ok (.getfield 22, 3) := by decide +kernel
theorem dX11_costWith_50 : decode cX11_costWith 50 = .ok (.getfield 208, 3) := by decide +kernel
theorem dX11_costWith_53 : decode cX11_costWith 53 = .ok (.if_icmp .ge 53, 3) := by decide +kernel
theorem dX11_costWith_56 : decode cX11_costWith 56 = .ok (.aload_n 0, 1) := by decide +kernel
theorem dX11_costWith_57 : decode cX11_costWith 57 = .ok (.getfield 16, 3) := by decide +kernel
theorem dX11_costWith_60 : decode cX11_costWith 60 = .ok (.aload_n 0, 1) := by decide +kernel
theorem dX11_costWith_61 : decode cX11_costWith 61 = .ok (.getfield 22, 3) := by decide +kernel
theorem dX11_costWith_64 : decode cX11_costWith 64 = .ok (.getfield 225, 3) := by decide +kernel
theorem dX11_costWith_67 : decode cX11_costWith 67 = .ok (.iload_n 3, 1) := by decide +kernel
theorem dX11_costWith_68 : decode cX11_costWith 68 = .ok (.iaload, 1) := by decide +kernel
theorem dX11_costWith_69 : decode cX11_costWith 69 = .ok (.aload_n 0, 1) := by decide +kernel
theorem dX11_costWith_70 : decode cX11_costWith 70 = .ok (.getfield 22, 3) := by decide +kernel
theorem dX11_costWith_73 : decode cX11_costWith 73 = .ok (.getfield 228, 3) := by decide +kernel
theorem dX11_costWith_76 : decode cX11_costWith 76 = .ok (.iload_n 3, 1) := by decide +kernel
theorem dX11_costWith_77 : decode cX11_costWith 77 = .ok (.iaload, 1) := by decide +kernel
theorem dX11_costWith_78 : decode cX11_costWith 78 = .ok (.aload_n 0, 1) := by decide +kernel
theorem dX11_costWith_79 : decode cX11_costWith 79 = .ok (.getfield 22, 3) := by decide +kernel
theorem dX11_costWith_82 : decode cX11_costWith 82 = .ok (.getfield 231, 3) := by decide +kernel
theorem dX11_costWith_85 : decode cX11_costWith 85 = .ok (.iload_n 3, 1) := by decide +kernel
theorem dX11_costWith_86 : decode cX11_costWith 86 = .ok (.iaload, 1) := by decide +kernel
theorem dX11_costWith_87 : decode cX11_costWith 87 = .ok (.aload_n 0, 1) := by decide +kernel
theorem dX11_costWith_88 : decode cX11_costWith 88 = .ok (.getfield 22, 3) := by decide +kernel
theorem dX11_costWith_91 : decode cX11_costWith 91 = .ok (.getfield 234, 3) := by decide +kernel
theorem dX11_costWith_94 : decode cX11_costWith 94 = .ok (.iload_n 3, 1) := by decide +kernel
theorem dX11_costWith_95 : decode cX11_costWith 95 = .ok (.iaload, 1) := by decide +kernel
theorem dX11_costWith_96 : decode cX11_costWith 96 = .ok (.invokevirtual 90, 3) := by decide +kernel
theorem dX11_costWith_99 : decode cX11_costWith 99 = .ok (.pop, 1) := by decide +kernel
theorem dX11_costWith_100 : decode cX11_costWith 100 = .ok (.iinc 3 1, 3) := by decide +kernel
theorem dX11_costWith_103 : decode cX11_costWith 103 = .ok (.goto (-58), 3) := by decide +kernel
theorem dX11_costWith_106 : decode cX11_costWith 106 = .ok (.aload_n 0, 1) := by decide +kernel
theorem dX11_costWith_107 : decode cX11_costWith 107 = .ok (.getfield 16, 3) := by decide +kernel
theorem dX11_costWith_110 : decode cX11_costWith 110 = .ok (.getfield 200, 3) := by decide +kernel
theorem dX11_costWith_113 : decode cX11_costWith 113 = .ok (.invokestatic 204, 3) := by decide +kernel
theorem dX11_costWith_116 : decode cX11_costWith 116 = .ok (.ireturn, 1) := by decide +kernel
theorem dX11_write_0 : decode cX11_write 0 = .ok (.iload_n 1, 1) := by decide +kernel
theorem dX11_write_1 : decode cX11_write 1 = .ok (.bipush 32, 2) := by decide +kernel
theorem dX11_write_3 : decode cX11_write 3 = .ok (.if_icmp .lt 9, 3) := by decide +kernel
theorem dX11_write_6 : decode cX11_write 6 = .ok (.iload_n 1, 1) := by decide +kernel
theorem dX11_write_7 : decode cX11_write 7 = .ok (.bipush 126, 2) := by decide +kernel
theorem dX11_write_9 : decode cX11_write 9 = .ok (.if_icmp .le 6, 3) := by decide +kernel
theorem dX11_write_12 : decode cX11_write 12 = .ok (.bipush (-3), 2) := by decide +kernel
theorem dX11_write_14 : decode cX11_write 14 = .ok (.ireturn, 1) := by decide +kernel
theorem dX11_write_15 : decode cX11_write 15 = .ok (.aload_n 0, 1) := by decide +kernel
theorem dX11_write_16 : decode cX11_write 16 = .ok (.getfield 29, 3) := by decide +kernel
theorem dX11_write_19 : decode cX11_write 19 = .ok (.iload_n 1, 1) := by decide +kernel
theorem dX11_write_20 : decode cX11_write 20 = .ok (.invokevirtual 237, 3) := by decide +kernel
theorem dX11_write_23 : decode cX11_write 23 = .ok (.ifCond .eq 13, 3) := by decide +kernel
theorem dX11_write_26 : decode cX11_write 26 = .ok (.aload_n 0, 1) := by decide +kernel
theorem dX11_write_27 : decode cX11_write 27 = .ok (.getfield 29, 3) := by decide +kernel
theorem dX11_write_30 : decode cX11_write 30 = .ok (.getfield 240, 3) := by decide +kernel
theorem dX11_write_33 : decode cX11_write 33 = .ok (.goto 5, 3) := by decide +kernel
theorem dX11_write_36 : decode cX11_write 36 = .ok (.bipush (-6), 2) := by decide +kernel
theorem dX11_write_38 : decode cX11_write 38 = .ok (.ireturn, 1) := by decide +kernel
theorem dX11_wipe_0 : decode cX11_wipe 0 = .ok (.aload_n 0, 1) := by decide +kernel
theorem dX11_wipe_1 : decode cX11_wipe 1 = .ok (.getfield 29, 3) := by decide +kernel
theorem dX11_wipe_4 : decode cX11_wipe 4 = .ok (.getfield 240, 3) := by decide +kernel
theorem dX11_wipe_7 : decode cX11_wipe 7 = .ok (.istore_n 1, 1) := by decide +kernel
theorem dX11_wipe_8 : decode cX11_wipe 8 = .ok (.aload_n 0, 1) := by decide +kernel
theorem dX11_wipe_9 : decode cX11_wipe 9 = .ok (.getfield 29, 3) := by decide +kernel
theorem dX11_wipe_12 : decode cX11_wipe 12 = .ok (.iconst 0, 1) := by decide +kernel
theorem dX11_wipe_13 : decode cX11_wipe 13 = .ok (.putfield 240, 3) := by decide +kernel
theorem dX11_wipe_16 : decode cX11_wipe 16 = .ok (.iload_n 1, 1) := by decide +kernel
theorem dX11_wipe_17 : decode cX11_wipe 17 = .ok (.ireturn, 1) := by decide +kernel
theorem dX11_fault_0 : decode cX11_fault 0 = .ok (.aload_n 0, 1) := by decide +kernel
theorem dX11_fault_1 : decode cX11_fault 1 = .ok (.getfield 29, 3) := by decide +kernel
theorem dX11_fault_4 : decode cX11_fault 4 = .ok (.invokevirtual 242, 3) := by decide +kernel
theorem dX11_fault_7 : decode cX11_fault 7 = .ok (.ireturn, 1) := by decide +kernel
theorem dX11_run_0 : decode cX11_run 0 = .ok (.aload_n 0, 1) := by decide +kernel
theorem dX11_run_1 : decode cX11_run 1 = .ok (.getfield 29, 3) := by decide +kernel
theorem dX11_run_4 : decode cX11_run 4 = .ok (.invokevirtual 242, 3) := by decide +kernel
theorem dX11_run_7 : decode cX11_run 7 = .ok (.bipush (-8), 2) := by decide +kernel
theorem dX11_run_9 : decode cX11_run 9 = .ok (.if_icmp .eq 6, 3) := by decide +kernel
theorem dX11_run_12 : decode cX11_run 12 = .ok (.bipush (-7), 2) := by decide +kernel
theorem dX11_run_14 : decode cX11_run 14 = .ok (.ireturn, 1) := by decide +kernel
theorem dX11_run_15 : decode cX11_run 15 = .ok (.iconst 0, 1) := by decide +kernel
theorem dX11_run_16 : decode cX11_run 16 = .ok (.istore_n 1, 1) := by decide +kernel
theorem dX11_run_17 : decode cX11_run 17 = .ok (.iconst 0, 1) := by decide +kernel
theorem dX11_run_18 : decode cX11_run 18 = .ok (.istore_n 2, 1) := by decide +kernel
theorem dX11_run_19 : decode cX11_run 19 = .ok (.iconst 0, 1) := by decide +kernel
theorem dX11_run_20 : decode cX11_run 20 = .ok (.istore_n 3, 1) := by decide +kernel
theorem dX11_run_21 : decode cX11_run 21 = .ok (.iload_n 3, 1) := by decide +kernel
theorem dX11_run_22 : decode cX11_run 22 = .ok (.sipush 200, 3) := by decide +kernel
theorem dX11_run_25 : decode cX11_run 25 = .ok (.if_icmp .ge 86, 3) := by decide +kernel
theorem dX11_run_28 : decode cX11_run 28 = .ok (.iload_n 2, 1) := by decide +kernel
theorem dX11_run_29 : decode cX11_run 29 = .ok (.aload_n 0, 1) := by decide +kernel
theorem dX11_run_30 : decode cX11_run 30 = .ok (.getfield 29, 3) := by decide +kernel
theorem dX11_run_33 : decode cX11_run 33 = .ok (.getfield 240, 3) := by decide +kernel
theorem dX11_run_36 : decode cX11_run 36 = .ok (.if_icmp .ge 75, 3) := by decide +kernel
theorem dX11_run_39 : decode cX11_run 39 = .ok (.aload_n 0, 1) := by decide +kernel
theorem dX11_run_40 : decode cX11_run 40 = .ok (.getfield 29, 3) := by decide +kernel
theorem dX11_run_43 : decode cX11_run 43 = .ok (.iload_n 2, 1) := by decide +kernel
theorem dX11_run_44 : decode cX11_run 44 = .ok (.invokevirtual 245, 3) := by decide +kernel
theorem dX11_run_47 : decode cX11_run 47 = .ok (.istore 4, 2) := by decide +kernel
theorem dX11_run_49 : decode cX11_run 49 = .ok (.aload_n 0, 1) := by decide +kernel
theorem dX11_run_50 : decode cX11_run 50 = .ok (.getfield 29, 3) := by decide +kernel
theorem dX11_run_53 : decode cX11_run 53 = .ok (.iload_n 2, 1) := by decide +kernel
theorem dX11_run_54 : decode cX11_run 54 = .ok (.iload 4, 2) := by decide +kernel
theorem dX11_run_56 : decode cX11_run 56 = .ok (.invokevirtual 248, 3) := by decide +kernel
theorem dX11_run_59 : decode cX11_run 59 = .ok (.istore 5, 2) := by decide +kernel
theorem dX11_run_61 : decode cX11_run 61 = .ok (.aload_n 0, 1) := by decide +kernel
theorem dX11_run_62 : decode cX11_run 62 = .ok (.iload 5, 2) := by decide +kernel
theorem dX11_run_64 : decode cX11_run 64 = .ok (.aload_n 0, 1) := by decide +kernel
theorem dX11_run_65 : decode cX11_run 65 = .ok (.getfield 29, 3) := by decide +kernel
theorem dX11_run_68 : decode cX11_run 68 = .ok (.iconst 0, 1) := by decide +kernel
theorem dX11_run_69 : decode cX11_run 69 = .ok (.invokevirtual 251, 3) := by decide +kernel
theorem dX11_run_72 : decode cX11_run 72 = .ok (.aload_n 0, 1) := by decide +kernel
theorem dX11_run_73 : decode cX11_run 73 = .ok (.getfield 29, 3) := by decide +kernel
theorem dX11_run_76 : decode cX11_run 76 = .ok (.iconst 1, 1) := by decide +kernel
theorem dX11_run_77 : decode cX11_run 77 = .ok (.invokevirtual 251, 3) := by decide +kernel
theorem dX11_run_80 : decode cX11_run 80 = .ok (.aload_n 0, 1) := by decide +kernel
theorem dX11_run_81 : decode cX11_run 81 = .ok (.getfield 29, 3) := by decide +kernel
theorem dX11_run_84 : decode cX11_run 84 = .ok (.iconst 2, 1) := by decide +kernel
theorem dX11_run_85 : decode cX11_run 85 = .ok (.invokevirtual 251, 3) := by decide +kernel
theorem dX11_run_88 : decode cX11_run 88 = .ok (.invokevirtual 86, 3) := by decide +kernel
theorem dX11_run_91 : decode cX11_run 91 = .ok (.invokestatic 93, 3) := by decide +kernel
theorem dX11_run_94 : decode cX11_run 94 = .ok (.ifCond .eq 6, 3) := by decide +kernel
theorem dX11_run_97 : decode cX11_run 97 = .ok (.iinc 1 1, 3) := by decide +kernel
theorem dX11_run_100 : decode cX11_run 100 = .ok (.iload 4, 2) := by decide +kernel
theorem dX11_run_102 : decode cX11_run 102 = .ok (.iconst 1, 1) := by decide +kernel
theorem dX11_run_103 : decode cX11_run 103 = .ok (.iadd, 1) := by decide +kernel
theorem dX11_run_104 : decode cX11_run 104 = .ok (.istore_n 2, 1) := by decide +kernel
theorem dX11_run_105 : decode cX11_run 105 = .ok (.iinc 3 1, 3) := by decide +kernel
theorem dX11_run_108 : decode cX11_run 108 = .ok (.goto (-87), 3) := by decide +kernel
theorem dX11_run_111 : decode cX11_run 111 = .ok (.iload_n 1, 1) := by decide +kernel
theorem dX11_run_112 : decode cX11_run 112 = .ok (.ireturn, 1) := by decide +kernel
theorem dX11_save_0 : decode cX11_save 0 = .ok (.iload_n 1, 1) := by decide +kernel
theorem dX11_save_1 : decode cX11_save 1 = .ok (.ifCond .lt 8, 3) := by decide +kernel
theorem dX11_save_4 : decode cX11_save 4 = .ok (.iload_n 1, 1) := by decide +kernel
theorem dX11_save_5 : decode cX11_save 5 = .ok (.iconst 2, 1) := by decide +kernel
theorem dX11_save_6 : decode cX11_save 6 = .ok (.if_icmp .lt 6, 3) := by decide +kernel
theorem dX11_save_9 : decode cX11_save 9 = .ok (.bipush (-3), 2) := by decide +kernel
theorem dX11_save_11 : decode cX11_save 11 = .ok (.ireturn, 1) := by decide +kernel
theorem dX11_save_12 : decode cX11_save 12 = .ok (.aload_n 0, 1) := by decide +kernel
theorem dX11_save_13 : decode cX11_save 13 = .ok (.getfield 35, 3) := by decide +kernel
theorem dX11_save_16 : decode cX11_save 16 = .ok (.iload_n 1, 1) := by decide +kernel
theorem dX11_save_17 : decode cX11_save 17 = .ok (.aaload, 1) := by decide +kernel
theorem dX11_save_18 : decode cX11_save 18 = .ok (.astore_n 2, 1) := by decide +kernel
theorem dX11_save_19 : decode cX11_save 19 = .ok (.aload_n 2, 1) := by decide +kernel
theorem dX11_save_20 : decode cX11_save 20 = .ok (.getfield 254, 3) := by decide +kernel
theorem dX11_save_23 : decode cX11_save 23 = .ok (.aload_n 0, 1) := by decide +kernel
theorem dX11_save_24 : decode cX11_save 24 = .ok (.getfield 10, 3) := by decide +kernel
theorem dX11_save_27 : decode cX11_save 27 = .ok (.invokevirtual 255, 3) := by decide +kernel
theorem dX11_save_30 : decode cX11_save 30 = .ok (.aload_n 2, 1) := by decide +kernel
theorem dX11_save_31 : decode cX11_save 31 = .ok (.getfield 258, 3) := by decide +kernel
theorem dX11_save_34 : decode cX11_save 34 = .ok (.aload_n 0, 1) := by decide +kernel
theorem dX11_save_35 : decode cX11_save 35 = .ok (.getfield 22, 3) := by decide +kernel
theorem dX11_save_38 : decode cX11_save 38 = .ok (.invokevirtual 259, 3) := by decide +kernel
theorem dX11_save_41 : decode cX11_save 41 = .ok (.aload_n 2, 1) := by decide +kernel
theorem dX11_save_42 : decode cX11_save 42 = .ok (.iconst 1, 1) := by decide +kernel
theorem dX11_save_43 : decode cX11_save 43 = .ok (.putfield 262, 3) := by decide +kernel
theorem dX11_save_46 : decode cX11_save 46 = .ok (.aload_n 0, 1) := by decide +kernel
theorem dX11_save_47 : decode cX11_save 47 = .ok (.getfield 10, 3) := by decide +kernel
theorem dX11_save_50 : decode cX11_save 50 = .ok (.getfield 195, 3) := by decide +kernel
theorem dX11_save_53 : decode cX11_save 53 = .ok (.ireturn, 1) := by decide +kernel
theorem dX11_restore_0 : decode cX11_restore 0 = .ok (.iload_n 1, 1) := by decide +kernel
theorem dX11_restore_1 : decode cX11_restore 1 = .ok (.ifCond .lt 8, 3) := by decide +kernel
theorem dX11_restore_4 : decode cX11_restore 4 = .ok (.iload_n 1, 1) := by decide +kernel
theorem dX11_restore_5 : decode cX11_restore 5 = .ok (.iconst 2, 1) := by decide +kernel
theorem dX11_restore_6 : decode cX11_restore 6 = .ok (.if_icmp .lt 6, 3) := by decide +kernel
theorem dX11_restore_9 : decode cX11_restore 9 = .ok (.bipush (-3), 2) := by decide +kernel
theorem dX11_restore_11 : decode cX11_restore 11 = .ok (.ireturn, 1) := by decide +kernel
theorem dX11_restore_12 : decode cX11_restore 12 = .ok (.aload_n 0, 1) := by decide +kernel
theorem dX11_restore_13 : decode cX11_restore 13 = .ok (.getfield 35, 3) := by decide +kernel
theorem dX11_restore_16 : decode cX11_restore 16 = .ok (.iload_n 1, 1) := by decide +kernel
theorem dX11_restore_17 : decode cX11_restore 17 = .ok (.aaload, 1) := by decide +kernel
theorem dX11_restore_18 : decode cX11_restore 18 = .ok (.astore_n 2, 1) := by decide +kernel
theorem dX11_restore_19 : decode cX11_restore 19 = .ok (.aload_n 2, 1) := by decide +kernel
theorem dX11_restore_20 : decode cX11_restore 20 = .ok (.getfield 262, 3) := by decide +kernel
theorem dX11_restore_23 : decode cX11_restore 23 = .ok (.ifCond .ne 6, 3) := by decide +kernel
theorem dX11_restore_26 : decode cX11_restore 26 = .ok (.bipush (-7), 2) := by decide +kernel
theorem dX11_restore_28 : decode cX11_restore 28 = .ok (.ireturn, 1) := by decide +kernel
theorem dX11_restore_29 : decode cX11_restore 29 = .ok (.aload_n 0, 1) := by decide +kernel
theorem dX11_restore_30 : decode cX11_restore 30 = .ok (.getfield 10, 3) := by decide +kernel
theorem dX11_restore_33 : decode cX11_restore 33 = .ok (.aload_n 2, 1) := by decide +kernel
theorem dX11_restore_34 : decode cX11_restore 34 = .ok (.getfield 254, 3) := by decide +kernel
theorem dX11_restore_37 : decode cX11_restore 37 = .ok (.invokevirtual 255, 3) := by decide +kernel
theorem dX11_restore_40 : decode cX11_restore 40 = .ok (.aload_n 0, 1) := by decide +kernel
theorem dX11_restore_41 : decode cX11_restore 41 = .ok (.getfield 22, 3) := by decide +kernel
theorem dX11_restore_44 : decode cX11_restore 44 = .ok (.aload_n 2, 1) := by decide +kernel
theorem dX11_restore_45 : decode cX11_restore 45 = .ok (.getfield 258, 3) := by decide +kernel
theorem dX11_restore_48 : decode cX11_restore 48 = .ok (.invokevirtual 259, 3) := by decide +kernel
theorem dX11_restore_51 : decode cX11_restore 51 = .ok (.aload_n 0, 1) := by decide +kernel
theorem dX11_restore_52 : decode cX11_restore 52 = .ok (.getfield 10, 3) := by decide +kernel
theorem dX11_restore_55 : decode cX11_restore 55 = .ok (.getfield 195, 3) := by decide +kernel
theorem dX11_restore_58 : decode cX11_restore 58 = .ok (.ireturn, 1) := by decide +kernel
