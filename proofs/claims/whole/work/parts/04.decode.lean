theorem d_C_init_0 : decode b_C_init 0 = .ok (.aload_n 0, 1) := by decide +kernel
theorem d_C_init_1 : decode b_C_init 1 = .ok (.invokespecial 1, 3) := by decide +kernel
theorem d_C_init_4 : decode b_C_init 4 = .ok (.iconst 4, 1) := by decide +kernel
theorem d_C_init_5 : decode b_C_init 5 = .ok (.bipush 6, 2) := by decide +kernel
theorem d_C_init_7 : decode b_C_init 7 = .ok (.iload_n 1, 1) := by decide +kernel
theorem d_C_init_8 : decode b_C_init 8 = .ok (.invokestatic 9, 3) := by decide +kernel
theorem d_C_init_11 : decode b_C_init 11 = .ok (.invokestatic 15, 3) := by decide +kernel
theorem d_C_init_14 : decode b_C_init 14 = .ok (.istore_n 2, 1) := by decide +kernel
theorem d_C_init_15 : decode b_C_init 15 = .ok (.aload_n 0, 1) := by decide +kernel
theorem d_C_init_16 : decode b_C_init 16 = .ok (.iload_n 2, 1) := by decide +kernel
theorem d_C_init_17 : decode b_C_init 17 = .ok (.anewarray 18, 3) := by decide +kernel
theorem d_C_init_20 : decode b_C_init 20 = .ok (.putfield 20, 3) := by decide +kernel
theorem d_C_init_23 : decode b_C_init 23 = .ok (.iconst 0, 1) := by decide +kernel
theorem d_C_init_24 : decode b_C_init 24 = .ok (.istore_n 3, 1) := by decide +kernel
theorem d_C_init_25 : decode b_C_init 25 = .ok (.iload_n 3, 1) := by decide +kernel
theorem d_C_init_26 : decode b_C_init 26 = .ok (.iload_n 2, 1) := by decide +kernel
theorem d_C_init_27 : decode b_C_init 27 = .ok (.if_icmp .ge 24, 3) := by decide +kernel
theorem d_C_init_30 : decode b_C_init 30 = .ok (.aload_n 0, 1) := by decide +kernel
theorem d_C_init_31 : decode b_C_init 31 = .ok (.getfield 20, 3) := by decide +kernel
theorem d_C_init_34 : decode b_C_init 34 = .ok (.iload_n 3, 1) := by decide +kernel
theorem d_C_init_35 : decode b_C_init 35 = .ok (.new 18, 3) := by decide +kernel
theorem d_C_init_38 : decode b_C_init 38 = .ok (.dup, 1) := by decide +kernel
theorem d_C_init_39 : decode b_C_init 39 = .ok (.iload_n 3, 1) := by decide +kernel
theorem d_C_init_40 : decode b_C_init 40 = .ok (.iload_n 2, 1) := by decide +kernel
theorem d_C_init_41 : decode b_C_init 41 = .ok (.invokespecial 24, 3) := by decide +kernel
theorem d_C_init_44 : decode b_C_init 44 = .ok (.aastore, 1) := by decide +kernel
theorem d_C_init_45 : decode b_C_init 45 = .ok (.iinc 3 1, 3) := by decide +kernel
theorem d_C_init_48 : decode b_C_init 48 = .ok (.goto (-23), 3) := by decide +kernel
theorem d_C_init_51 : decode b_C_init 51 = .ok (.aload_n 0, 1) := by decide +kernel
theorem d_C_init_52 : decode b_C_init 52 = .ok (.new 27, 3) := by decide +kernel
theorem d_C_init_55 : decode b_C_init 55 = .ok (.dup, 1) := by decide +kernel
theorem d_C_init_56 : decode b_C_init 56 = .ok (.invokespecial 29, 3) := by decide +kernel
theorem d_C_init_59 : decode b_C_init 59 = .ok (.putfield 30, 3) := by decide +kernel
theorem d_C_init_62 : decode b_C_init 62 = .ok (.return_, 1) := by decide +kernel
theorem d_C_nodes_0 : decode b_C_nodes 0 = .ok (.aload_n 0, 1) := by decide +kernel
theorem d_C_nodes_1 : decode b_C_nodes 1 = .ok (.getfield 20, 3) := by decide +kernel
theorem d_C_nodes_4 : decode b_C_nodes 4 = .ok (.arraylength, 1) := by decide +kernel
theorem d_C_nodes_5 : decode b_C_nodes 5 = .ok (.ireturn, 1) := by decide +kernel
theorem d_C_on_0 : decode b_C_on 0 = .ok (.aload_n 0, 1) := by decide +kernel
theorem d_C_on_1 : decode b_C_on 1 = .ok (.iload_n 1, 1) := by decide +kernel
theorem d_C_on_2 : decode b_C_on 2 = .ok (.invokevirtual 34, 3) := by decide +kernel
theorem d_C_on_5 : decode b_C_on 5 = .ok (.astore_n 3, 1) := by decide +kernel
theorem d_C_on_6 : decode b_C_on 6 = .ok (.aload_n 3, 1) := by decide +kernel
theorem d_C_on_7 : decode b_C_on 7 = .ok (.ifnull 21, 3) := by decide +kernel
theorem d_C_on_10 : decode b_C_on 10 = .ok (.aload_n 3, 1) := by decide +kernel
theorem d_C_on_11 : decode b_C_on 11 = .ok (.getfield 38, 3) := by decide +kernel
theorem d_C_on_14 : decode b_C_on 14 = .ok (.ifCond .ne 14, 3) := by decide +kernel
theorem d_C_on_17 : decode b_C_on 17 = .ok (.iload_n 2, 1) := by decide +kernel
theorem d_C_on_18 : decode b_C_on 18 = .ok (.bipush (-2), 2) := by decide +kernel
theorem d_C_on_20 : decode b_C_on 20 = .ok (.if_icmp .lt 8, 3) := by decide +kernel
theorem d_C_on_23 : decode b_C_on 23 = .ok (.iload_n 2, 1) := by decide +kernel
theorem d_C_on_24 : decode b_C_on 24 = .ok (.iconst 2, 1) := by decide +kernel
theorem d_C_on_25 : decode b_C_on 25 = .ok (.if_icmp .le 5, 3) := by decide +kernel
theorem d_C_on_28 : decode b_C_on 28 = .ok (.iconst 0, 1) := by decide +kernel
theorem d_C_on_29 : decode b_C_on 29 = .ok (.ireturn, 1) := by decide +kernel
theorem d_C_on_30 : decode b_C_on 30 = .ok (.aload_n 3, 1) := by decide +kernel
theorem d_C_on_31 : decode b_C_on 31 = .ok (.iload_n 2, 1) := by decide +kernel
theorem d_C_on_32 : decode b_C_on 32 = .ok (.invokevirtual 42, 3) := by decide +kernel
theorem d_C_on_35 : decode b_C_on 35 = .ok (.iconst 1, 1) := by decide +kernel
theorem d_C_on_36 : decode b_C_on 36 = .ok (.ireturn, 1) := by decide +kernel
theorem d_C_off_0 : decode b_C_off 0 = .ok (.aload_n 0, 1) := by decide +kernel
theorem d_C_off_1 : decode b_C_off 1 = .ok (.iload_n 1, 1) := by decide +kernel
theorem d_C_off_2 : decode b_C_off 2 = .ok (.invokevirtual 46, 3) := by decide +kernel
theorem d_C_off_5 : decode b_C_off 5 = .ok (.astore_n 2, 1) := by decide +kernel
theorem d_C_off_6 : decode b_C_off 6 = .ok (.aload_n 2, 1) := by decide +kernel
theorem d_C_off_7 : decode b_C_off 7 = .ok (.ifnonnull 5, 3) := by decide +kernel
theorem d_C_off_10 : decode b_C_off 10 = .ok (.iconst 0, 1) := by decide +kernel
theorem d_C_off_11 : decode b_C_off 11 = .ok (.ireturn, 1) := by decide +kernel
theorem d_C_off_12 : decode b_C_off 12 = .ok (.aload_n 2, 1) := by decide +kernel
theorem d_C_off_13 : decode b_C_off 13 = .ok (.invokevirtual 49, 3) := by decide +kernel
theorem d_C_off_16 : decode b_C_off 16 = .ok (.iconst 1, 1) := by decide +kernel
theorem d_C_off_17 : decode b_C_off 17 = .ok (.ireturn, 1) := by decide +kernel
theorem d_C_thaw_0 : decode b_C_thaw 0 = .ok (.aload_n 0, 1) := by decide +kernel
theorem d_C_thaw_1 : decode b_C_thaw 1 = .ok (.iload_n 1, 1) := by decide +kernel
theorem d_C_thaw_2 : decode b_C_thaw 2 = .ok (.invokevirtual 34, 3) := by decide +kernel
theorem d_C_thaw_5 : decode b_C_thaw 5 = .ok (.astore_n 2, 1) := by decide +kernel
theorem d_C_thaw_6 : decode b_C_thaw 6 = .ok (.aload_n 2, 1) := by decide +kernel
theorem d_C_thaw_7 : decode b_C_thaw 7 = .ok (.ifnull 11, 3) := by decide +kernel
theorem d_C_thaw_10 : decode b_C_thaw 10 = .ok (.aload_n 2, 1) := by decide +kernel
theorem d_C_thaw_11 : decode b_C_thaw 11 = .ok (.getfield 38, 3) := by decide +kernel
theorem d_C_thaw_14 : decode b_C_thaw 14 = .ok (.iconst 5, 1) := by decide +kernel
theorem d_C_thaw_15 : decode b_C_thaw 15 = .ok (.if_icmp .eq 5, 3) := by decide +kernel
theorem d_C_thaw_18 : decode b_C_thaw 18 = .ok (.iconst 0, 1) := by decide +kernel
theorem d_C_thaw_19 : decode b_C_thaw 19 = .ok (.ireturn, 1) := by decide +kernel
theorem d_C_thaw_20 : decode b_C_thaw 20 = .ok (.aload_n 2, 1) := by decide +kernel
theorem d_C_thaw_21 : decode b_C_thaw 21 = .ok (.invokevirtual 52, 3) := by decide +kernel
theorem d_C_thaw_24 : decode b_C_thaw 24 = .ok (.aload_n 2, 1) := by decide +kernel
theorem d_C_thaw_25 : decode b_C_thaw 25 = .ok (.iconst 3, 1) := by decide +kernel
theorem d_C_thaw_26 : decode b_C_thaw 26 = .ok (.putfield 55, 3) := by decide +kernel
theorem d_C_thaw_29 : decode b_C_thaw 29 = .ok (.iconst 1, 1) := by decide +kernel
theorem d_C_thaw_30 : decode b_C_thaw 30 = .ok (.ireturn, 1) := by decide +kernel
theorem d_C_mute_0 : decode b_C_mute 0 = .ok (.aload_n 0, 1) := by decide +kernel
theorem d_C_mute_1 : decode b_C_mute 1 = .ok (.iload_n 1, 1) := by decide +kernel
theorem d_C_mute_2 : decode b_C_mute 2 = .ok (.invokevirtual 46, 3) := by decide +kernel
theorem d_C_mute_5 : decode b_C_mute 5 = .ok (.astore_n 2, 1) := by decide +kernel
theorem d_C_mute_6 : decode b_C_mute 6 = .ok (.aload_n 2, 1) := by decide +kernel
theorem d_C_mute_7 : decode b_C_mute 7 = .ok (.ifnull 10, 3) := by decide +kernel
theorem d_C_mute_10 : decode b_C_mute 10 = .ok (.aload_n 2, 1) := by decide +kernel
theorem d_C_mute_11 : decode b_C_mute 11 = .ok (.getfield 58, 3) := by decide +kernel
theorem d_C_mute_14 : decode b_C_mute 14 = .ok (.ifCond .eq 5, 3) := by decide +kernel
theorem d_C_mute_17 : decode b_C_mute 17 = .ok (.iconst 0, 1) := by decide +kernel
theorem d_C_mute_18 : decode b_C_mute 18 = .ok (.ireturn, 1) := by decide +kernel
theorem d_C_mute_19 : decode b_C_mute 19 = .ok (.aload_n 2, 1) := by decide +kernel
theorem d_C_mute_20 : decode b_C_mute 20 = .ok (.iconst 1, 1) := by decide +kernel
theorem d_C_mute_21 : decode b_C_mute 21 = .ok (.putfield 58, 3) := by decide +kernel
theorem d_C_mute_24 : decode b_C_mute 24 = .ok (.iconst 1, 1) := by decide +kernel
theorem d_C_mute_25 : decode b_C_mute 25 = .ok (.ireturn, 1) := by decide +kernel
theorem d_C_deafen_0 : decode b_C_deafen 0 = .ok (.aload_n 0, 1) := by decide +kernel
theorem d_C_deafen_1 : decode b_C_deafen 1 = .ok (.iload_n 1, 1) := by decide +kernel
theorem d_C_deafen_2 : decode b_C_deafen 2 = .ok (.invokevirtual 46, 3) := by decide +kernel
theorem d_C_deafen_5 : decode b_C_deafen 5 = .ok (.astore_n 2, 1) := by decide +kernel
theorem d_C_deafen_6 : decode b_C_deafen 6 = .ok (.aload_n 2, 1) := by decide +kernel
theorem d_C_deafen_7 : decode b_C_deafen 7 = .ok (.ifnull 10, 3) := by decide +kernel
theorem d_C_deafen_10 : decode b_C_deafen 10 = .ok (.aload_n 2, 1) := by decide +kernel
theorem d_C_deafen_11 : decode b_C_deafen 11 = .ok (.getfield 62, 3) := by decide +kernel
theorem d_C_deafen_14 : decode b_C_deafen 14 = .ok (.ifCond .eq 5, 3) := by decide +kernel
theorem d_C_deafen_17 : decode b_C_deafen 17 = .ok (.iconst 0, 1) := by decide +kernel
theorem d_C_deafen_18 : decode b_C_deafen 18 = .ok (.ireturn, 1) := by decide +kernel
theorem d_C_deafen_19 : decode b_C_deafen 19 = .ok (.aload_n 2, 1) := by decide +kernel
theorem d_C_deafen_20 : decode b_C_deafen 20 = .ok (.iconst 1, 1) := by decide +kernel
theorem d_C_deafen_21 : decode b_C_deafen 21 = .ok (.putfield 62, 3) := by decide +kernel
theorem d_C_deafen_24 : decode b_C_deafen 24 = .ok (.iconst 1, 1) := by decide +kernel
theorem d_C_deafen_25 : decode b_C_deafen 25 = .ok (.ireturn, 1) := by decide +kernel
theorem d_C_shift_0 : decode b_C_shift 0 = .ok (.aload_n 0, 1) := by decide +kernel
theorem d_C_shift_1 : decode b_C_shift 1 = .ok (.iload_n 1, 1) := by decide +kernel
theorem d_C_shift_2 : decode b_C_shift 2 = .ok (.invokevirtual 46, 3) := by decide +kernel
theorem d_C_shift_5 : decode b_C_shift 5 = .ok (.astore_n 3, 1) := by decide +kernel
theorem d_C_shift_6 : decode b_C_shift 6 = .ok (.aload_n 3, 1) := by decide +kernel
theorem d_C_shift_7 : decode b_C_shift 7 = .ok (.ifnull 17, 3) := by decide +kernel
theorem d_C_shift_10 : decode b_C_shift 10 = .ok (.iload_n 2, 1) := by decide +kernel
theorem d_C_shift_11 : decode b_C_shift 11 = .ok (.sipush (-1000), 3) := by decide +kernel
theorem d_C_shift_14 : decode b_C_shift 14 = .ok (.if_icmp .lt 10, 3) := by decide +kernel
theorem d_C_shift_17 : decode b_C_shift 17 = .ok (.iload_n 2, 1) := by decide +kernel
theorem d_C_shift_18 : decode b_C_shift 18 = .ok (.sipush 1000, 3) := by decide +kernel
theorem d_C_shift_21 : decode b_C_shift 21 = .ok (.if_icmp .le 5, 3) := by decide +kernel
theorem d_C_shift_24 : decode b_C_shift 24 = .ok (.iconst 0, 1) := by decide +kernel
theorem d_C_shift_25 : decode b_C_shift 25 = .ok (.ireturn, 1) := by decide +kernel
theorem d_C_shift_26 : decode b_C_shift 26 = .ok (.aload_n 3, 1) := by decide +kernel
theorem d_C_shift_27 : decode b_C_shift 27 = .ok (.dup, 1) := by decide +kernel
theorem d_C_shift_28 : decode b_C_shift 28 = .ok (.getfield 65, 3) := by decide +kernel
theorem d_C_shift_31 : decode b_C_shift 31 = .ok (.iload_n 2, 1) := by decide +kernel
theorem d_C_shift_32 : decode b_C_shift 32 = .ok (.iadd, 1) := by decide +kernel
theorem d_C_shift_33 : decode b_C_shift 33 = .ok (.putfield 65, 3) := by decide +kernel
theorem d_C_shift_36 : decode b_C_shift 36 = .ok (.iconst 1, 1) := by decide +kernel
theorem d_C_shift_37 : decode b_C_shift 37 = .ok (.ireturn, 1) := by decide +kernel
theorem d_C_run_0 : decode b_C_run 0 = .ok (.iload_n 1, 1) := by decide +kernel
theorem d_C_run_1 : decode b_C_run 1 = .ok (.ifCond .lt 9, 3) := by decide +kernel
theorem d_C_run_4 : decode b_C_run 4 = .ok (.iload_n 1, 1) := by decide +kernel
theorem d_C_run_5 : decode b_C_run 5 = .ok (.bipush 40, 2) := by decide +kernel
theorem d_C_run_7 : decode b_C_run 7 = .ok (.if_icmp .le 5, 3) := by decide +kernel
theorem d_C_run_10 : decode b_C_run 10 = .ok (.iconst (-1), 1) := by decide +kernel
theorem d_C_run_11 : decode b_C_run 11 = .ok (.ireturn, 1) := by decide +kernel
theorem d_C_run_12 : decode b_C_run 12 = .ok (.iconst 0, 1) := by decide +kernel
theorem d_C_run_13 : decode b_C_run 13 = .ok (.istore_n 2, 1) := by decide +kernel
theorem d_C_run_14 : decode b_C_run 14 = .ok (.iconst 0, 1) := by decide +kernel
theorem d_C_run_15 : decode b_C_run 15 = .ok (.istore_n 3, 1) := by decide +kernel
theorem d_C_run_16 : decode b_C_run 16 = .ok (.iload_n 3, 1) := by decide +kernel
theorem d_C_run_17 : decode b_C_run 17 = .ok (.iload_n 1, 1) := by decide +kernel
theorem d_C_run_18 : decode b_C_run 18 = .ok (.if_icmp .ge 26, 3) := by decide +kernel
theorem d_C_run_21 : decode b_C_run 21 = .ok (.aload_n 0, 1) := by decide +kernel
theorem d_C_run_22 : decode b_C_run 22 = .ok (.invokevirtual 68, 3) := by decide +kernel
theorem d_C_run_25 : decode b_C_run 25 = .ok (.aload_n 0, 1) := by decide +kernel
theorem d_C_run_26 : decode b_C_run 26 = .ok (.getfield 30, 3) := by decide +kernel
theorem d_C_run_29 : decode b_C_run 29 = .ok (.invokevirtual 71, 3) := by decide +kernel
theorem d_C_run_32 : decode b_C_run 32 = .ok (.ifCond .eq 6, 3) := by decide +kernel
theorem d_C_run_35 : decode b_C_run 35 = .ok (.iinc 2 1, 3) := by decide +kernel
theorem d_C_run_38 : decode b_C_run 38 = .ok (.iinc 3 1, 3) := by decide +kernel
theorem d_C_run_41 : decode b_C_run 41 = .ok (.goto (-25), 3) := by decide +kernel
theorem d_C_run_44 : decode b_C_run 44 = .ok (.iload_n 2, 1) := by decide +kernel
theorem d_C_run_45 : decode b_C_run 45 = .ok (.ireturn, 1) := by decide +kernel
theorem d_C_slots_0 : decode b_C_slots 0 = .ok (.aload_n 0, 1) := by decide +kernel
theorem d_C_slots_1 : decode b_C_slots 1 = .ok (.getfield 75, 3) := by decide +kernel
theorem d_C_slots_4 : decode b_C_slots 4 = .ok (.ireturn, 1) := by decide +kernel
theorem d_C_bus_0 : decode b_C_bus 0 = .ok (.aload_n 0, 1) := by decide +kernel
theorem d_C_bus_1 : decode b_C_bus 1 = .ok (.getfield 30, 3) := by decide +kernel
theorem d_C_bus_4 : decode b_C_bus 4 = .ok (.getfield 78, 3) := by decide +kernel
theorem d_C_bus_7 : decode b_C_bus 7 = .ok (.tableswitch 47 1 3 #[25, 28, 36], 25) := by decide +kernel
theorem d_C_bus_32 : decode b_C_bus 32 = .ok (.bipush (-2), 2) := by decide +kernel
theorem d_C_bus_34 : decode b_C_bus 34 = .ok (.ireturn, 1) := by decide +kernel
theorem d_C_bus_35 : decode b_C_bus 35 = .ok (.aload_n 0, 1) := by decide +kernel
theorem d_C_bus_36 : decode b_C_bus 36 = .ok (.getfield 30, 3) := by decide +kernel
theorem d_C_bus_39 : decode b_C_bus 39 = .ok (.getfield 81, 3) := by decide +kernel
theorem d_C_bus_42 : decode b_C_bus 42 = .ok (.ireturn, 1) := by decide +kernel
theorem d_C_bus_43 : decode b_C_bus 43 = .ok (.aload_n 0, 1) := by decide +kernel
theorem d_C_bus_44 : decode b_C_bus 44 = .ok (.getfield 30, 3) := by decide +kernel
theorem d_C_bus_47 : decode b_C_bus 47 = .ok (.getfield 81, 3) := by decide +kernel
theorem d_C_bus_50 : decode b_C_bus 50 = .ok (.bipush 8, 2) := by decide +kernel
theorem d_C_bus_52 : decode b_C_bus 52 = .ok (.iadd, 1) := by decide +kernel
theorem d_C_bus_53 : decode b_C_bus 53 = .ok (.ireturn, 1) := by decide +kernel
theorem d_C_bus_54 : decode b_C_bus 54 = .ok (.iconst (-1), 1) := by decide +kernel
theorem d_C_bus_55 : decode b_C_bus 55 = .ok (.ireturn, 1) := by decide +kernel
theorem d_C_mode_0 : decode b_C_mode 0 = .ok (.aload_n 0, 1) := by decide +kernel
theorem d_C_mode_1 : decode b_C_mode 1 = .ok (.iload_n 1, 1) := by decide +kernel
theorem d_C_mode_2 : decode b_C_mode 2 = .ok (.invokevirtual 34, 3) := by decide +kernel
theorem d_C_mode_5 : decode b_C_mode 5 = .ok (.astore_n 2, 1) := by decide +kernel
theorem d_C_mode_6 : decode b_C_mode 6 = .ok (.aload_n 2, 1) := by decide +kernel
theorem d_C_mode_7 : decode b_C_mode 7 = .ok (.ifnonnull 7, 3) := by decide +kernel
theorem d_C_mode_10 : decode b_C_mode 10 = .ok (.iconst (-1), 1) := by decide +kernel
theorem d_C_mode_11 : decode b_C_mode 11 = .ok (.goto 7, 3) := by decide +kernel
theorem d_C_mode_14 : decode b_C_mode 14 = .ok (.aload_n 2, 1) := by decide +kernel
theorem d_C_mode_15 : decode b_C_mode 15 = .ok (.getfield 38, 3) := by decide +kernel
theorem d_C_mode_18 : decode b_C_mode 18 = .ok (.ireturn, 1) := by decide +kernel
theorem d_C_members_0 : decode b_C_members 0 = .ok (.aload_n 0, 1) := by decide +kernel
theorem d_C_members_1 : decode b_C_members 1 = .ok (.iload_n 1, 1) := by decide +kernel
theorem d_C_members_2 : decode b_C_members 2 = .ok (.invokevirtual 84, 3) := by decide +kernel
theorem d_C_members_5 : decode b_C_members 5 = .ok (.astore_n 2, 1) := by decide +kernel
theorem d_C_members_6 : decode b_C_members 6 = .ok (.aload_n 2, 1) := by decide +kernel
theorem d_C_members_7 : decode b_C_members 7 = .ok (.ifnonnull 7, 3) := by decide +kernel
theorem d_C_members_10 : decode b_C_members 10 = .ok (.iconst (-1), 1) := by decide +kernel
theorem d_C_members_11 : decode b_C_members 11 = .ok (.goto 7, 3) := by decide +kernel
theorem d_C_members_14 : decode b_C_members 14 = .ok (.aload_n 2, 1) := by decide +kernel
theorem d_C_members_15 : decode b_C_members 15 = .ok (.getfield 87, 3) := by decide +kernel
theorem d_C_members_18 : decode b_C_members 18 = .ok (.ireturn, 1) := by decide +kernel
theorem d_C_time_0 : decode b_C_time 0 = .ok (.aload_n 0, 1) := by decide +kernel
theorem d_C_time_1 : decode b_C_time 1 = .ok (.iload_n 1, 1) := by decide +kernel
theorem d_C_time_2 : decode b_C_time 2 = .ok (.invokevirtual 84, 3) := by decide +kernel
theorem d_C_time_5 : decode b_C_time 5 = .ok (.astore_n 2, 1) := by decide +kernel
theorem d_C_time_6 : decode b_C_time 6 = .ok (.aload_n 2, 1) := by decide +kernel
theorem d_C_time_7 : decode b_C_time 7 = .ok (.ifnonnull 7, 3) := by decide +kernel
theorem d_C_time_10 : decode b_C_time 10 = .ok (.iconst (-1), 1) := by decide +kernel
theorem d_C_time_11 : decode b_C_time 11 = .ok (.goto 15, 3) := by decide +kernel
theorem d_C_time_14 : decode b_C_time 14 = .ok (.aload_n 2, 1) := by decide +kernel
theorem d_C_time_15 : decode b_C_time 15 = .ok (.getfield 90, 3) := by decide +kernel
theorem d_C_time_18 : decode b_C_time 18 = .ok (.bipush 8, 2) := by decide +kernel
theorem d_C_time_20 : decode b_C_time 20 = .ok (.imul, 1) := by decide +kernel
theorem d_C_time_21 : decode b_C_time 21 = .ok (.aload_n 2, 1) := by decide +kernel
theorem d_C_time_22 : decode b_C_time 22 = .ok (.getfield 93, 3) := by decide +kernel
theorem d_C_time_25 : decode b_C_time 25 = .ok (.iadd, 1) := by decide +kernel
theorem d_C_time_26 : decode b_C_time 26 = .ok (.ireturn, 1) := by decide +kernel
theorem d_C_counts_0 : decode b_C_counts 0 = .ok (.aload_n 0, 1) := by decide +kernel
theorem d_C_counts_1 : decode b_C_counts 1 = .ok (.iload_n 1, 1) := by decide +kernel
theorem d_C_counts_2 : decode b_C_counts 2 = .ok (.invokevirtual 84, 3) := by decide +kernel
theorem d_C_counts_5 : decode b_C_counts 5 = .ok (.astore_n 2, 1) := by decide +kernel
theorem d_C_counts_6 : decode b_C_counts 6 = .ok (.aload_n 2, 1) := by decide +kernel
theorem d_C_counts_7 : decode b_C_counts 7 = .ok (.ifnonnull 7, 3) := by decide +kernel
theorem d_C_counts_10 : decode b_C_counts 10 = .ok (.iconst (-1), 1) := by decide +kernel
theorem d_C_counts_11 : decode b_C_counts 11 = .ok (.goto 23, 3) := by decide +kernel
theorem d_C_counts_14 : decode b_C_counts 14 = .ok (.aload_n 2, 1) := by decide +kernel
theorem d_C_counts_15 : decode b_C_counts 15 = .ok (.getfield 96, 3) := by decide +kernel
theorem d_C_counts_18 : decode b_C_counts 18 = .ok (.sipush 1024, 3) := by decide +kernel
theorem d_C_counts_21 : decode b_C_counts 21 = .ok (.imul, 1) := by decide +kernel
theorem d_C_counts_22 : decode b_C_counts 22 = .ok (.aload_n 2, 1) := by decide +kernel
theorem d_C_counts_23 : decode b_C_counts 23 = .ok (.getfield 99, 3) := by decide +kernel
theorem d_C_counts_26 : decode b_C_counts 26 = .ok (.iconst 4, 1) := by decide +kernel
theorem d_C_counts_27 : decode b_C_counts 27 = .ok (.imul, 1) := by decide +kernel
theorem d_C_counts_28 : decode b_C_counts 28 = .ok (.iadd, 1) := by decide +kernel
theorem d_C_counts_29 : decode b_C_counts 29 = .ok (.aload_n 2, 1) := by decide +kernel
theorem d_C_counts_30 : decode b_C_counts 30 = .ok (.getfield 102, 3) := by decide +kernel
theorem d_C_counts_33 : decode b_C_counts 33 = .ok (.iadd, 1) := by decide +kernel
theorem d_C_counts_34 : decode b_C_counts 34 = .ok (.ireturn, 1) := by decide +kernel
theorem d_C_patience_0 : decode b_C_patience 0 = .ok (.aload_n 0, 1) := by decide +kernel
theorem d_C_patience_1 : decode b_C_patience 1 = .ok (.iload_n 1, 1) := by decide +kernel
theorem d_C_patience_2 : decode b_C_patience 2 = .ok (.invokevirtual 34, 3) := by decide +kernel
theorem d_C_patience_5 : decode b_C_patience 5 = .ok (.astore_n 2, 1) := by decide +kernel
theorem d_C_patience_6 : decode b_C_patience 6 = .ok (.aload_n 2, 1) := by decide +kernel
theorem d_C_patience_7 : decode b_C_patience 7 = .ok (.ifnull 11, 3) := by decide +kernel
theorem d_C_patience_10 : decode b_C_patience 10 = .ok (.aload_n 2, 1) := by decide +kernel
theorem d_C_patience_11 : decode b_C_patience 11 = .ok (.getfield 38, 3) := by decide +kernel
theorem d_C_patience_14 : decode b_C_patience 14 = .ok (.iconst 1, 1) := by decide +kernel
theorem d_C_patience_15 : decode b_C_patience 15 = .ok (.if_icmp .eq 5, 3) := by decide +kernel
theorem d_C_patience_18 : decode b_C_patience 18 = .ok (.iconst (-1), 1) := by decide +kernel
theorem d_C_patience_19 : decode b_C_patience 19 = .ok (.ireturn, 1) := by decide +kernel
theorem d_C_patience_20 : decode b_C_patience 20 = .ok (.aload_n 2, 1) := by decide +kernel
theorem d_C_patience_21 : decode b_C_patience 21 = .ok (.getfield 105, 3) := by decide +kernel
theorem d_C_patience_24 : decode b_C_patience 24 = .ok (.iconst 4, 1) := by decide +kernel
theorem d_C_patience_25 : decode b_C_patience 25 = .ok (.imul, 1) := by decide +kernel
theorem d_C_patience_26 : decode b_C_patience 26 = .ok (.aload_n 2, 1) := by decide +kernel
theorem d_C_patience_27 : decode b_C_patience 27 = .ok (.getfield 55, 3) := by decide +kernel
theorem d_C_patience_30 : decode b_C_patience 30 = .ok (.iadd, 1) := by decide +kernel
theorem d_C_patience_31 : decode b_C_patience 31 = .ok (.ireturn, 1) := by decide +kernel
theorem d_C_gap_0 : decode b_C_gap 0 = .ok (.aload_n 0, 1) := by decide +kernel
theorem d_C_gap_1 : decode b_C_gap 1 = .ok (.iload_n 1, 1) := by decide +kernel
theorem d_C_gap_2 : decode b_C_gap 2 = .ok (.invokevirtual 46, 3) := by decide +kernel
theorem d_C_gap_5 : decode b_C_gap 5 = .ok (.astore_n 3, 1) := by decide +kernel
theorem d_C_gap_6 : decode b_C_gap 6 = .ok (.aload_n 0, 1) := by decide +kernel
theorem d_C_gap_7 : decode b_C_gap 7 = .ok (.iload_n 2, 1) := by decide +kernel
theorem d_C_gap_8 : decode b_C_gap 8 = .ok (.invokevirtual 46, 3) := by decide +kernel
theorem d_C_gap_11 : decode b_C_gap 11 = .ok (.astore 4, 2) := by decide +kernel
theorem d_C_gap_13 : decode b_C_gap 13 = .ok (.aload_n 3, 1) := by decide +kernel
theorem d_C_gap_14 : decode b_C_gap 14 = .ok (.ifnull 8, 3) := by decide +kernel
theorem d_C_gap_17 : decode b_C_gap 17 = .ok (.aload 4, 2) := by decide +kernel
theorem d_C_gap_19 : decode b_C_gap 19 = .ok (.ifnonnull 7, 3) := by decide +kernel
theorem d_C_gap_22 : decode b_C_gap 22 = .ok (.iconst 0, 1) := by decide +kernel
theorem d_C_gap_23 : decode b_C_gap 23 = .ok (.goto 13, 3) := by decide +kernel
theorem d_C_gap_26 : decode b_C_gap 26 = .ok (.aload_n 3, 1) := by decide +kernel
theorem d_C_gap_27 : decode b_C_gap 27 = .ok (.getfield 65, 3) := by decide +kernel
theorem d_C_gap_30 : decode b_C_gap 30 = .ok (.aload 4, 2) := by decide +kernel
theorem d_C_gap_32 : decode b_C_gap 32 = .ok (.getfield 65, 3) := by decide +kernel
theorem d_C_gap_35 : decode b_C_gap 35 = .ok (.isub, 1) := by decide +kernel
theorem d_C_gap_36 : decode b_C_gap 36 = .ok (.ireturn, 1) := by decide +kernel
theorem d_C_united_0 : decode b_C_united 0 = .ok (.aconst_null, 1) := by decide +kernel
theorem d_C_united_1 : decode b_C_united 1 = .ok (.astore_n 1, 1) := by decide +kernel
theorem d_C_united_2 : decode b_C_united 2 = .ok (.iconst 0, 1) := by decide +kernel
theorem d_C_united_3 : decode b_C_united 3 = .ok (.istore_n 2, 1) := by decide +kernel
theorem d_C_united_4 : decode b_C_united 4 = .ok (.aload_n 0, 1) := by decide +kernel
theorem d_C_united_5 : decode b_C_united 5 = .ok (.getfield 20, 3) := by decide +kernel
theorem d_C_united_8 : decode b_C_united 8 = .ok (.astore_n 3, 1) := by decide +kernel
theorem d_C_united_9 : decode b_C_united 9 = .ok (.aload_n 3, 1) := by decide +kernel
theorem d_C_united_10 : decode b_C_united 10 = .ok (.arraylength, 1) := by decide +kernel
theorem d_C_united_11 : decode b_C_united 11 = .ok (.istore 4, 2) := by decide +kernel
theorem d_C_united_13 : decode b_C_united 13 = .ok (.iconst 0, 1) := by decide +kernel
theorem d_C_united_14 : decode b_C_united 14 = .ok (.istore 5, 2) := by decide +kernel
theorem d_C_united_16 : decode b_C_united 16 = .ok (.iload 5, 2) := by decide +kernel
theorem d_C_united_18 : decode b_C_united 18 = .ok (.iload 4, 2) := by decide +kernel
theorem d_C_united_20 : decode b_C_united 20 = .ok (.if_icmp .ge 48, 3) := by decide +kernel
theorem d_C_united_23 : decode b_C_united 23 = .ok (.aload_n 3, 1) := by decide +kernel
theorem d_C_united_24 : decode b_C_united 24 = .ok (.iload 5, 2) := by decide +kernel
theorem d_C_united_26 : decode b_C_united 26 = .ok (.aaload, 1) := by decide +kernel
theorem d_C_united_27 : decode b_C_united 27 = .ok (.astore 6, 2) := by decide +kernel
theorem d_C_united_29 : decode b_C_united 29 = .ok (.aload 6, 2) := by decide +kernel
theorem d_C_united_31 : decode b_C_united 31 = .ok (.getfield 38, 3) := by decide +kernel
theorem d_C_united_34 : decode b_C_united 34 = .ok (.iconst 3, 1) := by decide +kernel
theorem d_C_united_35 : decode b_C_united 35 = .ok (.if_icmp .ne 27, 3) := by decide +kernel
theorem d_C_united_38 : decode b_C_united 38 = .ok (.iinc 2 1, 3) := by decide +kernel
theorem d_C_united_41 : decode b_C_united 41 = .ok (.aload_n 1, 1) := by decide +kernel
theorem d_C_united_42 : decode b_C_united 42 = .ok (.ifnonnull 9, 3) := by decide +kernel
theorem d_C_united_45 : decode b_C_united 45 = .ok (.aload 6, 2) := by decide +kernel
theorem d_C_united_47 : decode b_C_united 47 = .ok (.astore_n 1, 1) := by decide +kernel
theorem d_C_united_48 : decode b_C_united 48 = .ok (.goto 14, 3) := by decide +kernel
theorem d_C_united_51 : decode b_C_united 51 = .ok (.aload 6, 2) := by decide +kernel
theorem d_C_united_53 : decode b_C_united 53 = .ok (.aload_n 1, 1) := by decide +kernel
theorem d_C_united_54 : decode b_C_united 54 = .ok (.invokevirtual 108, 3) := by decide +kernel
theorem d_C_united_57 : decode b_C_united 57 = .ok (.ifCond .ne 5, 3) := by decide +kernel
theorem d_C_united_60 : decode b_C_united 60 = .ok (.iconst 0, 1) := by decide +kernel
theorem d_C_united_61 : decode b_C_united 61 = .ok (.ireturn, 1) := by decide +kernel
theorem d_C_united_62 : decode b_C_united 62 = .ok (.iinc 5 1, 3) := by decide +kernel
theorem d_C_united_65 : decode b_C_united 65 = .ok (.goto (-49), 3) := by decide +kernel
theorem d_C_united_68 : decode b_C_united 68 = .ok (.iload_n 2, 1) := by decide +kernel
theorem d_C_united_69 : decode b_C_united 69 = .ok (.iconst 2, 1) := by decide +kernel
theorem d_C_united_70 : decode b_C_united 70 = .ok (.if_icmp .lt 7, 3) := by decide +kernel
theorem d_C_united_73 : decode b_C_united 73 = .ok (.iconst 1, 1) := by decide +kernel
theorem d_C_united_74 : decode b_C_united 74 = .ok (.goto 4, 3) := by decide +kernel
theorem d_C_united_77 : decode b_C_united 77 = .ok (.iconst 0, 1) := by decide +kernel
theorem d_C_united_78 : decode b_C_united 78 = .ok (.ireturn, 1) := by decide +kernel
theorem d_C_find_0 : decode b_C_find 0 = .ok (.iload_n 1, 1) := by decide +kernel
theorem d_C_find_1 : decode b_C_find 1 = .ok (.ifCond .lt 12, 3) := by decide +kernel
theorem d_C_find_4 : decode b_C_find 4 = .ok (.iload_n 1, 1) := by decide +kernel
theorem d_C_find_5 : decode b_C_find 5 = .ok (.aload_n 0, 1) := by decide +kernel
theorem d_C_find_6 : decode b_C_find 6 = .ok (.getfield 20, 3) := by decide +kernel
theorem d_C_find_9 : decode b_C_find 9 = .ok (.arraylength, 1) := by decide +kernel
theorem d_C_find_10 : decode b_C_find 10 = .ok (.if_icmp .lt 7, 3) := by decide +kernel
theorem d_C_find_13 : decode b_C_find 13 = .ok (.aconst_null, 1) := by decide +kernel
theorem d_C_find_14 : decode b_C_find 14 = .ok (.goto 9, 3) := by decide +kernel
theorem d_C_find_17 : decode b_C_find 17 = .ok (.aload_n 0, 1) := by decide +kernel
theorem d_C_find_18 : decode b_C_find 18 = .ok (.getfield 20, 3) := by decide +kernel
theorem d_C_find_21 : decode b_C_find 21 = .ok (.iload_n 1, 1) := by decide +kernel
theorem d_C_find_22 : decode b_C_find 22 = .ok (.aaload, 1) := by decide +kernel
theorem d_C_find_23 : decode b_C_find 23 = .ok (.areturn, 1) := by decide +kernel
theorem d_C_findSwitchedOn_0 : decode b_C_findSwitchedOn 0 = .ok (.aload_n 0, 1) := by decide +kernel
theorem d_C_findSwitchedOn_1 : decode b_C_findSwitchedOn 1 = .ok (.iload_n 1, 1) := by decide +kernel
theorem d_C_findSwitchedOn_2 : decode b_C_findSwitchedOn 2 = .ok (.invokevirtual 34, 3) := by decide +kernel
theorem d_C_findSwitchedOn_5 : decode b_C_findSwitchedOn 5 = .ok (.astore_n 2, 1) := by decide +kernel
theorem d_C_findSwitchedOn_6 : decode b_C_findSwitchedOn 6 = .ok (.aload_n 2, 1) := by decide +kernel
theorem d_C_findSwitchedOn_7 : decode b_C_findSwitchedOn 7 = .ok (.ifnull 10, 3) := by decide +kernel
theorem d_C_findSwitchedOn_10 : decode b_C_findSwitchedOn 10 = .ok (.aload_n 2, 1) := by decide +kernel
theorem d_C_findSwitchedOn_11 : decode b_C_findSwitchedOn 11 = .ok (.getfield 38, 3) := by decide +kernel
theorem d_C_findSwitchedOn_14 : decode b_C_findSwitchedOn 14 = .ok (.ifCond .ne 7, 3) := by decide +kernel
theorem d_C_findSwitchedOn_17 : decode b_C_findSwitchedOn 17 = .ok (.aconst_null, 1) := by decide +kernel
theorem d_C_findSwitchedOn_18 : decode b_C_findSwitchedOn 18 = .ok (.goto 4, 3) := by decide +kernel
theorem d_C_findSwitchedOn_21 : decode b_C_findSwitchedOn 21 = .ok (.aload_n 2, 1) := by decide +kernel
theorem d_C_findSwitchedOn_22 : decode b_C_findSwitchedOn 22 = .ok (.areturn, 1) := by decide +kernel
theorem d_C_findInside_0 : decode b_C_findInside 0 = .ok (.aload_n 0, 1) := by decide +kernel
theorem d_C_findInside_1 : decode b_C_findInside 1 = .ok (.iload_n 1, 1) := by decide +kernel
theorem d_C_findInside_2 : decode b_C_findInside 2 = .ok (.invokevirtual 34, 3) := by decide +kernel
theorem d_C_findInside_5 : decode b_C_findInside 5 = .ok (.astore_n 2, 1) := by decide +kernel
theorem d_C_findInside_6 : decode b_C_findInside 6 = .ok (.aload_n 2, 1) := by decide +kernel
theorem d_C_findInside_7 : decode b_C_findInside 7 = .ok (.ifnull 10, 3) := by decide +kernel
theorem d_C_findInside_10 : decode b_C_findInside 10 = .ok (.aload_n 2, 1) := by decide +kernel
theorem d_C_findInside_11 : decode b_C_findInside 11 = .ok (.invokevirtual 112, 3) := by decide +kernel
theorem d_C_findInside_14 : decode b_C_findInside 14 = .ok (.ifCond .ne 7, 3) := by decide +kernel
theorem d_C_findInside_17 : decode b_C_findInside 17 = .ok (.aconst_null, 1) := by decide +kernel
theorem d_C_findInside_18 : decode b_C_findInside 18 = .ok (.goto 4, 3) := by decide +kernel
theorem d_C_findInside_21 : decode b_C_findInside 21 = .ok (.aload_n 2, 1) := by decide +kernel
theorem d_C_findInside_22 : decode b_C_findInside 22 = .ok (.areturn, 1) := by decide +kernel
theorem d_C_passOneSlot_0 : decode b_C_passOneSlot 0 = .ok (.aload_n 0, 1) := by decide +kernel
theorem d_C_passOneSlot_1 : decode b_C_passOneSlot 1 = .ok (.dup, 1) := by decide +kernel
theorem d_C_passOneSlot_2 : decode b_C_passOneSlot 2 = .ok (.getfield 75, 3) := by decide +kernel
theorem d_C_passOneSlot_5 : decode b_C_passOneSlot 5 = .ok (.iconst 1, 1) := by decide +kernel
theorem d_C_passOneSlot_6 : decode b_C_passOneSlot 6 = .ok (.iadd, 1) := by decide +kernel
theorem d_C_passOneSlot_7 : decode b_C_passOneSlot 7 = .ok (.putfield 75, 3) := by decide +kernel
theorem d_C_passOneSlot_10 : decode b_C_passOneSlot 10 = .ok (.aload_n 0, 1) := by decide +kernel
theorem d_C_passOneSlot_11 : decode b_C_passOneSlot 11 = .ok (.getfield 20, 3) := by decide +kernel
theorem d_C_passOneSlot_14 : decode b_C_passOneSlot 14 = .ok (.astore_n 1, 1) := by decide +kernel
theorem d_C_passOneSlot_15 : decode b_C_passOneSlot 15 = .ok (.aload_n 1, 1) := by decide +kernel
theorem d_C_passOneSlot_16 : decode b_C_passOneSlot 16 = .ok (.arraylength, 1) := by decide +kernel
theorem d_C_passOneSlot_17 : decode b_C_passOneSlot 17 = .ok (.istore_n 2, 1) := by decide +kernel
theorem d_C_passOneSlot_18 : decode b_C_passOneSlot 18 = .ok (.iconst 0, 1) := by decide +kernel
theorem d_C_passOneSlot_19 : decode b_C_passOneSlot 19 = .ok (.istore_n 3, 1) := by decide +kernel
theorem d_C_passOneSlot_20 : decode b_C_passOneSlot 20 = .ok (.iload_n 3, 1) := by decide +kernel
theorem d_C_passOneSlot_21 : decode b_C_passOneSlot 21 = .ok (.iload_n 2, 1) := by decide +kernel
theorem d_C_passOneSlot_22 : decode b_C_passOneSlot 22 = .ok (.if_icmp .ge 19, 3) := by decide +kernel
theorem d_C_passOneSlot_25 : decode b_C_passOneSlot 25 = .ok (.aload_n 1, 1) := by decide +kernel
theorem d_C_passOneSlot_26 : decode b_C_passOneSlot 26 = .ok (.iload_n 3, 1) := by decide +kernel
theorem d_C_passOneSlot_27 : decode b_C_passOneSlot 27 = .ok (.aaload, 1) := by decide +kernel
theorem d_C_passOneSlot_28 : decode b_C_passOneSlot 28 = .ok (.astore 4, 2) := by decide +kernel
theorem d_C_passOneSlot_30 : decode b_C_passOneSlot 30 = .ok (.aload 4, 2) := by decide +kernel
theorem d_C_passOneSlot_32 : decode b_C_passOneSlot 32 = .ok (.invokevirtual 115, 3) := by decide +kernel
theorem d_C_passOneSlot_35 : decode b_C_passOneSlot 35 = .ok (.iinc 3 1, 3) := by decide +kernel
theorem d_C_passOneSlot_38 : decode b_C_passOneSlot 38 = .ok (.goto (-18), 3) := by decide +kernel
theorem d_C_passOneSlot_41 : decode b_C_passOneSlot 41 = .ok (.aload_n 0, 1) := by decide +kernel
theorem d_C_passOneSlot_42 : decode b_C_passOneSlot 42 = .ok (.invokevirtual 118, 3) := by decide +kernel
theorem d_C_passOneSlot_45 : decode b_C_passOneSlot 45 = .ok (.aload_n 0, 1) := by decide +kernel
theorem d_C_passOneSlot_46 : decode b_C_passOneSlot 46 = .ok (.invokevirtual 121, 3) := by decide +kernel
theorem d_C_passOneSlot_49 : decode b_C_passOneSlot 49 = .ok (.aload_n 0, 1) := by decide +kernel
theorem d_C_passOneSlot_50 : decode b_C_passOneSlot 50 = .ok (.invokevirtual 124, 3) := by decide +kernel
theorem d_C_passOneSlot_53 : decode b_C_passOneSlot 53 = .ok (.aload_n 0, 1) := by decide +kernel
theorem d_C_passOneSlot_54 : decode b_C_passOneSlot 54 = .ok (.getfield 20, 3) := by decide +kernel
theorem d_C_passOneSlot_57 : decode b_C_passOneSlot 57 = .ok (.astore_n 1, 1) := by decide +kernel
theorem d_C_passOneSlot_58 : decode b_C_passOneSlot 58 = .ok (.aload_n 1, 1) := by decide +kernel
theorem d_C_passOneSlot_59 : decode b_C_passOneSlot 59 = .ok (.arraylength, 1) := by decide +kernel
theorem d_C_passOneSlot_60 : decode b_C_passOneSlot 60 = .ok (.istore_n 2, 1) := by decide +kernel
theorem d_C_passOneSlot_61 : decode b_C_passOneSlot 61 = .ok (.iconst 0, 1) := by decide +kernel
theorem d_C_passOneSlot_62 : decode b_C_passOneSlot 62 = .ok (.istore_n 3, 1) := by decide +kernel
theorem d_C_passOneSlot_63 : decode b_C_passOneSlot 63 = .ok (.iload_n 3, 1) := by decide +kernel
theorem d_C_passOneSlot_64 : decode b_C_passOneSlot 64 = .ok (.iload_n 2, 1) := by decide +kernel
theorem d_C_passOneSlot_65 : decode b_C_passOneSlot 65 = .ok (.if_icmp .ge 19, 3) := by decide +kernel
theorem d_C_passOneSlot_68 : decode b_C_passOneSlot 68 = .ok (.aload_n 1, 1) := by decide +kernel
theorem d_C_passOneSlot_69 : decode b_C_passOneSlot 69 = .ok (.iload_n 3, 1) := by decide +kernel
theorem d_C_passOneSlot_70 : decode b_C_passOneSlot 70 = .ok (.aaload, 1) := by decide +kernel
theorem d_C_passOneSlot_71 : decode b_C_passOneSlot 71 = .ok (.astore 4, 2) := by decide +kernel
theorem d_C_passOneSlot_73 : decode b_C_passOneSlot 73 = .ok (.aload 4, 2) := by decide +kernel
theorem d_C_passOneSlot_75 : decode b_C_passOneSlot 75 = .ok (.invokevirtual 127, 3) := by decide +kernel
theorem d_C_passOneSlot_78 : decode b_C_passOneSlot 78 = .ok (.iinc 3 1, 3) := by decide +kernel
theorem d_C_passOneSlot_81 : decode b_C_passOneSlot 81 = .ok (.goto (-18), 3) := by decide +kernel
theorem d_C_passOneSlot_84 : decode b_C_passOneSlot 84 = .ok (.return_, 1) := by decide +kernel
theorem d_C_sendAll_0 : decode b_C_sendAll 0 = .ok (.aload_n 0, 1) := by decide +kernel
theorem d_C_sendAll_1 : decode b_C_sendAll 1 = .ok (.getfield 30, 3) := by decide +kernel
theorem d_C_sendAll_4 : decode b_C_sendAll 4 = .ok (.invokevirtual 130, 3) := by decide +kernel
theorem d_C_sendAll_7 : decode b_C_sendAll 7 = .ok (.aload_n 0, 1) := by decide +kernel
theorem d_C_sendAll_8 : decode b_C_sendAll 8 = .ok (.getfield 20, 3) := by decide +kernel
theorem d_C_sendAll_11 : decode b_C_sendAll 11 = .ok (.astore_n 1, 1) := by decide +kernel
theorem d_C_sendAll_12 : decode b_C_sendAll 12 = .ok (.aload_n 1, 1) := by decide +kernel
theorem d_C_sendAll_13 : decode b_C_sendAll 13 = .ok (.arraylength, 1) := by decide +kernel
theorem d_C_sendAll_14 : decode b_C_sendAll 14 = .ok (.istore_n 2, 1) := by decide +kernel
theorem d_C_sendAll_15 : decode b_C_sendAll 15 = .ok (.iconst 0, 1) := by decide +kernel
theorem d_C_sendAll_16 : decode b_C_sendAll 16 = .ok (.istore_n 3, 1) := by decide +kernel
theorem d_C_sendAll_17 : decode b_C_sendAll 17 = .ok (.iload_n 3, 1) := by decide +kernel
theorem d_C_sendAll_18 : decode b_C_sendAll 18 = .ok (.iload_n 2, 1) := by decide +kernel
theorem d_C_sendAll_19 : decode b_C_sendAll 19 = .ok (.if_icmp .ge 36, 3) := by decide +kernel
theorem d_C_sendAll_22 : decode b_C_sendAll 22 = .ok (.aload_n 1, 1) := by decide +kernel
theorem d_C_sendAll_23 : decode b_C_sendAll 23 = .ok (.iload_n 3, 1) := by decide +kernel
theorem d_C_sendAll_24 : decode b_C_sendAll 24 = .ok (.aaload, 1) := by decide +kernel
theorem d_C_sendAll_25 : decode b_C_sendAll 25 = .ok (.astore 4, 2) := by decide +kernel
theorem d_C_sendAll_27 : decode b_C_sendAll 27 = .ok (.aload 4, 2) := by decide +kernel
theorem d_C_sendAll_29 : decode b_C_sendAll 29 = .ok (.invokevirtual 133, 3) := by decide +kernel
theorem d_C_sendAll_32 : decode b_C_sendAll 32 = .ok (.aload 4, 2) := by decide +kernel
theorem d_C_sendAll_34 : decode b_C_sendAll 34 = .ok (.getfield 136, 3) := by decide +kernel
theorem d_C_sendAll_37 : decode b_C_sendAll 37 = .ok (.ifCond .eq 12, 3) := by decide +kernel
theorem d_C_sendAll_40 : decode b_C_sendAll 40 = .ok (.aload_n 0, 1) := by decide +kernel
theorem d_C_sendAll_41 : decode b_C_sendAll 41 = .ok (.getfield 30, 3) := by decide +kernel
theorem d_C_sendAll_44 : decode b_C_sendAll 44 = .ok (.aload 4, 2) := by decide +kernel
theorem d_C_sendAll_46 : decode b_C_sendAll 46 = .ok (.invokevirtual 139, 3) := by decide +kernel
theorem d_C_sendAll_49 : decode b_C_sendAll 49 = .ok (.iinc 3 1, 3) := by decide +kernel
theorem d_C_sendAll_52 : decode b_C_sendAll 52 = .ok (.goto (-35), 3) := by decide +kernel
theorem d_C_sendAll_55 : decode b_C_sendAll 55 = .ok (.return_, 1) := by decide +kernel
theorem d_C_loseMutedFrame_0 : decode b_C_loseMutedFrame 0 = .ok (.aload_n 0, 1) := by decide +kernel
theorem d_C_loseMutedFrame_1 : decode b_C_loseMutedFrame 1 = .ok (.getfield 30, 3) := by decide +kernel
theorem d_C_loseMutedFrame_4 : decode b_C_loseMutedFrame 4 = .ok (.invokevirtual 71, 3) := by decide +kernel
theorem d_C_loseMutedFrame_7 : decode b_C_loseMutedFrame 7 = .ok (.ifCond .ne 4, 3) := by decide +kernel
theorem d_C_loseMutedFrame_10 : decode b_C_loseMutedFrame 10 = .ok (.return_, 1) := by decide +kernel
theorem d_C_loseMutedFrame_11 : decode b_C_loseMutedFrame 11 = .ok (.aload_n 0, 1) := by decide +kernel
theorem d_C_loseMutedFrame_12 : decode b_C_loseMutedFrame 12 = .ok (.aload_n 0, 1) := by decide +kernel
theorem d_C_loseMutedFrame_13 : decode b_C_loseMutedFrame 13 = .ok (.getfield 30, 3) := by decide +kernel
theorem d_C_loseMutedFrame_16 : decode b_C_loseMutedFrame 16 = .ok (.getfield 81, 3) := by decide +kernel
theorem d_C_loseMutedFrame_19 : decode b_C_loseMutedFrame 19 = .ok (.invokevirtual 34, 3) := by decide +kernel
theorem d_C_loseMutedFrame_22 : decode b_C_loseMutedFrame 22 = .ok (.astore_n 1, 1) := by decide +kernel
theorem d_C_loseMutedFrame_23 : decode b_C_loseMutedFrame 23 = .ok (.aload_n 1, 1) := by decide +kernel
theorem d_C_loseMutedFrame_24 : decode b_C_loseMutedFrame 24 = .ok (.ifnull 22, 3) := by decide +kernel
theorem d_C_loseMutedFrame_27 : decode b_C_loseMutedFrame 27 = .ok (.aload_n 1, 1) := by decide +kernel
theorem d_C_loseMutedFrame_28 : decode b_C_loseMutedFrame 28 = .ok (.getfield 58, 3) := by decide +kernel
theorem d_C_loseMutedFrame_31 : decode b_C_loseMutedFrame 31 = .ok (.ifCond .eq 15, 3) := by decide +kernel
theorem d_C_loseMutedFrame_34 : decode b_C_loseMutedFrame 34 = .ok (.aload_n 1, 1) := by decide +kernel
theorem d_C_loseMutedFrame_35 : decode b_C_loseMutedFrame 35 = .ok (.iconst 0, 1) := by decide +kernel
theorem d_C_loseMutedFrame_36 : decode b_C_loseMutedFrame 36 = .ok (.putfield 58, 3) := by decide +kernel
theorem d_C_loseMutedFrame_39 : decode b_C_loseMutedFrame 39 = .ok (.aload_n 0, 1) := by decide +kernel
theorem d_C_loseMutedFrame_40 : decode b_C_loseMutedFrame 40 = .ok (.getfield 30, 3) := by decide +kernel
theorem d_C_loseMutedFrame_43 : decode b_C_loseMutedFrame 43 = .ok (.invokevirtual 130, 3) := by decide +kernel
theorem d_C_loseMutedFrame_46 : decode b_C_loseMutedFrame 46 = .ok (.return_, 1) := by decide +kernel
theorem d_C_hearAll_0 : decode b_C_hearAll 0 = .ok (.aload_n 0, 1) := by decide +kernel
theorem d_C_hearAll_1 : decode b_C_hearAll 1 = .ok (.getfield 20, 3) := by decide +kernel
theorem d_C_hearAll_4 : decode b_C_hearAll 4 = .ok (.astore_n 1, 1) := by decide +kernel
theorem d_C_hearAll_5 : decode b_C_hearAll 5 = .ok (.aload_n 1, 1) := by decide +kernel
theorem d_C_hearAll_6 : decode b_C_hearAll 6 = .ok (.arraylength, 1) := by decide +kernel
theorem d_C_hearAll_7 : decode b_C_hearAll 7 = .ok (.istore_n 2, 1) := by decide +kernel
theorem d_C_hearAll_8 : decode b_C_hearAll 8 = .ok (.iconst 0, 1) := by decide +kernel
theorem d_C_hearAll_9 : decode b_C_hearAll 9 = .ok (.istore_n 3, 1) := by decide +kernel
theorem d_C_hearAll_10 : decode b_C_hearAll 10 = .ok (.iload_n 3, 1) := by decide +kernel
theorem d_C_hearAll_11 : decode b_C_hearAll 11 = .ok (.iload_n 2, 1) := by decide +kernel
theorem d_C_hearAll_12 : decode b_C_hearAll 12 = .ok (.if_icmp .ge 81, 3) := by decide +kernel
theorem d_C_hearAll_15 : decode b_C_hearAll 15 = .ok (.aload_n 1, 1) := by decide +kernel
theorem d_C_hearAll_16 : decode b_C_hearAll 16 = .ok (.iload_n 3, 1) := by decide +kernel
theorem d_C_hearAll_17 : decode b_C_hearAll 17 = .ok (.aaload, 1) := by decide +kernel
theorem d_C_hearAll_18 : decode b_C_hearAll 18 = .ok (.astore 4, 2) := by decide +kernel
theorem d_C_hearAll_20 : decode b_C_hearAll 20 = .ok (.aload 4, 2) := by decide +kernel
theorem d_C_hearAll_22 : decode b_C_hearAll 22 = .ok (.getfield 136, 3) := by decide +kernel
theorem d_C_hearAll_25 : decode b_C_hearAll 25 = .ok (.ifCond .eq 6, 3) := by decide +kernel
theorem d_C_hearAll_28 : decode b_C_hearAll 28 = .ok (.goto 59, 3) := by decide +kernel
theorem d_C_hearAll_31 : decode b_C_hearAll 31 = .ok (.aload 4, 2) := by decide +kernel
theorem d_C_hearAll_33 : decode b_C_hearAll 33 = .ok (.getfield 38, 3) := by decide +kernel
theorem d_C_hearAll_36 : decode b_C_hearAll 36 = .ok (.iconst 1, 1) := by decide +kernel
theorem d_C_hearAll_37 : decode b_C_hearAll 37 = .ok (.if_icmp .ne 24, 3) := by decide +kernel
theorem d_C_hearAll_40 : decode b_C_hearAll 40 = .ok (.aload 4, 2) := by decide +kernel
theorem d_C_hearAll_42 : decode b_C_hearAll 42 = .ok (.aload 4, 2) := by decide +kernel
theorem d_C_hearAll_44 : decode b_C_hearAll 44 = .ok (.aload_n 0, 1) := by decide +kernel
theorem d_C_hearAll_45 : decode b_C_hearAll 45 = .ok (.getfield 30, 3) := by decide +kernel
theorem d_C_hearAll_48 : decode b_C_hearAll 48 = .ok (.invokevirtual 143, 3) := by decide +kernel
theorem d_C_hearAll_51 : decode b_C_hearAll 51 = .ok (.aload_n 0, 1) := by decide +kernel
theorem d_C_hearAll_52 : decode b_C_hearAll 52 = .ok (.getfield 30, 3) := by decide +kernel
theorem d_C_hearAll_55 : decode b_C_hearAll 55 = .ok (.invokevirtual 147, 3) := by decide +kernel
theorem d_C_hearAll_58 : decode b_C_hearAll 58 = .ok (.goto 29, 3) := by decide +kernel
theorem d_C_hearAll_61 : decode b_C_hearAll 61 = .ok (.aload 4, 2) := by decide +kernel
theorem d_C_hearAll_63 : decode b_C_hearAll 63 = .ok (.invokevirtual 112, 3) := by decide +kernel
theorem d_C_hearAll_66 : decode b_C_hearAll 66 = .ok (.ifCond .eq 21, 3) := by decide +kernel
theorem d_C_hearAll_69 : decode b_C_hearAll 69 = .ok (.aload 4, 2) := by decide +kernel
theorem d_C_hearAll_71 : decode b_C_hearAll 71 = .ok (.aload 4, 2) := by decide +kernel
theorem d_C_hearAll_73 : decode b_C_hearAll 73 = .ok (.aload_n 0, 1) := by decide +kernel
theorem d_C_hearAll_74 : decode b_C_hearAll 74 = .ok (.getfield 30, 3) := by decide +kernel
theorem d_C_hearAll_77 : decode b_C_hearAll 77 = .ok (.invokevirtual 143, 3) := by decide +kernel
theorem d_C_hearAll_80 : decode b_C_hearAll 80 = .ok (.aload_n 0, 1) := by decide +kernel
theorem d_C_hearAll_81 : decode b_C_hearAll 81 = .ok (.getfield 30, 3) := by decide +kernel
theorem d_C_hearAll_84 : decode b_C_hearAll 84 = .ok (.invokevirtual 151, 3) := by decide +kernel
theorem d_C_hearAll_87 : decode b_C_hearAll 87 = .ok (.iinc 3 1, 3) := by decide +kernel
theorem d_C_hearAll_90 : decode b_C_hearAll 90 = .ok (.goto (-80), 3) := by decide +kernel
theorem d_C_hearAll_93 : decode b_C_hearAll 93 = .ok (.return_, 1) := by decide +kernel
theorem d_D_init_0 : decode b_D_init 0 = .ok (.aload_n 0, 1) := by decide +kernel
theorem d_D_init_1 : decode b_D_init 1 = .ok (.invokespecial 3, 3) := by decide +kernel
theorem d_D_init_4 : decode b_D_init 4 = .ok (.aload_n 0, 1) := by decide +kernel
theorem d_D_init_5 : decode b_D_init 5 = .ok (.iconst 4, 1) := by decide +kernel
theorem d_D_init_6 : decode b_D_init 6 = .ok (.newarray .int, 2) := by decide +kernel
theorem d_D_init_8 : decode b_D_init 8 = .ok (.putfield 9, 3) := by decide +kernel
theorem d_D_init_11 : decode b_D_init 11 = .ok (.return_, 1) := by decide +kernel
theorem d_D_forget_0 : decode b_D_forget 0 = .ok (.aload_n 0, 1) := by decide +kernel
theorem d_D_forget_1 : decode b_D_forget 1 = .ok (.iconst 0, 1) := by decide +kernel
theorem d_D_forget_2 : decode b_D_forget 2 = .ok (.putfield 15, 3) := by decide +kernel
theorem d_D_forget_5 : decode b_D_forget 5 = .ok (.aload_n 0, 1) := by decide +kernel
theorem d_D_forget_6 : decode b_D_forget 6 = .ok (.iconst 0, 1) := by decide +kernel
theorem d_D_forget_7 : decode b_D_forget 7 = .ok (.putfield 19, 3) := by decide +kernel
theorem d_D_forget_10 : decode b_D_forget 10 = .ok (.return_, 1) := by decide +kernel
theorem d_D_keep_0 : decode b_D_keep 0 = .ok (.aload_n 0, 1) := by decide +kernel
theorem d_D_keep_1 : decode b_D_keep 1 = .ok (.getfield 19, 3) := by decide +kernel
theorem d_D_keep_4 : decode b_D_keep 4 = .ok (.iconst 4, 1) := by decide +kernel
theorem d_D_keep_5 : decode b_D_keep 5 = .ok (.if_icmp .lt 8, 3) := by decide +kernel
theorem d_D_keep_8 : decode b_D_keep 8 = .ok (.aload_n 0, 1) := by decide +kernel
theorem d_D_keep_9 : decode b_D_keep 9 = .ok (.iconst 0, 1) := by decide +kernel
theorem d_D_keep_10 : decode b_D_keep 10 = .ok (.putfield 19, 3) := by decide +kernel
theorem d_D_keep_13 : decode b_D_keep 13 = .ok (.aload_n 0, 1) := by decide +kernel
theorem d_D_keep_14 : decode b_D_keep 14 = .ok (.getfield 9, 3) := by decide +kernel
theorem d_D_keep_17 : decode b_D_keep 17 = .ok (.aload_n 0, 1) := by decide +kernel
theorem d_D_keep_18 : decode b_D_keep 18 = .ok (.getfield 19, 3) := by decide +kernel
theorem d_D_keep_21 : decode b_D_keep 21 = .ok (.iload_n 1, 1) := by decide +kernel
theorem d_D_keep_22 : decode b_D_keep 22 = .ok (.iastore, 1) := by decide +kernel
theorem d_D_keep_23 : decode b_D_keep 23 = .ok (.aload_n 0, 1) := by decide +kernel
theorem d_D_keep_24 : decode b_D_keep 24 = .ok (.dup, 1) := by decide +kernel
theorem d_D_keep_25 : decode b_D_keep 25 = .ok (.getfield 19, 3) := by decide +kernel
theorem d_D_keep_28 : decode b_D_keep 28 = .ok (.iconst 1, 1) := by decide +kernel
theorem d_D_keep_29 : decode b_D_keep 29 = .ok (.iadd, 1) := by decide +kernel
theorem d_D_keep_30 : decode b_D_keep 30 = .ok (.putfield 19, 3) := by decide +kernel
theorem d_D_keep_33 : decode b_D_keep 33 = .ok (.aload_n 0, 1) := by decide +kernel
theorem d_D_keep_34 : decode b_D_keep 34 = .ok (.getfield 15, 3) := by decide +kernel
theorem d_D_keep_37 : decode b_D_keep 37 = .ok (.iconst 4, 1) := by decide +kernel
theorem d_D_keep_38 : decode b_D_keep 38 = .ok (.if_icmp .ge 13, 3) := by decide +kernel
theorem d_D_keep_41 : decode b_D_keep 41 = .ok (.aload_n 0, 1) := by decide +kernel
theorem d_D_keep_42 : decode b_D_keep 42 = .ok (.dup, 1) := by decide +kernel
theorem d_D_keep_43 : decode b_D_keep 43 = .ok (.getfield 15, 3) := by decide +kernel
theorem d_D_keep_46 : decode b_D_keep 46 = .ok (.iconst 1, 1) := by decide +kernel
theorem d_D_keep_47 : decode b_D_keep 47 = .ok (.iadd, 1) := by decide +kernel
theorem d_D_keep_48 : decode b_D_keep 48 = .ok (.putfield 15, 3) := by decide +kernel
theorem d_D_keep_51 : decode b_D_keep 51 = .ok (.return_, 1) := by decide +kernel
theorem d_D_areComplete_0 : decode b_D_areComplete 0 = .ok (.aload_n 0, 1) := by decide +kernel
theorem d_D_areComplete_1 : decode b_D_areComplete 1 = .ok (.getfield 15, 3) := by decide +kernel
theorem d_D_areComplete_4 : decode b_D_areComplete 4 = .ok (.iconst 4, 1) := by decide +kernel
theorem d_D_areComplete_5 : decode b_D_areComplete 5 = .ok (.if_icmp .ne 7, 3) := by decide +kernel
theorem d_D_areComplete_8 : decode b_D_areComplete 8 = .ok (.iconst 1, 1) := by decide +kernel
theorem d_D_areComplete_9 : decode b_D_areComplete 9 = .ok (.goto 4, 3) := by decide +kernel
theorem d_D_areComplete_12 : decode b_D_areComplete 12 = .ok (.iconst 0, 1) := by decide +kernel
theorem d_D_areComplete_13 : decode b_D_areComplete 13 = .ok (.ireturn, 1) := by decide +kernel
theorem d_D_middle_0 : decode b_D_middle 0 = .ok (.iconst 0, 1) := by decide +kernel
theorem d_D_middle_1 : decode b_D_middle 1 = .ok (.istore_n 1, 1) := by decide +kernel
theorem d_D_middle_2 : decode b_D_middle 2 = .ok (.aload_n 0, 1) := by decide +kernel
theorem d_D_middle_3 : decode b_D_middle 3 = .ok (.getfield 9, 3) := by decide +kernel
theorem d_D_middle_6 : decode b_D_middle 6 = .ok (.iconst 0, 1) := by decide +kernel
theorem d_D_middle_7 : decode b_D_middle 7 = .ok (.iaload, 1) := by decide +kernel
theorem d_D_middle_8 : decode b_D_middle 8 = .ok (.istore_n 2, 1) := by decide +kernel
theorem d_D_middle_9 : decode b_D_middle 9 = .ok (.aload_n 0, 1) := by decide +kernel
theorem d_D_middle_10 : decode b_D_middle 10 = .ok (.getfield 9, 3) := by decide +kernel
theorem d_D_middle_13 : decode b_D_middle 13 = .ok (.iconst 0, 1) := by decide +kernel
theorem d_D_middle_14 : decode b_D_middle 14 = .ok (.iaload, 1) := by decide +kernel
theorem d_D_middle_15 : decode b_D_middle 15 = .ok (.istore_n 3, 1) := by decide +kernel
theorem d_D_middle_16 : decode b_D_middle 16 = .ok (.aload_n 0, 1) := by decide +kernel
theorem d_D_middle_17 : decode b_D_middle 17 = .ok (.getfield 9, 3) := by decide +kernel
theorem d_D_middle_20 : decode b_D_middle 20 = .ok (.astore 4, 2) := by decide +kernel
theorem d_D_middle_22 : decode b_D_middle 22 = .ok (.aload 4, 2) := by decide +kernel
theorem d_D_middle_24 : decode b_D_middle 24 = .ok (.arraylength, 1) := by decide +kernel
theorem d_D_middle_25 : decode b_D_middle 25 = .ok (.istore 5, 2) := by decide +kernel
theorem d_D_middle_27 : decode b_D_middle 27 = .ok (.iconst 0, 1) := by decide +kernel
theorem d_D_middle_28 : decode b_D_middle 28 = .ok (.istore 6, 2) := by decide +kernel
theorem d_D_middle_30 : decode b_D_middle 30 = .ok (.iload 6, 2) := by decide +kernel
theorem d_D_middle_32 : decode b_D_middle 32 = .ok (.iload 5, 2) := by decide +kernel
theorem d_D_middle_34 : decode b_D_middle 34 = .ok (.if_icmp .ge 35, 3) := by decide +kernel
theorem d_D_middle_37 : decode b_D_middle 37 = .ok (.aload 4, 2) := by decide +kernel
theorem d_D_middle_39 : decode b_D_middle 39 = .ok (.iload 6, 2) := by decide +kernel
theorem d_D_middle_41 : decode b_D_middle 41 = .ok (.iaload, 1) := by decide +kernel
theorem d_D_middle_42 : decode b_D_middle 42 = .ok (.istore 7, 2) := by decide +kernel
theorem d_D_middle_44 : decode b_D_middle 44 = .ok (.iload_n 1, 1) := by decide +kernel
theorem d_D_middle_45 : decode b_D_middle 45 = .ok (.iload 7, 2) := by decide +kernel
theorem d_D_middle_47 : decode b_D_middle 47 = .ok (.iadd, 1) := by decide +kernel
theorem d_D_middle_48 : decode b_D_middle 48 = .ok (.istore_n 1, 1) := by decide +kernel
theorem d_D_middle_49 : decode b_D_middle 49 = .ok (.iload_n 2, 1) := by decide +kernel
theorem d_D_middle_50 : decode b_D_middle 50 = .ok (.iload 7, 2) := by decide +kernel
theorem d_D_middle_52 : decode b_D_middle 52 = .ok (.invokestatic 22, 3) := by decide +kernel
theorem d_D_middle_55 : decode b_D_middle 55 = .ok (.istore_n 2, 1) := by decide +kernel
theorem d_D_middle_56 : decode b_D_middle 56 = .ok (.iload_n 3, 1) := by decide +kernel
theorem d_D_middle_57 : decode b_D_middle 57 = .ok (.iload 7, 2) := by decide +kernel
theorem d_D_middle_59 : decode b_D_middle 59 = .ok (.invokestatic 28, 3) := by decide +kernel
theorem d_D_middle_62 : decode b_D_middle 62 = .ok (.istore_n 3, 1) := by decide +kernel
theorem d_D_middle_63 : decode b_D_middle 63 = .ok (.iinc 6 1, 3) := by decide +kernel
theorem d_D_middle_66 : decode b_D_middle 66 = .ok (.goto (-36), 3) := by decide +kernel
theorem d_D_middle_69 : decode b_D_middle 69 = .ok (.iload_n 1, 1) := by decide +kernel
theorem d_D_middle_70 : decode b_D_middle 70 = .ok (.iload_n 2, 1) := by decide +kernel
theorem d_D_middle_71 : decode b_D_middle 71 = .ok (.isub, 1) := by decide +kernel
theorem d_D_middle_72 : decode b_D_middle 72 = .ok (.iload_n 3, 1) := by decide +kernel
theorem d_D_middle_73 : decode b_D_middle 73 = .ok (.isub, 1) := by decide +kernel
theorem d_D_middle_74 : decode b_D_middle 74 = .ok (.iconst 2, 1) := by decide +kernel
theorem d_D_middle_75 : decode b_D_middle 75 = .ok (.idiv, 1) := by decide +kernel
theorem d_D_middle_76 : decode b_D_middle 76 = .ok (.ireturn, 1) := by decide +kernel
theorem d_N_init_0 : decode b_N_init 0 = .ok (.aload_n 0, 1) := by decide +kernel
theorem d_N_init_1 : decode b_N_init 1 = .ok (.invokespecial 3, 3) := by decide +kernel
theorem d_N_init_4 : decode b_N_init 4 = .ok (.aload_n 0, 1) := by decide +kernel
theorem d_N_init_5 : decode b_N_init 5 = .ok (.iload_n 1, 1) := by decide +kernel
theorem d_N_init_6 : decode b_N_init 6 = .ok (.putfield 9, 3) := by decide +kernel
theorem d_N_init_9 : decode b_N_init 9 = .ok (.aload_n 0, 1) := by decide +kernel
theorem d_N_init_10 : decode b_N_init 10 = .ok (.iload_n 2, 1) := by decide +kernel
theorem d_N_init_11 : decode b_N_init 11 = .ok (.putfield 15, 3) := by decide +kernel
theorem d_N_init_14 : decode b_N_init 14 = .ok (.aload_n 0, 1) := by decide +kernel
theorem d_N_init_15 : decode b_N_init 15 = .ok (.new 18, 3) := by decide +kernel
theorem d_N_init_18 : decode b_N_init 18 = .ok (.dup, 1) := by decide +kernel
theorem d_N_init_19 : decode b_N_init 19 = .ok (.invokespecial 20, 3) := by decide +kernel
theorem d_N_init_22 : decode b_N_init 22 = .ok (.putfield 21, 3) := by decide +kernel
theorem d_N_init_25 : decode b_N_init 25 = .ok (.aload_n 0, 1) := by decide +kernel
theorem d_N_init_26 : decode b_N_init 26 = .ok (.iconst 0, 1) := by decide +kernel
theorem d_N_init_27 : decode b_N_init 27 = .ok (.putfield 25, 3) := by decide +kernel
theorem d_N_init_30 : decode b_N_init 30 = .ok (.aload_n 0, 1) := by decide +kernel
theorem d_N_init_31 : decode b_N_init 31 = .ok (.iconst 0, 1) := by decide +kernel
theorem d_N_init_32 : decode b_N_init 32 = .ok (.putfield 28, 3) := by decide +kernel
theorem d_N_init_35 : decode b_N_init 35 = .ok (.aload_n 0, 1) := by decide +kernel
theorem d_N_init_36 : decode b_N_init 36 = .ok (.iconst 0, 1) := by decide +kernel
theorem d_N_init_37 : decode b_N_init 37 = .ok (.putfield 31, 3) := by decide +kernel
theorem d_N_init_40 : decode b_N_init 40 = .ok (.return_, 1) := by decide +kernel
theorem d_N_isInside_0 : decode b_N_isInside 0 = .ok (.aload_n 0, 1) := by decide +kernel
theorem d_N_isInside_1 : decode b_N_isInside 1 = .ok (.getfield 25, 3) := by decide +kernel
theorem d_N_isInside_4 : decode b_N_isInside 4 = .ok (.iconst 2, 1) := by decide +kernel
theorem d_N_isInside_5 : decode b_N_isInside 5 = .ok (.if_icmp .eq 19, 3) := by decide +kernel
theorem d_N_isInside_8 : decode b_N_isInside 8 = .ok (.aload_n 0, 1) := by decide +kernel
theorem d_N_isInside_9 : decode b_N_isInside 9 = .ok (.getfield 25, 3) := by decide +kernel
theorem d_N_isInside_12 : decode b_N_isInside 12 = .ok (.iconst 3, 1) := by decide +kernel
theorem d_N_isInside_13 : decode b_N_isInside 13 = .ok (.if_icmp .eq 11, 3) := by decide +kernel
theorem d_N_isInside_16 : decode b_N_isInside 16 = .ok (.aload_n 0, 1) := by decide +kernel
theorem d_N_isInside_17 : decode b_N_isInside 17 = .ok (.getfield 25, 3) := by decide +kernel
theorem d_N_isInside_20 : decode b_N_isInside 20 = .ok (.iconst 4, 1) := by decide +kernel
theorem d_N_isInside_21 : decode b_N_isInside 21 = .ok (.if_icmp .ne 7, 3) := by decide +kernel
theorem d_N_isInside_24 : decode b_N_isInside 24 = .ok (.iconst 1, 1) := by decide +kernel
theorem d_N_isInside_25 : decode b_N_isInside 25 = .ok (.goto 4, 3) := by decide +kernel
theorem d_N_isInside_28 : decode b_N_isInside 28 = .ok (.iconst 0, 1) := by decide +kernel
theorem d_N_isInside_29 : decode b_N_isInside 29 = .ok (.ireturn, 1) := by decide +kernel
theorem d_N_seesTheSameAs_0 : decode b_N_seesTheSameAs 0 = .ok (.aload_n 0, 1) := by decide +kernel
theorem d_N_seesTheSameAs_1 : decode b_N_seesTheSameAs 1 = .ok (.getfield 34, 3) := by decide +kernel
theorem d_N_seesTheSameAs_4 : decode b_N_seesTheSameAs 4 = .ok (.aload_n 1, 1) := by decide +kernel
theorem d_N_seesTheSameAs_5 : decode b_N_seesTheSameAs 5 = .ok (.getfield 34, 3) := by decide +kernel
theorem d_N_seesTheSameAs_8 : decode b_N_seesTheSameAs 8 = .ok (.if_icmp .ne 29, 3) := by decide +kernel
theorem d_N_seesTheSameAs_11 : decode b_N_seesTheSameAs 11 = .ok (.aload_n 0, 1) := by decide +kernel
theorem d_N_seesTheSameAs_12 : decode b_N_seesTheSameAs 12 = .ok (.getfield 37, 3) := by decide +kernel
theorem d_N_seesTheSameAs_15 : decode b_N_seesTheSameAs 15 = .ok (.aload_n 1, 1) := by decide +kernel
theorem d_N_seesTheSameAs_16 : decode b_N_seesTheSameAs 16 = .ok (.getfield 37, 3) := by decide +kernel
theorem d_N_seesTheSameAs_19 : decode b_N_seesTheSameAs 19 = .ok (.if_icmp .ne 18, 3) := by decide +kernel
theorem d_N_seesTheSameAs_22 : decode b_N_seesTheSameAs 22 = .ok (.aload_n 0, 1) := by decide +kernel
theorem d_N_seesTheSameAs_23 : decode b_N_seesTheSameAs 23 = .ok (.getfield 40, 3) := by decide +kernel
theorem d_N_seesTheSameAs_26 : decode b_N_seesTheSameAs 26 = .ok (.aload_n 1, 1) := by decide +kernel
theorem d_N_seesTheSameAs_27 : decode b_N_seesTheSameAs 27 = .ok (.getfield 40, 3) := by decide +kernel
theorem d_N_seesTheSameAs_30 : decode b_N_seesTheSameAs 30 = .ok (.if_icmp .ne 7, 3) := by decide +kernel
theorem d_N_seesTheSameAs_33 : decode b_N_seesTheSameAs 33 = .ok (.iconst 1, 1) := by decide +kernel
theorem d_N_seesTheSameAs_34 : decode b_N_seesTheSameAs 34 = .ok (.goto 4, 3) := by decide +kernel
theorem d_N_seesTheSameAs_37 : decode b_N_seesTheSameAs 37 = .ok (.iconst 0, 1) := by decide +kernel
theorem d_N_seesTheSameAs_38 : decode b_N_seesTheSameAs 38 = .ok (.ireturn, 1) := by decide +kernel
theorem d_N_switchOn_0 : decode b_N_switchOn 0 = .ok (.aload_n 0, 1) := by decide +kernel
theorem d_N_switchOn_1 : decode b_N_switchOn 1 = .ok (.invokevirtual 43, 3) := by decide +kernel
theorem d_N_switchOn_4 : decode b_N_switchOn 4 = .ok (.aload_n 0, 1) := by decide +kernel
theorem d_N_switchOn_5 : decode b_N_switchOn 5 = .ok (.iload_n 1, 1) := by decide +kernel
theorem d_N_switchOn_6 : decode b_N_switchOn 6 = .ok (.putfield 46, 3) := by decide +kernel
theorem d_N_switchOn_9 : decode b_N_switchOn 9 = .ok (.aload_n 0, 1) := by decide +kernel
theorem d_N_switchOn_10 : decode b_N_switchOn 10 = .ok (.iconst 3, 1) := by decide +kernel
theorem d_N_switchOn_11 : decode b_N_switchOn 11 = .ok (.putfield 49, 3) := by decide +kernel
theorem d_N_switchOn_14 : decode b_N_switchOn 14 = .ok (.aload_n 0, 1) := by decide +kernel
theorem d_N_switchOn_15 : decode b_N_switchOn 15 = .ok (.iconst 0, 1) := by decide +kernel
theorem d_N_switchOn_16 : decode b_N_switchOn 16 = .ok (.putfield 52, 3) := by decide +kernel
theorem d_N_switchOn_19 : decode b_N_switchOn 19 = .ok (.aload_n 0, 1) := by decide +kernel
theorem d_N_switchOn_20 : decode b_N_switchOn 20 = .ok (.iconst 0, 1) := by decide +kernel
theorem d_N_switchOn_21 : decode b_N_switchOn 21 = .ok (.putfield 55, 3) := by decide +kernel
theorem d_N_switchOn_24 : decode b_N_switchOn 24 = .ok (.aload_n 0, 1) := by decide +kernel
theorem d_N_switchOn_25 : decode b_N_switchOn 25 = .ok (.iconst 0, 1) := by decide +kernel
theorem d_N_switchOn_26 : decode b_N_switchOn 26 = .ok (.putfield 58, 3) := by decide +kernel
theorem d_N_switchOn_29 : decode b_N_switchOn 29 = .ok (.aload_n 0, 1) := by decide +kernel
theorem d_N_switchOn_30 : decode b_N_switchOn 30 = .ok (.iconst 0, 1) := by decide +kernel
theorem d_N_switchOn_31 : decode b_N_switchOn 31 = .ok (.putfield 37, 3) := by decide +kernel
theorem d_N_switchOn_34 : decode b_N_switchOn 34 = .ok (.aload_n 0, 1) := by decide +kernel
theorem d_N_switchOn_35 : decode b_N_switchOn 35 = .ok (.iconst 0, 1) := by decide +kernel
theorem d_N_switchOn_36 : decode b_N_switchOn 36 = .ok (.putfield 40, 3) := by decide +kernel
theorem d_N_switchOn_39 : decode b_N_switchOn 39 = .ok (.aload_n 0, 1) := by decide +kernel
theorem d_N_switchOn_40 : decode b_N_switchOn 40 = .ok (.iconst 0, 1) := by decide +kernel
theorem d_N_switchOn_41 : decode b_N_switchOn 41 = .ok (.putfield 34, 3) := by decide +kernel
theorem d_N_switchOn_44 : decode b_N_switchOn 44 = .ok (.aload_n 0, 1) := by decide +kernel
theorem d_N_switchOn_45 : decode b_N_switchOn 45 = .ok (.iconst 0, 1) := by decide +kernel
theorem d_N_switchOn_46 : decode b_N_switchOn 46 = .ok (.putfield 28, 3) := by decide +kernel
theorem d_N_switchOn_49 : decode b_N_switchOn 49 = .ok (.return_, 1) := by decide +kernel
theorem d_N_switchOff_0 : decode b_N_switchOff 0 = .ok (.aload_n 0, 1) := by decide +kernel
theorem d_N_switchOff_1 : decode b_N_switchOff 1 = .ok (.iconst 0, 1) := by decide +kernel
theorem d_N_switchOff_2 : decode b_N_switchOff 2 = .ok (.putfield 25, 3) := by decide +kernel
theorem d_N_switchOff_5 : decode b_N_switchOff 5 = .ok (.aload_n 0, 1) := by decide +kernel
theorem d_N_switchOff_6 : decode b_N_switchOff 6 = .ok (.iconst 0, 1) := by decide +kernel
theorem d_N_switchOff_7 : decode b_N_switchOff 7 = .ok (.putfield 61, 3) := by decide +kernel
theorem d_N_switchOff_10 : decode b_N_switchOff 10 = .ok (.aload_n 0, 1) := by decide +kernel
theorem d_N_switchOff_11 : decode b_N_switchOff 11 = .ok (.iconst 0, 1) := by decide +kernel
theorem d_N_switchOff_12 : decode b_N_switchOff 12 = .ok (.putfield 65, 3) := by decide +kernel
theorem d_N_switchOff_15 : decode b_N_switchOff 15 = .ok (.return_, 1) := by decide +kernel
theorem d_N_beginListening_0 : decode b_N_beginListening 0 = .ok (.aload_n 0, 1) := by decide +kernel
theorem d_N_beginListening_1 : decode b_N_beginListening 1 = .ok (.iconst 1, 1) := by decide +kernel
theorem d_N_beginListening_2 : decode b_N_beginListening 2 = .ok (.putfield 25, 3) := by decide +kernel
theorem d_N_beginListening_5 : decode b_N_beginListening 5 = .ok (.aload_n 0, 1) := by decide +kernel
theorem d_N_beginListening_6 : decode b_N_beginListening 6 = .ok (.invokevirtual 68, 3) := by decide +kernel
theorem d_N_beginListening_9 : decode b_N_beginListening 9 = .ok (.aload_n 0, 1) := by decide +kernel
theorem d_N_beginListening_10 : decode b_N_beginListening 10 = .ok (.iconst 0, 1) := by decide +kernel
theorem d_N_beginListening_11 : decode b_N_beginListening 11 = .ok (.putfield 71, 3) := by decide +kernel
theorem d_N_beginListening_14 : decode b_N_beginListening 14 = .ok (.aload_n 0, 1) := by decide +kernel
theorem d_N_beginListening_15 : decode b_N_beginListening 15 = .ok (.getfield 21, 3) := by decide +kernel
theorem d_N_beginListening_18 : decode b_N_beginListening 18 = .ok (.invokevirtual 74, 3) := by decide +kernel
theorem d_N_beginListening_21 : decode b_N_beginListening 21 = .ok (.return_, 1) := by decide +kernel
theorem d_N_listenLong_0 : decode b_N_listenLong 0 = .ok (.aload_n 0, 1) := by decide +kernel
theorem d_N_listenLong_1 : decode b_N_listenLong 1 = .ok (.iconst 2, 1) := by decide +kernel
theorem d_N_listenLong_2 : decode b_N_listenLong 2 = .ok (.aload_n 0, 1) := by decide +kernel
theorem d_N_listenLong_3 : decode b_N_listenLong 3 = .ok (.getfield 15, 3) := by decide +kernel
theorem d_N_listenLong_6 : decode b_N_listenLong 6 = .ok (.imul, 1) := by decide +kernel
theorem d_N_listenLong_7 : decode b_N_listenLong 7 = .ok (.aload_n 0, 1) := by decide +kernel
theorem d_N_listenLong_8 : decode b_N_listenLong 8 = .ok (.getfield 9, 3) := by decide +kernel
theorem d_N_listenLong_11 : decode b_N_listenLong 11 = .ok (.iadd, 1) := by decide +kernel
theorem d_N_listenLong_12 : decode b_N_listenLong 12 = .ok (.putfield 77, 3) := by decide +kernel
theorem d_N_listenLong_15 : decode b_N_listenLong 15 = .ok (.return_, 1) := by decide +kernel
theorem d_N_moveClock_0 : decode b_N_moveClock 0 = .ok (.aload_n 0, 1) := by decide +kernel
theorem d_N_moveClock_1 : decode b_N_moveClock 1 = .ok (.getfield 25, 3) := by decide +kernel
theorem d_N_moveClock_4 : decode b_N_moveClock 4 = .ok (.ifCond .ne 4, 3) := by decide +kernel
theorem d_N_moveClock_7 : decode b_N_moveClock 7 = .ok (.return_, 1) := by decide +kernel
theorem d_N_moveClock_8 : decode b_N_moveClock 8 = .ok (.aload_n 0, 1) := by decide +kernel
theorem d_N_moveClock_9 : decode b_N_moveClock 9 = .ok (.dup, 1) := by decide +kernel
theorem d_N_moveClock_10 : decode b_N_moveClock 10 = .ok (.getfield 52, 3) := by decide +kernel
theorem d_N_moveClock_13 : decode b_N_moveClock 13 = .ok (.aload_n 0, 1) := by decide +kernel
theorem d_N_moveClock_14 : decode b_N_moveClock 14 = .ok (.getfield 46, 3) := by decide +kernel
theorem d_N_moveClock_17 : decode b_N_moveClock 17 = .ok (.iadd, 1) := by decide +kernel
theorem d_N_moveClock_18 : decode b_N_moveClock 18 = .ok (.putfield 52, 3) := by decide +kernel
theorem d_N_moveClock_21 : decode b_N_moveClock 21 = .ok (.aload_n 0, 1) := by decide +kernel
theorem d_N_moveClock_22 : decode b_N_moveClock 22 = .ok (.invokevirtual 80, 3) := by decide +kernel
theorem d_N_moveClock_25 : decode b_N_moveClock 25 = .ok (.ifCond .eq 53, 3) := by decide +kernel
theorem d_N_moveClock_28 : decode b_N_moveClock 28 = .ok (.aload_n 0, 1) := by decide +kernel
theorem d_N_moveClock_29 : decode b_N_moveClock 29 = .ok (.aload_n 0, 1) := by decide +kernel
theorem d_N_moveClock_30 : decode b_N_moveClock 30 = .ok (.getfield 37, 3) := by decide +kernel
theorem d_N_moveClock_33 : decode b_N_moveClock 33 = .ok (.aload_n 0, 1) := by decide +kernel
theorem d_N_moveClock_34 : decode b_N_moveClock 34 = .ok (.getfield 15, 3) := by decide +kernel
theorem d_N_moveClock_37 : decode b_N_moveClock 37 = .ok (.iconst 1, 1) := by decide +kernel
theorem d_N_moveClock_38 : decode b_N_moveClock 38 = .ok (.isub, 1) := by decide +kernel
theorem d_N_moveClock_39 : decode b_N_moveClock 39 = .ok (.if_icmp .ne 7, 3) := by decide +kernel
theorem d_N_moveClock_42 : decode b_N_moveClock 42 = .ok (.iconst 0, 1) := by decide +kernel
theorem d_N_moveClock_43 : decode b_N_moveClock 43 = .ok (.goto 9, 3) := by decide +kernel
theorem d_N_moveClock_46 : decode b_N_moveClock 46 = .ok (.aload_n 0, 1) := by decide +kernel
theorem d_N_moveClock_47 : decode b_N_moveClock 47 = .ok (.getfield 37, 3) := by decide +kernel
theorem d_N_moveClock_50 : decode b_N_moveClock 50 = .ok (.iconst 1, 1) := by decide +kernel
theorem d_N_moveClock_51 : decode b_N_moveClock 51 = .ok (.iadd, 1) := by decide +kernel
theorem d_N_moveClock_52 : decode b_N_moveClock 52 = .ok (.putfield 37, 3) := by decide +kernel
theorem d_N_moveClock_55 : decode b_N_moveClock 55 = .ok (.aload_n 0, 1) := by decide +kernel
theorem d_N_moveClock_56 : decode b_N_moveClock 56 = .ok (.aload_n 0, 1) := by decide +kernel
theorem d_N_moveClock_57 : decode b_N_moveClock 57 = .ok (.getfield 40, 3) := by decide +kernel
theorem d_N_moveClock_60 : decode b_N_moveClock 60 = .ok (.ldc 84, 2) := by decide +kernel
theorem d_N_moveClock_62 : decode b_N_moveClock 62 = .ok (.if_icmp .ne 7, 3) := by decide +kernel
theorem d_N_moveClock_65 : decode b_N_moveClock 65 = .ok (.iconst 0, 1) := by decide +kernel
theorem d_N_moveClock_66 : decode b_N_moveClock 66 = .ok (.goto 9, 3) := by decide +kernel
theorem d_N_moveClock_69 : decode b_N_moveClock 69 = .ok (.aload_n 0, 1) := by decide +kernel
theorem d_N_moveClock_70 : decode b_N_moveClock 70 = .ok (.getfield 40, 3) := by decide +kernel
theorem d_N_moveClock_73 : decode b_N_moveClock 73 = .ok (.iconst 1, 1) := by decide +kernel
theorem d_N_moveClock_74 : decode b_N_moveClock 74 = .ok (.iadd, 1) := by decide +kernel
theorem d_N_moveClock_75 : decode b_N_moveClock 75 = .ok (.putfield 40, 3) := by decide +kernel
theorem d_N_moveClock_78 : decode b_N_moveClock 78 = .ok (.return_, 1) := by decide +kernel
theorem d_N_chooseWhatToSend_0 : decode b_N_chooseWhatToSend 0 = .ok (.aload_n 0, 1) := by decide +kernel
theorem d_N_chooseWhatToSend_1 : decode b_N_chooseWhatToSend 1 = .ok (.iconst 0, 1) := by decide +kernel
theorem d_N_chooseWhatToSend_2 : decode b_N_chooseWhatToSend 2 = .ok (.putfield 31, 3) := by decide +kernel
theorem d_N_chooseWhatToSend_5 : decode b_N_chooseWhatToSend 5 = .ok (.aload_n 0, 1) := by decide +kernel
theorem d_N_chooseWhatToSend_6 : decode b_N_chooseWhatToSend 6 = .ok (.getfield 25, 3) := by decide +kernel
theorem d_N_chooseWhatToSend_9 : decode b_N_chooseWhatToSend 9 = .ok (.iconst 1, 1) := by decide +kernel
theorem d_N_chooseWhatToSend_10 : decode b_N_chooseWhatToSend 10 = .ok (.if_icmp .ne 10, 3) := by decide +kernel
theorem d_N_chooseWhatToSend_13 : decode b_N_chooseWhatToSend 13 = .ok (.aload_n 0, 1) := by decide +kernel
theorem d_N_chooseWhatToSend_14 : decode b_N_chooseWhatToSend 14 = .ok (.invokevirtual 85, 3) := by decide +kernel
theorem d_N_chooseWhatToSend_17 : decode b_N_chooseWhatToSend 17 = .ok (.goto 25, 3) := by decide +kernel
theorem d_N_chooseWhatToSend_20 : decode b_N_chooseWhatToSend 20 = .ok (.aload_n 0, 1) := by decide +kernel
theorem d_N_chooseWhatToSend_21 : decode b_N_chooseWhatToSend 21 = .ok (.invokevirtual 80, 3) := by decide +kernel
theorem d_N_chooseWhatToSend_24 : decode b_N_chooseWhatToSend 24 = .ok (.ifCond .eq 18, 3) := by decide +kernel
theorem d_N_chooseWhatToSend_27 : decode b_N_chooseWhatToSend 27 = .ok (.aload_n 0, 1) := by decide +kernel
theorem d_N_chooseWhatToSend_28 : decode b_N_chooseWhatToSend 28 = .ok (.getfield 37, 3) := by decide +kernel
theorem d_N_chooseWhatToSend_31 : decode b_N_chooseWhatToSend 31 = .ok (.aload_n 0, 1) := by decide +kernel
theorem d_N_chooseWhatToSend_32 : decode b_N_chooseWhatToSend 32 = .ok (.getfield 9, 3) := by decide +kernel
theorem d_N_chooseWhatToSend_35 : decode b_N_chooseWhatToSend 35 = .ok (.if_icmp .ne 7, 3) := by decide +kernel
theorem d_N_chooseWhatToSend_38 : decode b_N_chooseWhatToSend 38 = .ok (.aload_n 0, 1) := by decide +kernel
theorem d_N_chooseWhatToSend_39 : decode b_N_chooseWhatToSend 39 = .ok (.invokevirtual 88, 3) := by decide +kernel
theorem d_N_chooseWhatToSend_42 : decode b_N_chooseWhatToSend 42 = .ok (.return_, 1) := by decide +kernel
theorem d_N_listenOneSlot_0 : decode b_N_listenOneSlot 0 = .ok (.aload_n 0, 1) := by decide +kernel
theorem d_N_listenOneSlot_1 : decode b_N_listenOneSlot 1 = .ok (.dup, 1) := by decide +kernel
theorem d_N_listenOneSlot_2 : decode b_N_listenOneSlot 2 = .ok (.getfield 77, 3) := by decide +kernel
theorem d_N_listenOneSlot_5 : decode b_N_listenOneSlot 5 = .ok (.iconst 1, 1) := by decide +kernel
theorem d_N_listenOneSlot_6 : decode b_N_listenOneSlot 6 = .ok (.isub, 1) := by decide +kernel
theorem d_N_listenOneSlot_7 : decode b_N_listenOneSlot 7 = .ok (.putfield 77, 3) := by decide +kernel
theorem d_N_listenOneSlot_10 : decode b_N_listenOneSlot 10 = .ok (.aload_n 0, 1) := by decide +kernel
theorem d_N_listenOneSlot_11 : decode b_N_listenOneSlot 11 = .ok (.getfield 77, 3) := by decide +kernel
theorem d_N_listenOneSlot_14 : decode b_N_listenOneSlot 14 = .ok (.ifCond .eq 4, 3) := by decide +kernel
theorem d_N_listenOneSlot_17 : decode b_N_listenOneSlot 17 = .ok (.return_, 1) := by decide +kernel
theorem d_N_listenOneSlot_18 : decode b_N_listenOneSlot 18 = .ok (.aload_n 0, 1) := by decide +kernel
theorem d_N_listenOneSlot_19 : decode b_N_listenOneSlot 19 = .ok (.getfield 49, 3) := by decide +kernel
theorem d_N_listenOneSlot_22 : decode b_N_listenOneSlot 22 = .ok (.ifCond .ne 9, 3) := by decide +kernel
theorem d_N_listenOneSlot_25 : decode b_N_listenOneSlot 25 = .ok (.aload_n 0, 1) := by decide +kernel
theorem d_N_listenOneSlot_26 : decode b_N_listenOneSlot 26 = .ok (.iconst 5, 1) := by decide +kernel
theorem d_N_listenOneSlot_27 : decode b_N_listenOneSlot 27 = .ok (.putfield 25, 3) := by decide +kernel
theorem d_N_listenOneSlot_30 : decode b_N_listenOneSlot 30 = .ok (.return_, 1) := by decide +kernel
theorem d_N_listenOneSlot_31 : decode b_N_listenOneSlot 31 = .ok (.aload_n 0, 1) := by decide +kernel
theorem d_N_listenOneSlot_32 : decode b_N_listenOneSlot 32 = .ok (.dup, 1) := by decide +kernel
theorem d_N_listenOneSlot_33 : decode b_N_listenOneSlot 33 = .ok (.getfield 49, 3) := by decide +kernel
theorem d_N_listenOneSlot_36 : decode b_N_listenOneSlot 36 = .ok (.iconst 1, 1) := by decide +kernel
theorem d_N_listenOneSlot_37 : decode b_N_listenOneSlot 37 = .ok (.isub, 1) := by decide +kernel
theorem d_N_listenOneSlot_38 : decode b_N_listenOneSlot 38 = .ok (.putfield 49, 3) := by decide +kernel
theorem d_N_listenOneSlot_41 : decode b_N_listenOneSlot 41 = .ok (.aload_n 0, 1) := by decide +kernel
theorem d_N_listenOneSlot_42 : decode b_N_listenOneSlot 42 = .ok (.iconst 2, 1) := by decide +kernel
theorem d_N_listenOneSlot_43 : decode b_N_listenOneSlot 43 = .ok (.putfield 25, 3) := by decide +kernel
theorem d_N_listenOneSlot_46 : decode b_N_listenOneSlot 46 = .ok (.aload_n 0, 1) := by decide +kernel
theorem d_N_listenOneSlot_47 : decode b_N_listenOneSlot 47 = .ok (.aload_n 0, 1) := by decide +kernel
theorem d_N_listenOneSlot_48 : decode b_N_listenOneSlot 48 = .ok (.getfield 9, 3) := by decide +kernel
theorem d_N_listenOneSlot_51 : decode b_N_listenOneSlot 51 = .ok (.putfield 37, 3) := by decide +kernel
theorem d_N_listenOneSlot_54 : decode b_N_listenOneSlot 54 = .ok (.aload_n 0, 1) := by decide +kernel
theorem d_N_listenOneSlot_55 : decode b_N_listenOneSlot 55 = .ok (.iconst 0, 1) := by decide +kernel
theorem d_N_listenOneSlot_56 : decode b_N_listenOneSlot 56 = .ok (.putfield 40, 3) := by decide +kernel
theorem d_N_listenOneSlot_59 : decode b_N_listenOneSlot 59 = .ok (.aload_n 0, 1) := by decide +kernel
theorem d_N_listenOneSlot_60 : decode b_N_listenOneSlot 60 = .ok (.iconst 1, 1) := by decide +kernel
theorem d_N_listenOneSlot_61 : decode b_N_listenOneSlot 61 = .ok (.aload_n 0, 1) := by decide +kernel
theorem d_N_listenOneSlot_62 : decode b_N_listenOneSlot 62 = .ok (.getfield 9, 3) := by decide +kernel
theorem d_N_listenOneSlot_65 : decode b_N_listenOneSlot 65 = .ok (.ishl, 1) := by decide +kernel
theorem d_N_listenOneSlot_66 : decode b_N_listenOneSlot 66 = .ok (.putfield 34, 3) := by decide +kernel
theorem d_N_listenOneSlot_69 : decode b_N_listenOneSlot 69 = .ok (.aload_n 0, 1) := by decide +kernel
theorem d_N_listenOneSlot_70 : decode b_N_listenOneSlot 70 = .ok (.iconst 0, 1) := by decide +kernel
theorem d_N_listenOneSlot_71 : decode b_N_listenOneSlot 71 = .ok (.invokevirtual 91, 3) := by decide +kernel
theorem d_N_listenOneSlot_74 : decode b_N_listenOneSlot 74 = .ok (.aload_n 0, 1) := by decide +kernel
theorem d_N_listenOneSlot_75 : decode b_N_listenOneSlot 75 = .ok (.iconst 2, 1) := by decide +kernel
theorem d_N_listenOneSlot_76 : decode b_N_listenOneSlot 76 = .ok (.putfield 31, 3) := by decide +kernel
theorem d_N_listenOneSlot_79 : decode b_N_listenOneSlot 79 = .ok (.return_, 1) := by decide +kernel
theorem d_N_takeOwnTurn_0 : decode b_N_takeOwnTurn 0 = .ok (.aload_n 0, 1) := by decide +kernel
theorem d_N_takeOwnTurn_1 : decode b_N_takeOwnTurn 1 = .ok (.getfield 25, 3) := by decide +kernel
theorem d_N_takeOwnTurn_4 : decode b_N_takeOwnTurn 4 = .ok (.iconst 2, 1) := by decide +kernel
theorem d_N_takeOwnTurn_5 : decode b_N_takeOwnTurn 5 = .ok (.if_icmp .ne 25, 3) := by decide +kernel
theorem d_N_takeOwnTurn_8 : decode b_N_takeOwnTurn 8 = .ok (.aload_n 0, 1) := by decide +kernel
theorem d_N_takeOwnTurn_9 : decode b_N_takeOwnTurn 9 = .ok (.getfield 55, 3) := by decide +kernel
theorem d_N_takeOwnTurn_12 : decode b_N_takeOwnTurn 12 = .ok (.iconst 1, 1) := by decide +kernel
theorem d_N_takeOwnTurn_13 : decode b_N_takeOwnTurn 13 = .ok (.if_icmp .ne 17, 3) := by decide +kernel
theorem d_N_takeOwnTurn_16 : decode b_N_takeOwnTurn 16 = .ok (.aload_n 0, 1) := by decide +kernel
theorem d_N_takeOwnTurn_17 : decode b_N_takeOwnTurn 17 = .ok (.getfield 58, 3) := by decide +kernel
theorem d_N_takeOwnTurn_20 : decode b_N_takeOwnTurn 20 = .ok (.ifCond .ne 10, 3) := by decide +kernel
theorem d_N_takeOwnTurn_23 : decode b_N_takeOwnTurn 23 = .ok (.aload_n 0, 1) := by decide +kernel
theorem d_N_takeOwnTurn_24 : decode b_N_takeOwnTurn 24 = .ok (.invokevirtual 43, 3) := by decide +kernel
theorem d_N_takeOwnTurn_27 : decode b_N_takeOwnTurn 27 = .ok (.goto 45, 3) := by decide +kernel
theorem d_N_takeOwnTurn_30 : decode b_N_takeOwnTurn 30 = .ok (.aload_n 0, 1) := by decide +kernel
theorem d_N_takeOwnTurn_31 : decode b_N_takeOwnTurn 31 = .ok (.getfield 55, 3) := by decide +kernel
theorem d_N_takeOwnTurn_34 : decode b_N_takeOwnTurn 34 = .ok (.aload_n 0, 1) := by decide +kernel
theorem d_N_takeOwnTurn_35 : decode b_N_takeOwnTurn 35 = .ok (.getfield 58, 3) := by decide +kernel
theorem d_N_takeOwnTurn_38 : decode b_N_takeOwnTurn 38 = .ok (.if_icmp .gt 11, 3) := by decide +kernel
theorem d_N_takeOwnTurn_41 : decode b_N_takeOwnTurn 41 = .ok (.aload_n 0, 1) := by decide +kernel
theorem d_N_takeOwnTurn_42 : decode b_N_takeOwnTurn 42 = .ok (.iconst 5, 1) := by decide +kernel
theorem d_N_takeOwnTurn_43 : decode b_N_takeOwnTurn 43 = .ok (.putfield 25, 3) := by decide +kernel
theorem d_N_takeOwnTurn_46 : decode b_N_takeOwnTurn 46 = .ok (.goto 26, 3) := by decide +kernel
theorem d_N_takeOwnTurn_49 : decode b_N_takeOwnTurn 49 = .ok (.aload_n 0, 1) := by decide +kernel
theorem d_N_takeOwnTurn_50 : decode b_N_takeOwnTurn 50 = .ok (.iconst 3, 1) := by decide +kernel
theorem d_N_takeOwnTurn_51 : decode b_N_takeOwnTurn 51 = .ok (.putfield 25, 3) := by decide +kernel
theorem d_N_takeOwnTurn_54 : decode b_N_takeOwnTurn 54 = .ok (.aload_n 0, 1) := by decide +kernel
theorem d_N_takeOwnTurn_55 : decode b_N_takeOwnTurn 55 = .ok (.aload_n 0, 1) := by decide +kernel
theorem d_N_takeOwnTurn_56 : decode b_N_takeOwnTurn 56 = .ok (.getfield 9, 3) := by decide +kernel
theorem d_N_takeOwnTurn_59 : decode b_N_takeOwnTurn 59 = .ok (.invokevirtual 95, 3) := by decide +kernel
theorem d_N_takeOwnTurn_62 : decode b_N_takeOwnTurn 62 = .ok (.aload_n 0, 1) := by decide +kernel
theorem d_N_takeOwnTurn_63 : decode b_N_takeOwnTurn 63 = .ok (.iconst 1, 1) := by decide +kernel
theorem d_N_takeOwnTurn_64 : decode b_N_takeOwnTurn 64 = .ok (.invokevirtual 91, 3) := by decide +kernel
theorem d_N_takeOwnTurn_67 : decode b_N_takeOwnTurn 67 = .ok (.aload_n 0, 1) := by decide +kernel
theorem d_N_takeOwnTurn_68 : decode b_N_takeOwnTurn 68 = .ok (.iconst 3, 1) := by decide +kernel
theorem d_N_takeOwnTurn_69 : decode b_N_takeOwnTurn 69 = .ok (.putfield 31, 3) := by decide +kernel
theorem d_N_takeOwnTurn_72 : decode b_N_takeOwnTurn 72 = .ok (.return_, 1) := by decide +kernel
theorem d_N_countAnew_0 : decode b_N_countAnew 0 = .ok (.aload_n 0, 1) := by decide +kernel
theorem d_N_countAnew_1 : decode b_N_countAnew 1 = .ok (.iconst 1, 1) := by decide +kernel
theorem d_N_countAnew_2 : decode b_N_countAnew 2 = .ok (.putfield 55, 3) := by decide +kernel
theorem d_N_countAnew_5 : decode b_N_countAnew 5 = .ok (.aload_n 0, 1) := by decide +kernel
theorem d_N_countAnew_6 : decode b_N_countAnew 6 = .ok (.iconst 0, 1) := by decide +kernel
theorem d_N_countAnew_7 : decode b_N_countAnew 7 = .ok (.putfield 58, 3) := by decide +kernel
theorem d_N_countAnew_10 : decode b_N_countAnew 10 = .ok (.aload_n 0, 1) := by decide +kernel
theorem d_N_countAnew_11 : decode b_N_countAnew 11 = .ok (.iload_n 1, 1) := by decide +kernel
theorem d_N_countAnew_12 : decode b_N_countAnew 12 = .ok (.putfield 28, 3) := by decide +kernel
theorem d_N_countAnew_15 : decode b_N_countAnew 15 = .ok (.return_, 1) := by decide +kernel
theorem d_N_kindHeard_0 : decode b_N_kindHeard 0 = .ok (.aload_n 0, 1) := by decide +kernel
theorem d_N_kindHeard_1 : decode b_N_kindHeard 1 = .ok (.getfield 65, 3) := by decide +kernel
theorem d_N_kindHeard_4 : decode b_N_kindHeard 4 = .ok (.ifCond .eq 10, 3) := by decide +kernel
theorem d_N_kindHeard_7 : decode b_N_kindHeard 7 = .ok (.aload_n 1, 1) := by decide +kernel
theorem d_N_kindHeard_8 : decode b_N_kindHeard 8 = .ok (.getfield 98, 3) := by decide +kernel
theorem d_N_kindHeard_11 : decode b_N_kindHeard 11 = .ok (.ifCond .ne 8, 3) := by decide +kernel
theorem d_N_kindHeard_14 : decode b_N_kindHeard 14 = .ok (.aload_n 1, 1) := by decide +kernel
theorem d_N_kindHeard_15 : decode b_N_kindHeard 15 = .ok (.getfield 98, 3) := by decide +kernel
theorem d_N_kindHeard_18 : decode b_N_kindHeard 18 = .ok (.ireturn, 1) := by decide +kernel
theorem d_N_kindHeard_19 : decode b_N_kindHeard 19 = .ok (.aload_n 0, 1) := by decide +kernel
theorem d_N_kindHeard_20 : decode b_N_kindHeard 20 = .ok (.iconst 0, 1) := by decide +kernel
theorem d_N_kindHeard_21 : decode b_N_kindHeard 21 = .ok (.putfield 65, 3) := by decide +kernel
theorem d_N_kindHeard_24 : decode b_N_kindHeard 24 = .ok (.iconst 1, 1) := by decide +kernel
theorem d_N_kindHeard_25 : decode b_N_kindHeard 25 = .ok (.ireturn, 1) := by decide +kernel
theorem d_N_hearListening_0 : decode b_N_hearListening 0 = .ok (.iload_n 1, 1) := by decide +kernel
theorem d_N_hearListening_1 : decode b_N_hearListening 1 = .ok (.iconst 3, 1) := by decide +kernel
theorem d_N_hearListening_2 : decode b_N_hearListening 2 = .ok (.if_icmp .eq 15, 3) := by decide +kernel
theorem d_N_hearListening_5 : decode b_N_hearListening 5 = .ok (.iload_n 1, 1) := by decide +kernel
theorem d_N_hearListening_6 : decode b_N_hearListening 6 = .ok (.iconst 2, 1) := by decide +kernel
theorem d_N_hearListening_7 : decode b_N_hearListening 7 = .ok (.if_icmp .ne 18, 3) := by decide +kernel
theorem d_N_hearListening_10 : decode b_N_hearListening 10 = .ok (.aload_n 0, 1) := by decide +kernel
theorem d_N_hearListening_11 : decode b_N_hearListening 11 = .ok (.getfield 71, 3) := by decide +kernel
theorem d_N_hearListening_14 : decode b_N_hearListening 14 = .ok (.ifCond .eq 11, 3) := by decide +kernel
theorem d_N_hearListening_17 : decode b_N_hearListening 17 = .ok (.aload_n 0, 1) := by decide +kernel
theorem d_N_hearListening_18 : decode b_N_hearListening 18 = .ok (.aload_n 2, 1) := by decide +kernel
theorem d_N_hearListening_19 : decode b_N_hearListening 19 = .ok (.invokevirtual 103, 3) := by decide +kernel
theorem d_N_hearListening_22 : decode b_N_hearListening 22 = .ok (.goto 17, 3) := by decide +kernel
theorem d_N_hearListening_25 : decode b_N_hearListening 25 = .ok (.iload_n 1, 1) := by decide +kernel
theorem d_N_hearListening_26 : decode b_N_hearListening 26 = .ok (.iconst 2, 1) := by decide +kernel
theorem d_N_hearListening_27 : decode b_N_hearListening 27 = .ok (.if_icmp .ne 12, 3) := by decide +kernel
theorem d_N_hearListening_30 : decode b_N_hearListening 30 = .ok (.aload_n 0, 1) := by decide +kernel
theorem d_N_hearListening_31 : decode b_N_hearListening 31 = .ok (.iconst 1, 1) := by decide +kernel
theorem d_N_hearListening_32 : decode b_N_hearListening 32 = .ok (.putfield 71, 3) := by decide +kernel
theorem d_N_hearListening_35 : decode b_N_hearListening 35 = .ok (.aload_n 0, 1) := by decide +kernel
theorem d_N_hearListening_36 : decode b_N_hearListening 36 = .ok (.invokevirtual 68, 3) := by decide +kernel
theorem d_N_hearListening_39 : decode b_N_hearListening 39 = .ok (.return_, 1) := by decide +kernel
theorem d_N_comeIn_0 : decode b_N_comeIn 0 = .ok (.aload_n 0, 1) := by decide +kernel
theorem d_N_comeIn_1 : decode b_N_comeIn 1 = .ok (.iconst 4, 1) := by decide +kernel
theorem d_N_comeIn_2 : decode b_N_comeIn 2 = .ok (.putfield 25, 3) := by decide +kernel
theorem d_N_comeIn_5 : decode b_N_comeIn 5 = .ok (.aload_n 0, 1) := by decide +kernel
theorem d_N_comeIn_6 : decode b_N_comeIn 6 = .ok (.aload_n 1, 1) := by decide +kernel
theorem d_N_comeIn_7 : decode b_N_comeIn 7 = .ok (.getfield 107, 3) := by decide +kernel
theorem d_N_comeIn_10 : decode b_N_comeIn 10 = .ok (.putfield 37, 3) := by decide +kernel
theorem d_N_comeIn_13 : decode b_N_comeIn 13 = .ok (.aload_n 0, 1) := by decide +kernel
theorem d_N_comeIn_14 : decode b_N_comeIn 14 = .ok (.aload_n 1, 1) := by decide +kernel
theorem d_N_comeIn_15 : decode b_N_comeIn 15 = .ok (.getfield 110, 3) := by decide +kernel
theorem d_N_comeIn_18 : decode b_N_comeIn 18 = .ok (.putfield 40, 3) := by decide +kernel
theorem d_N_comeIn_21 : decode b_N_comeIn 21 = .ok (.aload_n 0, 1) := by decide +kernel
theorem d_N_comeIn_22 : decode b_N_comeIn 22 = .ok (.aload_n 1, 1) := by decide +kernel
theorem d_N_comeIn_23 : decode b_N_comeIn 23 = .ok (.getfield 111, 3) := by decide +kernel
theorem d_N_comeIn_26 : decode b_N_comeIn 26 = .ok (.putfield 34, 3) := by decide +kernel
theorem d_N_comeIn_29 : decode b_N_comeIn 29 = .ok (.aload_n 0, 1) := by decide +kernel
theorem d_N_comeIn_30 : decode b_N_comeIn 30 = .ok (.aload_n 1, 1) := by decide +kernel
theorem d_N_comeIn_31 : decode b_N_comeIn 31 = .ok (.getfield 112, 3) := by decide +kernel
theorem d_N_comeIn_34 : decode b_N_comeIn 34 = .ok (.putfield 52, 3) := by decide +kernel
theorem d_N_comeIn_37 : decode b_N_comeIn 37 = .ok (.aload_n 0, 1) := by decide +kernel
theorem d_N_comeIn_38 : decode b_N_comeIn 38 = .ok (.iconst 0, 1) := by decide +kernel
theorem d_N_comeIn_39 : decode b_N_comeIn 39 = .ok (.invokevirtual 91, 3) := by decide +kernel
theorem d_N_comeIn_42 : decode b_N_comeIn 42 = .ok (.return_, 1) := by decide +kernel
theorem d_N_hearInside_0 : decode b_N_hearInside 0 = .ok (.iload_n 1, 1) := by decide +kernel
theorem d_N_hearInside_1 : decode b_N_hearInside 1 = .ok (.ifCond .ne 12, 3) := by decide +kernel
theorem d_N_hearInside_4 : decode b_N_hearInside 4 = .ok (.aload_n 0, 1) := by decide +kernel
theorem d_N_hearInside_5 : decode b_N_hearInside 5 = .ok (.aload_n 0, 1) := by decide +kernel
theorem d_N_hearInside_6 : decode b_N_hearInside 6 = .ok (.getfield 37, 3) := by decide +kernel
theorem d_N_hearInside_9 : decode b_N_hearInside 9 = .ok (.invokevirtual 113, 3) := by decide +kernel
theorem d_N_hearInside_12 : decode b_N_hearInside 12 = .ok (.return_, 1) := by decide +kernel
theorem d_N_hearInside_13 : decode b_N_hearInside 13 = .ok (.iload_n 1, 1) := by decide +kernel
theorem d_N_hearInside_14 : decode b_N_hearInside 14 = .ok (.iconst 3, 1) := by decide +kernel
theorem d_N_hearInside_15 : decode b_N_hearInside 15 = .ok (.if_icmp .ne 22, 3) := by decide +kernel
theorem d_N_hearInside_18 : decode b_N_hearInside 18 = .ok (.aload_n 0, 1) := by decide +kernel
theorem d_N_hearInside_19 : decode b_N_hearInside 19 = .ok (.aload_n 2, 1) := by decide +kernel
theorem d_N_hearInside_20 : decode b_N_hearInside 20 = .ok (.invokevirtual 116, 3) := by decide +kernel
theorem d_N_hearInside_23 : decode b_N_hearInside 23 = .ok (.ifCond .eq 14, 3) := by decide +kernel
theorem d_N_hearInside_26 : decode b_N_hearInside 26 = .ok (.aload_n 0, 1) := by decide +kernel
theorem d_N_hearInside_27 : decode b_N_hearInside 27 = .ok (.aload_n 2, 1) := by decide +kernel
theorem d_N_hearInside_28 : decode b_N_hearInside 28 = .ok (.getfield 111, 3) := by decide +kernel
theorem d_N_hearInside_31 : decode b_N_hearInside 31 = .ok (.invokevirtual 120, 3) := by decide +kernel
theorem d_N_hearInside_34 : decode b_N_hearInside 34 = .ok (.goto 4, 3) := by decide +kernel
theorem d_N_hearInside_37 : decode b_N_hearInside 37 = .ok (.iconst 1, 1) := by decide +kernel
theorem d_N_hearInside_38 : decode b_N_hearInside 38 = .ok (.istore_n 3, 1) := by decide +kernel
theorem d_N_hearInside_39 : decode b_N_hearInside 39 = .ok (.iload_n 3, 1) := by decide +kernel
theorem d_N_hearInside_40 : decode b_N_hearInside 40 = .ok (.iconst 1, 1) := by decide +kernel
theorem d_N_hearInside_41 : decode b_N_hearInside 41 = .ok (.if_icmp .ne 22, 3) := by decide +kernel
theorem d_N_hearInside_44 : decode b_N_hearInside 44 = .ok (.aload_n 0, 1) := by decide +kernel
theorem d_N_hearInside_45 : decode b_N_hearInside 45 = .ok (.aload_n 0, 1) := by decide +kernel
theorem d_N_hearInside_46 : decode b_N_hearInside 46 = .ok (.getfield 37, 3) := by decide +kernel
theorem d_N_hearInside_49 : decode b_N_hearInside 49 = .ok (.invokevirtual 113, 3) := by decide +kernel
theorem d_N_hearInside_52 : decode b_N_hearInside 52 = .ok (.aload_n 0, 1) := by decide +kernel
theorem d_N_hearInside_53 : decode b_N_hearInside 53 = .ok (.dup, 1) := by decide +kernel
theorem d_N_hearInside_54 : decode b_N_hearInside 54 = .ok (.getfield 58, 3) := by decide +kernel
theorem d_N_hearInside_57 : decode b_N_hearInside 57 = .ok (.iconst 1, 1) := by decide +kernel
theorem d_N_hearInside_58 : decode b_N_hearInside 58 = .ok (.iadd, 1) := by decide +kernel
theorem d_N_hearInside_59 : decode b_N_hearInside 59 = .ok (.putfield 58, 3) := by decide +kernel
theorem d_N_hearInside_62 : decode b_N_hearInside 62 = .ok (.return_, 1) := by decide +kernel
theorem d_N_hearInside_63 : decode b_N_hearInside 63 = .ok (.aload_n 0, 1) := by decide +kernel
theorem d_N_hearInside_64 : decode b_N_hearInside 64 = .ok (.aload_n 0, 1) := by decide +kernel
theorem d_N_hearInside_65 : decode b_N_hearInside 65 = .ok (.getfield 37, 3) := by decide +kernel
theorem d_N_hearInside_68 : decode b_N_hearInside 68 = .ok (.invokevirtual 95, 3) := by decide +kernel
theorem d_N_hearInside_71 : decode b_N_hearInside 71 = .ok (.iload_n 3, 1) := by decide +kernel
theorem d_N_hearInside_72 : decode b_N_hearInside 72 = .ok (.ifCond .ne 29, 3) := by decide +kernel
theorem d_N_hearInside_75 : decode b_N_hearInside 75 = .ok (.aload_n 0, 1) := by decide +kernel
theorem d_N_hearInside_76 : decode b_N_hearInside 76 = .ok (.dup, 1) := by decide +kernel
theorem d_N_hearInside_77 : decode b_N_hearInside 77 = .ok (.getfield 55, 3) := by decide +kernel
theorem d_N_hearInside_80 : decode b_N_hearInside 80 = .ok (.iconst 1, 1) := by decide +kernel
theorem d_N_hearInside_81 : decode b_N_hearInside 81 = .ok (.iadd, 1) := by decide +kernel
theorem d_N_hearInside_82 : decode b_N_hearInside 82 = .ok (.putfield 55, 3) := by decide +kernel
theorem d_N_hearInside_85 : decode b_N_hearInside 85 = .ok (.aload_n 0, 1) := by decide +kernel
theorem d_N_hearInside_86 : decode b_N_hearInside 86 = .ok (.getfield 21, 3) := by decide +kernel
theorem d_N_hearInside_89 : decode b_N_hearInside 89 = .ok (.aload_n 2, 1) := by decide +kernel
theorem d_N_hearInside_90 : decode b_N_hearInside 90 = .ok (.getfield 112, 3) := by decide +kernel
theorem d_N_hearInside_93 : decode b_N_hearInside 93 = .ok (.aload_n 0, 1) := by decide +kernel
theorem d_N_hearInside_94 : decode b_N_hearInside 94 = .ok (.getfield 52, 3) := by decide +kernel
theorem d_N_hearInside_97 : decode b_N_hearInside 97 = .ok (.isub, 1) := by decide +kernel
theorem d_N_hearInside_98 : decode b_N_hearInside 98 = .ok (.invokevirtual 124, 3) := by decide +kernel
theorem d_N_hearInside_101 : decode b_N_hearInside 101 = .ok (.return_, 1) := by decide +kernel
theorem d_N_isDue_0 : decode b_N_isDue 0 = .ok (.aload_n 1, 1) := by decide +kernel
theorem d_N_isDue_1 : decode b_N_isDue 1 = .ok (.getfield 112, 3) := by decide +kernel
theorem d_N_isDue_4 : decode b_N_isDue 4 = .ok (.aload_n 0, 1) := by decide +kernel
theorem d_N_isDue_5 : decode b_N_isDue 5 = .ok (.getfield 52, 3) := by decide +kernel
theorem d_N_isDue_8 : decode b_N_isDue 8 = .ok (.isub, 1) := by decide +kernel
theorem d_N_isDue_9 : decode b_N_isDue 9 = .ok (.istore_n 2, 1) := by decide +kernel
theorem d_N_isDue_10 : decode b_N_isDue 10 = .ok (.aload_n 1, 1) := by decide +kernel
theorem d_N_isDue_11 : decode b_N_isDue 11 = .ok (.getfield 107, 3) := by decide +kernel
theorem d_N_isDue_14 : decode b_N_isDue 14 = .ok (.aload_n 0, 1) := by decide +kernel
theorem d_N_isDue_15 : decode b_N_isDue 15 = .ok (.getfield 37, 3) := by decide +kernel
theorem d_N_isDue_18 : decode b_N_isDue 18 = .ok (.if_icmp .ne 30, 3) := by decide +kernel
theorem d_N_isDue_21 : decode b_N_isDue 21 = .ok (.aload_n 1, 1) := by decide +kernel
theorem d_N_isDue_22 : decode b_N_isDue 22 = .ok (.getfield 110, 3) := by decide +kernel
theorem d_N_isDue_25 : decode b_N_isDue 25 = .ok (.aload_n 0, 1) := by decide +kernel
theorem d_N_isDue_26 : decode b_N_isDue 26 = .ok (.getfield 40, 3) := by decide +kernel
theorem d_N_isDue_29 : decode b_N_isDue 29 = .ok (.if_icmp .ne 19, 3) := by decide +kernel
theorem d_N_isDue_32 : decode b_N_isDue 32 = .ok (.iload_n 2, 1) := by decide +kernel
theorem d_N_isDue_33 : decode b_N_isDue 33 = .ok (.bipush (-60), 2) := by decide +kernel
theorem d_N_isDue_35 : decode b_N_isDue 35 = .ok (.if_icmp .lt 13, 3) := by decide +kernel
theorem d_N_isDue_38 : decode b_N_isDue 38 = .ok (.iload_n 2, 1) := by decide +kernel
theorem d_N_isDue_39 : decode b_N_isDue 39 = .ok (.bipush 60, 2) := by decide +kernel
theorem d_N_isDue_41 : decode b_N_isDue 41 = .ok (.if_icmp .gt 7, 3) := by decide +kernel
theorem d_N_isDue_44 : decode b_N_isDue 44 = .ok (.iconst 1, 1) := by decide +kernel
theorem d_N_isDue_45 : decode b_N_isDue 45 = .ok (.goto 4, 3) := by decide +kernel
theorem d_N_isDue_48 : decode b_N_isDue 48 = .ok (.iconst 0, 1) := by decide +kernel
theorem d_N_isDue_49 : decode b_N_isDue 49 = .ok (.ireturn, 1) := by decide +kernel
theorem d_N_compareMembers_0 : decode b_N_compareMembers 0 = .ok (.aload_n 0, 1) := by decide +kernel
theorem d_N_compareMembers_1 : decode b_N_compareMembers 1 = .ok (.getfield 34, 3) := by decide +kernel
theorem d_N_compareMembers_4 : decode b_N_compareMembers 4 = .ok (.iconst 1, 1) := by decide +kernel
theorem d_N_compareMembers_5 : decode b_N_compareMembers 5 = .ok (.aload_n 0, 1) := by decide +kernel
theorem d_N_compareMembers_6 : decode b_N_compareMembers 6 = .ok (.getfield 37, 3) := by decide +kernel
theorem d_N_compareMembers_9 : decode b_N_compareMembers 9 = .ok (.ishl, 1) := by decide +kernel
theorem d_N_compareMembers_10 : decode b_N_compareMembers 10 = .ok (.ior, 1) := by decide +kernel
theorem d_N_compareMembers_11 : decode b_N_compareMembers 11 = .ok (.istore_n 2, 1) := by decide +kernel
theorem d_N_compareMembers_12 : decode b_N_compareMembers 12 = .ok (.aload_n 0, 1) := by decide +kernel
theorem d_N_compareMembers_13 : decode b_N_compareMembers 13 = .ok (.getfield 28, 3) := by decide +kernel
theorem d_N_compareMembers_16 : decode b_N_compareMembers 16 = .ok (.iconst 2, 1) := by decide +kernel
theorem d_N_compareMembers_17 : decode b_N_compareMembers 17 = .ok (.if_icmp .ne 10, 3) := by decide +kernel
theorem d_N_compareMembers_20 : decode b_N_compareMembers 20 = .ok (.aload_n 0, 1) := by decide +kernel
theorem d_N_compareMembers_21 : decode b_N_compareMembers 21 = .ok (.iload_n 1, 1) := by decide +kernel
theorem d_N_compareMembers_22 : decode b_N_compareMembers 22 = .ok (.iload_n 2, 1) := by decide +kernel
theorem d_N_compareMembers_23 : decode b_N_compareMembers 23 = .ok (.invokevirtual 127, 3) := by decide +kernel
theorem d_N_compareMembers_26 : decode b_N_compareMembers 26 = .ok (.ireturn, 1) := by decide +kernel
theorem d_N_compareMembers_27 : decode b_N_compareMembers 27 = .ok (.iload_n 1, 1) := by decide +kernel
theorem d_N_compareMembers_28 : decode b_N_compareMembers 28 = .ok (.iload_n 2, 1) := by decide +kernel
theorem d_N_compareMembers_29 : decode b_N_compareMembers 29 = .ok (.if_icmp .ne 10, 3) := by decide +kernel
theorem d_N_compareMembers_32 : decode b_N_compareMembers 32 = .ok (.aload_n 0, 1) := by decide +kernel
theorem d_N_compareMembers_33 : decode b_N_compareMembers 33 = .ok (.iconst 0, 1) := by decide +kernel
theorem d_N_compareMembers_34 : decode b_N_compareMembers 34 = .ok (.putfield 28, 3) := by decide +kernel
theorem d_N_compareMembers_37 : decode b_N_compareMembers 37 = .ok (.iconst 0, 1) := by decide +kernel
theorem d_N_compareMembers_38 : decode b_N_compareMembers 38 = .ok (.ireturn, 1) := by decide +kernel
theorem d_N_compareMembers_39 : decode b_N_compareMembers 39 = .ok (.aload_n 0, 1) := by decide +kernel
theorem d_N_compareMembers_40 : decode b_N_compareMembers 40 = .ok (.getfield 28, 3) := by decide +kernel
theorem d_N_compareMembers_43 : decode b_N_compareMembers 43 = .ok (.iconst 1, 1) := by decide +kernel
theorem d_N_compareMembers_44 : decode b_N_compareMembers 44 = .ok (.if_icmp .ne 30, 3) := by decide +kernel
theorem d_N_compareMembers_47 : decode b_N_compareMembers 47 = .ok (.iload_n 1, 1) := by decide +kernel
theorem d_N_compareMembers_48 : decode b_N_compareMembers 48 = .ok (.iload_n 2, 1) := by decide +kernel
theorem d_N_compareMembers_49 : decode b_N_compareMembers 49 = .ok (.aload_n 0, 1) := by decide +kernel
theorem d_N_compareMembers_50 : decode b_N_compareMembers 50 = .ok (.getfield 9, 3) := by decide +kernel
theorem d_N_compareMembers_53 : decode b_N_compareMembers 53 = .ok (.invokestatic 131, 3) := by decide +kernel
theorem d_N_compareMembers_56 : decode b_N_compareMembers 56 = .ok (.if_icmp .ne 18, 3) := by decide +kernel
theorem d_N_compareMembers_59 : decode b_N_compareMembers 59 = .ok (.aload_n 0, 1) := by decide +kernel
theorem d_N_compareMembers_60 : decode b_N_compareMembers 60 = .ok (.iconst 2, 1) := by decide +kernel
theorem d_N_compareMembers_61 : decode b_N_compareMembers 61 = .ok (.putfield 28, 3) := by decide +kernel
theorem d_N_compareMembers_64 : decode b_N_compareMembers 64 = .ok (.aload_n 0, 1) := by decide +kernel
theorem d_N_compareMembers_65 : decode b_N_compareMembers 65 = .ok (.aload_n 0, 1) := by decide +kernel
theorem d_N_compareMembers_66 : decode b_N_compareMembers 66 = .ok (.getfield 37, 3) := by decide +kernel
theorem d_N_compareMembers_69 : decode b_N_compareMembers 69 = .ok (.putfield 134, 3) := by decide +kernel
theorem d_N_compareMembers_72 : decode b_N_compareMembers 72 = .ok (.iconst 2, 1) := by decide +kernel
theorem d_N_compareMembers_73 : decode b_N_compareMembers 73 = .ok (.ireturn, 1) := by decide +kernel
theorem d_N_compareMembers_74 : decode b_N_compareMembers 74 = .ok (.iconst 1, 1) := by decide +kernel
theorem d_N_compareMembers_75 : decode b_N_compareMembers 75 = .ok (.ireturn, 1) := by decide +kernel
theorem d_N_settleDoubt_0 : decode b_N_settleDoubt 0 = .ok (.iload_n 1, 1) := by decide +kernel
theorem d_N_settleDoubt_1 : decode b_N_settleDoubt 1 = .ok (.iload_n 2, 1) := by decide +kernel
theorem d_N_settleDoubt_2 : decode b_N_settleDoubt 2 = .ok (.aload_n 0, 1) := by decide +kernel
theorem d_N_settleDoubt_3 : decode b_N_settleDoubt 3 = .ok (.getfield 134, 3) := by decide +kernel
theorem d_N_settleDoubt_6 : decode b_N_settleDoubt 6 = .ok (.invokestatic 131, 3) := by decide +kernel
theorem d_N_settleDoubt_9 : decode b_N_settleDoubt 9 = .ok (.if_icmp .ne 24, 3) := by decide +kernel
theorem d_N_settleDoubt_12 : decode b_N_settleDoubt 12 = .ok (.aload_n 0, 1) := by decide +kernel
theorem d_N_settleDoubt_13 : decode b_N_settleDoubt 13 = .ok (.aload_n 0, 1) := by decide +kernel
theorem d_N_settleDoubt_14 : decode b_N_settleDoubt 14 = .ok (.getfield 134, 3) := by decide +kernel
theorem d_N_settleDoubt_17 : decode b_N_settleDoubt 17 = .ok (.invokevirtual 113, 3) := by decide +kernel
theorem d_N_settleDoubt_20 : decode b_N_settleDoubt 20 = .ok (.aload_n 0, 1) := by decide +kernel
theorem d_N_settleDoubt_21 : decode b_N_settleDoubt 21 = .ok (.dup, 1) := by decide +kernel
theorem d_N_settleDoubt_22 : decode b_N_settleDoubt 22 = .ok (.getfield 58, 3) := by decide +kernel
theorem d_N_settleDoubt_25 : decode b_N_settleDoubt 25 = .ok (.iconst 1, 1) := by decide +kernel
theorem d_N_settleDoubt_26 : decode b_N_settleDoubt 26 = .ok (.iadd, 1) := by decide +kernel
theorem d_N_settleDoubt_27 : decode b_N_settleDoubt 27 = .ok (.putfield 58, 3) := by decide +kernel
theorem d_N_settleDoubt_30 : decode b_N_settleDoubt 30 = .ok (.goto 43, 3) := by decide +kernel
theorem d_N_settleDoubt_33 : decode b_N_settleDoubt 33 = .ok (.iload_n 1, 1) := by decide +kernel
theorem d_N_settleDoubt_34 : decode b_N_settleDoubt 34 = .ok (.iload_n 2, 1) := by decide +kernel
theorem d_N_settleDoubt_35 : decode b_N_settleDoubt 35 = .ok (.aload_n 0, 1) := by decide +kernel
theorem d_N_settleDoubt_36 : decode b_N_settleDoubt 36 = .ok (.getfield 9, 3) := by decide +kernel
theorem d_N_settleDoubt_39 : decode b_N_settleDoubt 39 = .ok (.invokestatic 131, 3) := by decide +kernel
theorem d_N_settleDoubt_42 : decode b_N_settleDoubt 42 = .ok (.if_icmp .ne 29, 3) := by decide +kernel
theorem d_N_settleDoubt_45 : decode b_N_settleDoubt 45 = .ok (.aload_n 0, 1) := by decide +kernel
theorem d_N_settleDoubt_46 : decode b_N_settleDoubt 46 = .ok (.aload_n 0, 1) := by decide +kernel
theorem d_N_settleDoubt_47 : decode b_N_settleDoubt 47 = .ok (.getfield 9, 3) := by decide +kernel
theorem d_N_settleDoubt_50 : decode b_N_settleDoubt 50 = .ok (.invokevirtual 113, 3) := by decide +kernel
theorem d_N_settleDoubt_53 : decode b_N_settleDoubt 53 = .ok (.aload_n 0, 1) := by decide +kernel
theorem d_N_settleDoubt_54 : decode b_N_settleDoubt 54 = .ok (.iconst 4, 1) := by decide +kernel
theorem d_N_settleDoubt_55 : decode b_N_settleDoubt 55 = .ok (.putfield 25, 3) := by decide +kernel
theorem d_N_settleDoubt_58 : decode b_N_settleDoubt 58 = .ok (.aload_n 0, 1) := by decide +kernel
theorem d_N_settleDoubt_59 : decode b_N_settleDoubt 59 = .ok (.dup, 1) := by decide +kernel
theorem d_N_settleDoubt_60 : decode b_N_settleDoubt 60 = .ok (.getfield 55, 3) := by decide +kernel
theorem d_N_settleDoubt_63 : decode b_N_settleDoubt 63 = .ok (.iconst 1, 1) := by decide +kernel
theorem d_N_settleDoubt_64 : decode b_N_settleDoubt 64 = .ok (.iadd, 1) := by decide +kernel
theorem d_N_settleDoubt_65 : decode b_N_settleDoubt 65 = .ok (.putfield 55, 3) := by decide +kernel
theorem d_N_settleDoubt_68 : decode b_N_settleDoubt 68 = .ok (.goto 5, 3) := by decide +kernel
theorem d_N_settleDoubt_71 : decode b_N_settleDoubt 71 = .ok (.iconst 1, 1) := by decide +kernel
theorem d_N_settleDoubt_72 : decode b_N_settleDoubt 72 = .ok (.ireturn, 1) := by decide +kernel
theorem d_N_settleDoubt_73 : decode b_N_settleDoubt 73 = .ok (.aload_n 0, 1) := by decide +kernel
theorem d_N_settleDoubt_74 : decode b_N_settleDoubt 74 = .ok (.iconst 0, 1) := by decide +kernel
theorem d_N_settleDoubt_75 : decode b_N_settleDoubt 75 = .ok (.putfield 28, 3) := by decide +kernel
theorem d_N_settleDoubt_78 : decode b_N_settleDoubt 78 = .ok (.iconst 0, 1) := by decide +kernel
theorem d_N_settleDoubt_79 : decode b_N_settleDoubt 79 = .ok (.ireturn, 1) := by decide +kernel
theorem d_N_without_0 : decode b_N_without 0 = .ok (.iload_n 0, 1) := by decide +kernel
theorem d_N_without_1 : decode b_N_without 1 = .ok (.iconst 1, 1) := by decide +kernel
theorem d_N_without_2 : decode b_N_without 2 = .ok (.iload_n 1, 1) := by decide +kernel
theorem d_N_without_3 : decode b_N_without 3 = .ok (.ishl, 1) := by decide +kernel
theorem d_N_without_4 : decode b_N_without 4 = .ok (.iconst (-1), 1) := by decide +kernel
theorem d_N_without_5 : decode b_N_without 5 = .ok (.ixor, 1) := by decide +kernel
theorem d_N_without_6 : decode b_N_without 6 = .ok (.iand, 1) := by decide +kernel
theorem d_N_without_7 : decode b_N_without 7 = .ok (.ireturn, 1) := by decide +kernel
theorem d_N_join_0 : decode b_N_join 0 = .ok (.aload_n 0, 1) := by decide +kernel
theorem d_N_join_1 : decode b_N_join 1 = .ok (.dup, 1) := by decide +kernel
theorem d_N_join_2 : decode b_N_join 2 = .ok (.getfield 34, 3) := by decide +kernel
theorem d_N_join_5 : decode b_N_join 5 = .ok (.iconst 1, 1) := by decide +kernel
theorem d_N_join_6 : decode b_N_join 6 = .ok (.iload_n 1, 1) := by decide +kernel
theorem d_N_join_7 : decode b_N_join 7 = .ok (.ishl, 1) := by decide +kernel
theorem d_N_join_8 : decode b_N_join 8 = .ok (.ior, 1) := by decide +kernel
theorem d_N_join_9 : decode b_N_join 9 = .ok (.putfield 34, 3) := by decide +kernel
theorem d_N_join_12 : decode b_N_join 12 = .ok (.return_, 1) := by decide +kernel
theorem d_N_leave_0 : decode b_N_leave 0 = .ok (.aload_n 0, 1) := by decide +kernel
theorem d_N_leave_1 : decode b_N_leave 1 = .ok (.dup, 1) := by decide +kernel
theorem d_N_leave_2 : decode b_N_leave 2 = .ok (.getfield 34, 3) := by decide +kernel
theorem d_N_leave_5 : decode b_N_leave 5 = .ok (.iconst 1, 1) := by decide +kernel
theorem d_N_leave_6 : decode b_N_leave 6 = .ok (.iload_n 1, 1) := by decide +kernel
theorem d_N_leave_7 : decode b_N_leave 7 = .ok (.ishl, 1) := by decide +kernel
theorem d_N_leave_8 : decode b_N_leave 8 = .ok (.iconst (-1), 1) := by decide +kernel
theorem d_N_leave_9 : decode b_N_leave 9 = .ok (.ixor, 1) := by decide +kernel
theorem d_N_leave_10 : decode b_N_leave 10 = .ok (.iand, 1) := by decide +kernel
theorem d_N_leave_11 : decode b_N_leave 11 = .ok (.putfield 34, 3) := by decide +kernel
theorem d_N_leave_14 : decode b_N_leave 14 = .ok (.return_, 1) := by decide +kernel
theorem d_N_correctClock_0 : decode b_N_correctClock 0 = .ok (.aload_n 0, 1) := by decide +kernel
theorem d_N_correctClock_1 : decode b_N_correctClock 1 = .ok (.invokevirtual 80, 3) := by decide +kernel
theorem d_N_correctClock_4 : decode b_N_correctClock 4 = .ok (.ifCond .eq 42, 3) := by decide +kernel
theorem d_N_correctClock_7 : decode b_N_correctClock 7 = .ok (.aload_n 0, 1) := by decide +kernel
theorem d_N_correctClock_8 : decode b_N_correctClock 8 = .ok (.getfield 37, 3) := by decide +kernel
theorem d_N_correctClock_11 : decode b_N_correctClock 11 = .ok (.aload_n 0, 1) := by decide +kernel
theorem d_N_correctClock_12 : decode b_N_correctClock 12 = .ok (.getfield 15, 3) := by decide +kernel
theorem d_N_correctClock_15 : decode b_N_correctClock 15 = .ok (.iconst 1, 1) := by decide +kernel
theorem d_N_correctClock_16 : decode b_N_correctClock 16 = .ok (.isub, 1) := by decide +kernel
theorem d_N_correctClock_17 : decode b_N_correctClock 17 = .ok (.if_icmp .ne 29, 3) := by decide +kernel
theorem d_N_correctClock_20 : decode b_N_correctClock 20 = .ok (.aload_n 0, 1) := by decide +kernel
theorem d_N_correctClock_21 : decode b_N_correctClock 21 = .ok (.getfield 21, 3) := by decide +kernel
theorem d_N_correctClock_24 : decode b_N_correctClock 24 = .ok (.invokevirtual 137, 3) := by decide +kernel
theorem d_N_correctClock_27 : decode b_N_correctClock 27 = .ok (.ifCond .eq 19, 3) := by decide +kernel
theorem d_N_correctClock_30 : decode b_N_correctClock 30 = .ok (.aload_n 0, 1) := by decide +kernel
theorem d_N_correctClock_31 : decode b_N_correctClock 31 = .ok (.dup, 1) := by decide +kernel
theorem d_N_correctClock_32 : decode b_N_correctClock 32 = .ok (.getfield 52, 3) := by decide +kernel
theorem d_N_correctClock_35 : decode b_N_correctClock 35 = .ok (.aload_n 0, 1) := by decide +kernel
theorem d_N_correctClock_36 : decode b_N_correctClock 36 = .ok (.getfield 21, 3) := by decide +kernel
theorem d_N_correctClock_39 : decode b_N_correctClock 39 = .ok (.invokevirtual 140, 3) := by decide +kernel
theorem d_N_correctClock_42 : decode b_N_correctClock 42 = .ok (.iadd, 1) := by decide +kernel
theorem d_N_correctClock_43 : decode b_N_correctClock 43 = .ok (.putfield 52, 3) := by decide +kernel
theorem d_N_correctClock_46 : decode b_N_correctClock 46 = .ok (.return_, 1) := by decide +kernel
theorem d_W_init_0 : decode b_W_init 0 = .ok (.aload_n 0, 1) := by decide +kernel
theorem d_W_init_1 : decode b_W_init 1 = .ok (.invokespecial 3, 3) := by decide +kernel
theorem d_W_init_4 : decode b_W_init 4 = .ok (.aload_n 0, 1) := by decide +kernel
theorem d_W_init_5 : decode b_W_init 5 = .ok (.iconst 0, 1) := by decide +kernel
theorem d_W_init_6 : decode b_W_init 6 = .ok (.putfield 9, 3) := by decide +kernel
theorem d_W_init_9 : decode b_W_init 9 = .ok (.return_, 1) := by decide +kernel
theorem d_W_fallSilent_0 : decode b_W_fallSilent 0 = .ok (.aload_n 0, 1) := by decide +kernel
theorem d_W_fallSilent_1 : decode b_W_fallSilent 1 = .ok (.iconst 0, 1) := by decide +kernel
theorem d_W_fallSilent_2 : decode b_W_fallSilent 2 = .ok (.putfield 9, 3) := by decide +kernel
theorem d_W_fallSilent_5 : decode b_W_fallSilent 5 = .ok (.return_, 1) := by decide +kernel
theorem d_W_carry_0 : decode b_W_carry 0 = .ok (.aload_n 0, 1) := by decide +kernel
theorem d_W_carry_1 : decode b_W_carry 1 = .ok (.aload_n 0, 1) := by decide +kernel
theorem d_W_carry_2 : decode b_W_carry 2 = .ok (.getfield 9, 3) := by decide +kernel
theorem d_W_carry_5 : decode b_W_carry 5 = .ok (.ifCond .ne 10, 3) := by decide +kernel
theorem d_W_carry_8 : decode b_W_carry 8 = .ok (.aload_n 1, 1) := by decide +kernel
theorem d_W_carry_9 : decode b_W_carry 9 = .ok (.getfield 15, 3) := by decide +kernel
theorem d_W_carry_12 : decode b_W_carry 12 = .ok (.goto 4, 3) := by decide +kernel
theorem d_W_carry_15 : decode b_W_carry 15 = .ok (.iconst 1, 1) := by decide +kernel
theorem d_W_carry_16 : decode b_W_carry 16 = .ok (.putfield 9, 3) := by decide +kernel
theorem d_W_carry_19 : decode b_W_carry 19 = .ok (.aload_n 0, 1) := by decide +kernel
theorem d_W_carry_20 : decode b_W_carry 20 = .ok (.aload_n 1, 1) := by decide +kernel
theorem d_W_carry_21 : decode b_W_carry 21 = .ok (.getfield 20, 3) := by decide +kernel
theorem d_W_carry_24 : decode b_W_carry 24 = .ok (.putfield 23, 3) := by decide +kernel
theorem d_W_carry_27 : decode b_W_carry 27 = .ok (.aload_n 0, 1) := by decide +kernel
theorem d_W_carry_28 : decode b_W_carry 28 = .ok (.aload_n 1, 1) := by decide +kernel
theorem d_W_carry_29 : decode b_W_carry 29 = .ok (.getfield 26, 3) := by decide +kernel
theorem d_W_carry_32 : decode b_W_carry 32 = .ok (.putfield 29, 3) := by decide +kernel
theorem d_W_carry_35 : decode b_W_carry 35 = .ok (.aload_n 0, 1) := by decide +kernel
theorem d_W_carry_36 : decode b_W_carry 36 = .ok (.aload_n 1, 1) := by decide +kernel
theorem d_W_carry_37 : decode b_W_carry 37 = .ok (.getfield 30, 3) := by decide +kernel
theorem d_W_carry_40 : decode b_W_carry 40 = .ok (.putfield 33, 3) := by decide +kernel
theorem d_W_carry_43 : decode b_W_carry 43 = .ok (.aload_n 0, 1) := by decide +kernel
theorem d_W_carry_44 : decode b_W_carry 44 = .ok (.aload_n 1, 1) := by decide +kernel
theorem d_W_carry_45 : decode b_W_carry 45 = .ok (.getfield 34, 3) := by decide +kernel
theorem d_W_carry_48 : decode b_W_carry 48 = .ok (.putfield 37, 3) := by decide +kernel
theorem d_W_carry_51 : decode b_W_carry 51 = .ok (.return_, 1) := by decide +kernel
theorem d_W_hasFrame_0 : decode b_W_hasFrame 0 = .ok (.aload_n 0, 1) := by decide +kernel
theorem d_W_hasFrame_1 : decode b_W_hasFrame 1 = .ok (.getfield 9, 3) := by decide +kernel
theorem d_W_hasFrame_4 : decode b_W_hasFrame 4 = .ok (.iconst 2, 1) := by decide +kernel
theorem d_W_hasFrame_5 : decode b_W_hasFrame 5 = .ok (.if_icmp .eq 11, 3) := by decide +kernel
theorem d_W_hasFrame_8 : decode b_W_hasFrame 8 = .ok (.aload_n 0, 1) := by decide +kernel
theorem d_W_hasFrame_9 : decode b_W_hasFrame 9 = .ok (.getfield 9, 3) := by decide +kernel
theorem d_W_hasFrame_12 : decode b_W_hasFrame 12 = .ok (.iconst 3, 1) := by decide +kernel
theorem d_W_hasFrame_13 : decode b_W_hasFrame 13 = .ok (.if_icmp .ne 7, 3) := by decide +kernel
theorem d_W_hasFrame_16 : decode b_W_hasFrame 16 = .ok (.iconst 1, 1) := by decide +kernel
theorem d_W_hasFrame_17 : decode b_W_hasFrame 17 = .ok (.goto 4, 3) := by decide +kernel
theorem d_W_hasFrame_20 : decode b_W_hasFrame 20 = .ok (.iconst 0, 1) := by decide +kernel
theorem d_W_hasFrame_21 : decode b_W_hasFrame 21 = .ok (.ireturn, 1) := by decide +kernel
