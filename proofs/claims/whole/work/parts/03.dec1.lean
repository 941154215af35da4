theorem d_DeviceSets_init_0 : decode b_DeviceSets_init 0 = .ok (.aload_n 0, 1) := by decide +kernel
theorem d_DeviceSets_init_1 : decode b_DeviceSets_init 1 = .ok (.invokespecial 1, 3) := by decide +kernel
theorem d_DeviceSets_init_4 : decode b_DeviceSets_init 4 = .ok (.aload_n 0, 1) := by decide +kernel
theorem d_DeviceSets_init_5 : decode b_DeviceSets_init 5 = .ok (.iconst 4, 1) := by decide +kernel
theorem d_DeviceSets_init_6 : decode b_DeviceSets_init 6 = .ok (.anewarray 9, 3) := by decide +kernel
theorem d_DeviceSets_init_9 : decode b_DeviceSets_init 9 = .ok (.putfield 11, 3) := by decide +kernel
theorem d_DeviceSets_init_12 : decode b_DeviceSets_init 12 = .ok (.aload_n 0, 1) := by decide +kernel
theorem d_DeviceSets_init_13 : decode b_DeviceSets_init 13 = .ok (.bipush 6, 2) := by decide +kernel
theorem d_DeviceSets_init_15 : decode b_DeviceSets_init 15 = .ok (.anewarray 15, 3) := by decide +kernel
theorem d_DeviceSets_init_18 : decode b_DeviceSets_init 18 = .ok (.putfield 17, 3) := by decide +kernel
theorem d_DeviceSets_init_21 : decode b_DeviceSets_init 21 = .ok (.aload_n 0, 1) := by decide +kernel
theorem d_DeviceSets_init_22 : decode b_DeviceSets_init 22 = .ok (.new 21, 3) := by decide +kernel
theorem d_DeviceSets_init_25 : decode b_DeviceSets_init 25 = .ok (.dup, 1) := by decide +kernel
theorem d_DeviceSets_init_26 : decode b_DeviceSets_init 26 = .ok (.invokespecial 23, 3) := by decide +kernel
theorem d_DeviceSets_init_29 : decode b_DeviceSets_init 29 = .ok (.putfield 24, 3) := by decide +kernel
theorem d_DeviceSets_init_32 : decode b_DeviceSets_init 32 = .ok (.aload_n 0, 1) := by decide +kernel
theorem d_DeviceSets_init_33 : decode b_DeviceSets_init 33 = .ok (.new 28, 3) := by decide +kernel
theorem d_DeviceSets_init_36 : decode b_DeviceSets_init 36 = .ok (.dup, 1) := by decide +kernel
theorem d_DeviceSets_init_37 : decode b_DeviceSets_init 37 = .ok (.invokespecial 30, 3) := by decide +kernel
theorem d_DeviceSets_init_40 : decode b_DeviceSets_init 40 = .ok (.putfield 31, 3) := by decide +kernel
theorem d_DeviceSets_init_43 : decode b_DeviceSets_init 43 = .ok (.return_, 1) := by decide +kernel
theorem d_DeviceSets_device_0 : decode b_DeviceSets_device 0 = .ok (.aload_n 0, 1) := by decide +kernel
theorem d_DeviceSets_device_1 : decode b_DeviceSets_device 1 = .ok (.getfield 35, 3) := by decide +kernel
theorem d_DeviceSets_device_4 : decode b_DeviceSets_device 4 = .ok (.iconst 4, 1) := by decide +kernel
theorem d_DeviceSets_device_5 : decode b_DeviceSets_device 5 = .ok (.if_icmp .lt 5, 3) := by decide +kernel
theorem d_DeviceSets_device_8 : decode b_DeviceSets_device 8 = .ok (.iconst (-1), 1) := by decide +kernel
theorem d_DeviceSets_device_9 : decode b_DeviceSets_device 9 = .ok (.ireturn, 1) := by decide +kernel
theorem d_DeviceSets_device_10 : decode b_DeviceSets_device 10 = .ok (.aload_n 0, 1) := by decide +kernel
theorem d_DeviceSets_device_11 : decode b_DeviceSets_device 11 = .ok (.getfield 11, 3) := by decide +kernel
theorem d_DeviceSets_device_14 : decode b_DeviceSets_device 14 = .ok (.aload_n 0, 1) := by decide +kernel
theorem d_DeviceSets_device_15 : decode b_DeviceSets_device 15 = .ok (.getfield 35, 3) := by decide +kernel
theorem d_DeviceSets_device_18 : decode b_DeviceSets_device 18 = .ok (.new 9, 3) := by decide +kernel
theorem d_DeviceSets_device_21 : decode b_DeviceSets_device 21 = .ok (.dup, 1) := by decide +kernel
theorem d_DeviceSets_device_22 : decode b_DeviceSets_device 22 = .ok (.invokespecial 39, 3) := by decide +kernel
theorem d_DeviceSets_device_25 : decode b_DeviceSets_device 25 = .ok (.aastore, 1) := by decide +kernel
theorem d_DeviceSets_device_26 : decode b_DeviceSets_device 26 = .ok (.aload_n 0, 1) := by decide +kernel
theorem d_DeviceSets_device_27 : decode b_DeviceSets_device 27 = .ok (.dup, 1) := by decide +kernel
theorem d_DeviceSets_device_28 : decode b_DeviceSets_device 28 = .ok (.getfield 35, 3) := by decide +kernel
theorem d_DeviceSets_device_31 : decode b_DeviceSets_device 31 = .ok (.iconst 1, 1) := by decide +kernel
theorem d_DeviceSets_device_32 : decode b_DeviceSets_device 32 = .ok (.iadd, 1) := by decide +kernel
theorem d_DeviceSets_device_33 : decode b_DeviceSets_device 33 = .ok (.putfield 35, 3) := by decide +kernel
theorem d_DeviceSets_device_36 : decode b_DeviceSets_device 36 = .ok (.aload_n 0, 1) := by decide +kernel
theorem d_DeviceSets_device_37 : decode b_DeviceSets_device 37 = .ok (.getfield 35, 3) := by decide +kernel
theorem d_DeviceSets_device_40 : decode b_DeviceSets_device 40 = .ok (.iconst 1, 1) := by decide +kernel
theorem d_DeviceSets_device_41 : decode b_DeviceSets_device 41 = .ok (.isub, 1) := by decide +kernel
theorem d_DeviceSets_device_42 : decode b_DeviceSets_device 42 = .ok (.ireturn, 1) := by decide +kernel
theorem d_DeviceSets_tell_0 : decode b_DeviceSets_tell 0 = .ok (.aload_n 0, 1) := by decide +kernel
theorem d_DeviceSets_tell_1 : decode b_DeviceSets_tell 1 = .ok (.iload_n 1, 1) := by decide +kernel
theorem d_DeviceSets_tell_2 : decode b_DeviceSets_tell 2 = .ok (.invokevirtual 40, 3) := by decide +kernel
theorem d_DeviceSets_tell_5 : decode b_DeviceSets_tell 5 = .ok (.astore 11, 2) := by decide +kernel
theorem d_DeviceSets_tell_7 : decode b_DeviceSets_tell 7 = .ok (.aload 11, 2) := by decide +kernel
theorem d_DeviceSets_tell_9 : decode b_DeviceSets_tell 9 = .ok (.ifnull 20, 3) := by decide +kernel
theorem d_DeviceSets_tell_12 : decode b_DeviceSets_tell 12 = .ok (.lload_n 2, 1) := by decide +kernel
theorem d_DeviceSets_tell_13 : decode b_DeviceSets_tell 13 = .ok (.invokestatic 44, 3) := by decide +kernel
theorem d_DeviceSets_tell_16 : decode b_DeviceSets_tell 16 = .ok (.ifCond .eq 13, 3) := by decide +kernel
theorem d_DeviceSets_tell_19 : decode b_DeviceSets_tell 19 = .ok (.lload_n 2, 1) := by decide +kernel
theorem d_DeviceSets_tell_20 : decode b_DeviceSets_tell 20 = .ok (.aload 11, 2) := by decide +kernel
theorem d_DeviceSets_tell_22 : decode b_DeviceSets_tell 22 = .ok (.getfield 48, 3) := by decide +kernel
theorem d_DeviceSets_tell_25 : decode b_DeviceSets_tell 25 = .ok (.lcmp, 1) := by decide +kernel
theorem d_DeviceSets_tell_26 : decode b_DeviceSets_tell 26 = .ok (.ifCond .ge 5, 3) := by decide +kernel
theorem d_DeviceSets_tell_29 : decode b_DeviceSets_tell 29 = .ok (.iconst (-1), 1) := by decide +kernel
theorem d_DeviceSets_tell_30 : decode b_DeviceSets_tell 30 = .ok (.ireturn, 1) := by decide +kernel
theorem d_DeviceSets_tell_31 : decode b_DeviceSets_tell 31 = .ok (.iload 4, 2) := by decide +kernel
theorem d_DeviceSets_tell_33 : decode b_DeviceSets_tell 33 = .ok (.invokestatic 52, 3) := by decide +kernel
theorem d_DeviceSets_tell_36 : decode b_DeviceSets_tell 36 = .ok (.ifCond .eq 27, 3) := by decide +kernel
theorem d_DeviceSets_tell_39 : decode b_DeviceSets_tell 39 = .ok (.lload 5, 2) := by decide +kernel
theorem d_DeviceSets_tell_41 : decode b_DeviceSets_tell 41 = .ok (.invokestatic 44, 3) := by decide +kernel
theorem d_DeviceSets_tell_44 : decode b_DeviceSets_tell 44 = .ok (.ifCond .eq 19, 3) := by decide +kernel
theorem d_DeviceSets_tell_47 : decode b_DeviceSets_tell 47 = .ok (.lload 7, 2) := by decide +kernel
theorem d_DeviceSets_tell_49 : decode b_DeviceSets_tell 49 = .ok (.invokestatic 56, 3) := by decide +kernel
theorem d_DeviceSets_tell_52 : decode b_DeviceSets_tell 52 = .ok (.ifCond .eq 11, 3) := by decide +kernel
theorem d_DeviceSets_tell_55 : decode b_DeviceSets_tell 55 = .ok (.lload 9, 2) := by decide +kernel
theorem d_DeviceSets_tell_57 : decode b_DeviceSets_tell 57 = .ok (.invokestatic 44, 3) := by decide +kernel
theorem d_DeviceSets_tell_60 : decode b_DeviceSets_tell 60 = .ok (.ifCond .ne 5, 3) := by decide +kernel
theorem d_DeviceSets_tell_63 : decode b_DeviceSets_tell 63 = .ok (.iconst (-1), 1) := by decide +kernel
theorem d_DeviceSets_tell_64 : decode b_DeviceSets_tell 64 = .ok (.ireturn, 1) := by decide +kernel
theorem d_DeviceSets_tell_65 : decode b_DeviceSets_tell 65 = .ok (.aload_n 0, 1) := by decide +kernel
theorem d_DeviceSets_tell_66 : decode b_DeviceSets_tell 66 = .ok (.getfield 24, 3) := by decide +kernel
theorem d_DeviceSets_tell_69 : decode b_DeviceSets_tell 69 = .ok (.iload_n 1, 1) := by decide +kernel
theorem d_DeviceSets_tell_70 : decode b_DeviceSets_tell 70 = .ok (.aload 11, 2) := by decide +kernel
theorem d_DeviceSets_tell_72 : decode b_DeviceSets_tell 72 = .ok (.getfield 59, 3) := by decide +kernel
theorem d_DeviceSets_tell_75 : decode b_DeviceSets_tell 75 = .ok (.lload_n 2, 1) := by decide +kernel
theorem d_DeviceSets_tell_76 : decode b_DeviceSets_tell 76 = .ok (.l2i, 1) := by decide +kernel
theorem d_DeviceSets_tell_77 : decode b_DeviceSets_tell 77 = .ok (.iload 4, 2) := by decide +kernel
theorem d_DeviceSets_tell_79 : decode b_DeviceSets_tell 79 = .ok (.lload 5, 2) := by decide +kernel
theorem d_DeviceSets_tell_81 : decode b_DeviceSets_tell 81 = .ok (.lload 7, 2) := by decide +kernel
theorem d_DeviceSets_tell_83 : decode b_DeviceSets_tell 83 = .ok (.invokevirtual 62, 3) := by decide +kernel
theorem d_DeviceSets_tell_86 : decode b_DeviceSets_tell 86 = .ok (.ifCond .eq 5, 3) := by decide +kernel
theorem d_DeviceSets_tell_89 : decode b_DeviceSets_tell 89 = .ok (.iconst 0, 1) := by decide +kernel
theorem d_DeviceSets_tell_90 : decode b_DeviceSets_tell 90 = .ok (.ireturn, 1) := by decide +kernel
theorem d_DeviceSets_tell_91 : decode b_DeviceSets_tell 91 = .ok (.aload_n 0, 1) := by decide +kernel
theorem d_DeviceSets_tell_92 : decode b_DeviceSets_tell 92 = .ok (.getfield 24, 3) := by decide +kernel
theorem d_DeviceSets_tell_95 : decode b_DeviceSets_tell 95 = .ok (.iload_n 1, 1) := by decide +kernel
theorem d_DeviceSets_tell_96 : decode b_DeviceSets_tell 96 = .ok (.aload 11, 2) := by decide +kernel
theorem d_DeviceSets_tell_98 : decode b_DeviceSets_tell 98 = .ok (.getfield 59, 3) := by decide +kernel
theorem d_DeviceSets_tell_101 : decode b_DeviceSets_tell 101 = .ok (.lload_n 2, 1) := by decide +kernel
theorem d_DeviceSets_tell_102 : decode b_DeviceSets_tell 102 = .ok (.l2i, 1) := by decide +kernel
theorem d_DeviceSets_tell_103 : decode b_DeviceSets_tell 103 = .ok (.iload 4, 2) := by decide +kernel
theorem d_DeviceSets_tell_105 : decode b_DeviceSets_tell 105 = .ok (.lload 5, 2) := by decide +kernel
theorem d_DeviceSets_tell_107 : decode b_DeviceSets_tell 107 = .ok (.lload 7, 2) := by decide +kernel
theorem d_DeviceSets_tell_109 : decode b_DeviceSets_tell 109 = .ok (.lload 9, 2) := by decide +kernel
theorem d_DeviceSets_tell_111 : decode b_DeviceSets_tell 111 = .ok (.invokevirtual 66, 3) := by decide +kernel
theorem d_DeviceSets_tell_114 : decode b_DeviceSets_tell 114 = .ok (.ifCond .eq 7, 3) := by decide +kernel
theorem d_DeviceSets_tell_117 : decode b_DeviceSets_tell 117 = .ok (.iconst 1, 1) := by decide +kernel
theorem d_DeviceSets_tell_118 : decode b_DeviceSets_tell 118 = .ok (.goto 4, 3) := by decide +kernel
theorem d_DeviceSets_tell_121 : decode b_DeviceSets_tell 121 = .ok (.iconst (-1), 1) := by decide +kernel
theorem d_DeviceSets_tell_122 : decode b_DeviceSets_tell 122 = .ok (.ireturn, 1) := by decide +kernel
theorem d_DeviceSets_reset_0 : decode b_DeviceSets_reset 0 = .ok (.aload_n 0, 1) := by decide +kernel
theorem d_DeviceSets_reset_1 : decode b_DeviceSets_reset 1 = .ok (.iload_n 1, 1) := by decide +kernel
theorem d_DeviceSets_reset_2 : decode b_DeviceSets_reset 2 = .ok (.invokevirtual 40, 3) := by decide +kernel
theorem d_DeviceSets_reset_5 : decode b_DeviceSets_reset 5 = .ok (.astore 4, 2) := by decide +kernel
theorem d_DeviceSets_reset_7 : decode b_DeviceSets_reset 7 = .ok (.aload 4, 2) := by decide +kernel
theorem d_DeviceSets_reset_9 : decode b_DeviceSets_reset 9 = .ok (.ifnull 20, 3) := by decide +kernel
theorem d_DeviceSets_reset_12 : decode b_DeviceSets_reset 12 = .ok (.lload_n 2, 1) := by decide +kernel
theorem d_DeviceSets_reset_13 : decode b_DeviceSets_reset 13 = .ok (.invokestatic 44, 3) := by decide +kernel
theorem d_DeviceSets_reset_16 : decode b_DeviceSets_reset 16 = .ok (.ifCond .eq 13, 3) := by decide +kernel
theorem d_DeviceSets_reset_19 : decode b_DeviceSets_reset 19 = .ok (.aload 4, 2) := by decide +kernel
theorem d_DeviceSets_reset_21 : decode b_DeviceSets_reset 21 = .ok (.getfield 59, 3) := by decide +kernel
theorem d_DeviceSets_reset_24 : decode b_DeviceSets_reset 24 = .ok (.bipush 99, 2) := by decide +kernel
theorem d_DeviceSets_reset_26 : decode b_DeviceSets_reset 26 = .ok (.if_icmp .lt 5, 3) := by decide +kernel
theorem d_DeviceSets_reset_29 : decode b_DeviceSets_reset 29 = .ok (.iconst 0, 1) := by decide +kernel
theorem d_DeviceSets_reset_30 : decode b_DeviceSets_reset 30 = .ok (.ireturn, 1) := by decide +kernel
theorem d_DeviceSets_reset_31 : decode b_DeviceSets_reset 31 = .ok (.aload 4, 2) := by decide +kernel
theorem d_DeviceSets_reset_33 : decode b_DeviceSets_reset 33 = .ok (.dup, 1) := by decide +kernel
theorem d_DeviceSets_reset_34 : decode b_DeviceSets_reset 34 = .ok (.getfield 59, 3) := by decide +kernel
theorem d_DeviceSets_reset_37 : decode b_DeviceSets_reset 37 = .ok (.iconst 1, 1) := by decide +kernel
theorem d_DeviceSets_reset_38 : decode b_DeviceSets_reset 38 = .ok (.iadd, 1) := by decide +kernel
theorem d_DeviceSets_reset_39 : decode b_DeviceSets_reset 39 = .ok (.putfield 59, 3) := by decide +kernel
theorem d_DeviceSets_reset_42 : decode b_DeviceSets_reset 42 = .ok (.aload 4, 2) := by decide +kernel
theorem d_DeviceSets_reset_44 : decode b_DeviceSets_reset 44 = .ok (.lload_n 2, 1) := by decide +kernel
theorem d_DeviceSets_reset_45 : decode b_DeviceSets_reset 45 = .ok (.putfield 48, 3) := by decide +kernel
theorem d_DeviceSets_reset_48 : decode b_DeviceSets_reset 48 = .ok (.iconst 1, 1) := by decide +kernel
theorem d_DeviceSets_reset_49 : decode b_DeviceSets_reset 49 = .ok (.ireturn, 1) := by decide +kernel
theorem d_DeviceSets_life_0 : decode b_DeviceSets_life 0 = .ok (.aload_n 0, 1) := by decide +kernel
theorem d_DeviceSets_life_1 : decode b_DeviceSets_life 1 = .ok (.iload_n 1, 1) := by decide +kernel
theorem d_DeviceSets_life_2 : decode b_DeviceSets_life 2 = .ok (.invokevirtual 40, 3) := by decide +kernel
theorem d_DeviceSets_life_5 : decode b_DeviceSets_life 5 = .ok (.astore_n 2, 1) := by decide +kernel
theorem d_DeviceSets_life_6 : decode b_DeviceSets_life 6 = .ok (.aload_n 2, 1) := by decide +kernel
theorem d_DeviceSets_life_7 : decode b_DeviceSets_life 7 = .ok (.ifnonnull 7, 3) := by decide +kernel
theorem d_DeviceSets_life_10 : decode b_DeviceSets_life 10 = .ok (.iconst (-1), 1) := by decide +kernel
theorem d_DeviceSets_life_11 : decode b_DeviceSets_life 11 = .ok (.goto 7, 3) := by decide +kernel
theorem d_DeviceSets_life_14 : decode b_DeviceSets_life 14 = .ok (.aload_n 2, 1) := by decide +kernel
theorem d_DeviceSets_life_15 : decode b_DeviceSets_life 15 = .ok (.getfield 59, 3) := by decide +kernel
theorem d_DeviceSets_life_18 : decode b_DeviceSets_life 18 = .ok (.ireturn, 1) := by decide +kernel
theorem d_DeviceSets_set_0 : decode b_DeviceSets_set 0 = .ok (.aload_n 0, 1) := by decide +kernel
theorem d_DeviceSets_set_1 : decode b_DeviceSets_set 1 = .ok (.getfield 70, 3) := by decide +kernel
theorem d_DeviceSets_set_4 : decode b_DeviceSets_set 4 = .ok (.bipush 6, 2) := by decide +kernel
theorem d_DeviceSets_set_6 : decode b_DeviceSets_set 6 = .ok (.if_icmp .ge 11, 3) := by decide +kernel
theorem d_DeviceSets_set_9 : decode b_DeviceSets_set 9 = .ok (.aload_n 0, 1) := by decide +kernel
theorem d_DeviceSets_set_10 : decode b_DeviceSets_set 10 = .ok (.iload_n 1, 1) := by decide +kernel
theorem d_DeviceSets_set_11 : decode b_DeviceSets_set 11 = .ok (.invokevirtual 40, 3) := by decide +kernel
theorem d_DeviceSets_set_14 : decode b_DeviceSets_set 14 = .ok (.ifnonnull 5, 3) := by decide +kernel
theorem d_DeviceSets_set_17 : decode b_DeviceSets_set 17 = .ok (.iconst (-1), 1) := by decide +kernel
theorem d_DeviceSets_set_18 : decode b_DeviceSets_set 18 = .ok (.ireturn, 1) := by decide +kernel
theorem d_DeviceSets_set_19 : decode b_DeviceSets_set 19 = .ok (.aload_n 0, 1) := by decide +kernel
theorem d_DeviceSets_set_20 : decode b_DeviceSets_set 20 = .ok (.getfield 17, 3) := by decide +kernel
theorem d_DeviceSets_set_23 : decode b_DeviceSets_set 23 = .ok (.aload_n 0, 1) := by decide +kernel
theorem d_DeviceSets_set_24 : decode b_DeviceSets_set 24 = .ok (.getfield 70, 3) := by decide +kernel
theorem d_DeviceSets_set_27 : decode b_DeviceSets_set 27 = .ok (.new 15, 3) := by decide +kernel
theorem d_DeviceSets_set_30 : decode b_DeviceSets_set 30 = .ok (.dup, 1) := by decide +kernel
theorem d_DeviceSets_set_31 : decode b_DeviceSets_set 31 = .ok (.aload_n 0, 1) := by decide +kernel
theorem d_DeviceSets_set_32 : decode b_DeviceSets_set 32 = .ok (.getfield 24, 3) := by decide +kernel
theorem d_DeviceSets_set_35 : decode b_DeviceSets_set 35 = .ok (.iload_n 1, 1) := by decide +kernel
theorem d_DeviceSets_set_36 : decode b_DeviceSets_set 36 = .ok (.invokevirtual 73, 3) := by decide +kernel
theorem d_DeviceSets_set_39 : decode b_DeviceSets_set 39 = .ok (.invokespecial 77, 3) := by decide +kernel
theorem d_DeviceSets_set_42 : decode b_DeviceSets_set 42 = .ok (.aastore, 1) := by decide +kernel
theorem d_DeviceSets_set_43 : decode b_DeviceSets_set 43 = .ok (.aload_n 0, 1) := by decide +kernel
theorem d_DeviceSets_set_44 : decode b_DeviceSets_set 44 = .ok (.dup, 1) := by decide +kernel
theorem d_DeviceSets_set_45 : decode b_DeviceSets_set 45 = .ok (.getfield 70, 3) := by decide +kernel
theorem d_DeviceSets_set_48 : decode b_DeviceSets_set 48 = .ok (.iconst 1, 1) := by decide +kernel
theorem d_DeviceSets_set_49 : decode b_DeviceSets_set 49 = .ok (.iadd, 1) := by decide +kernel
theorem d_DeviceSets_set_50 : decode b_DeviceSets_set 50 = .ok (.putfield 70, 3) := by decide +kernel
theorem d_DeviceSets_set_53 : decode b_DeviceSets_set 53 = .ok (.aload_n 0, 1) := by decide +kernel
theorem d_DeviceSets_set_54 : decode b_DeviceSets_set 54 = .ok (.getfield 70, 3) := by decide +kernel
theorem d_DeviceSets_set_57 : decode b_DeviceSets_set 57 = .ok (.iconst 1, 1) := by decide +kernel
theorem d_DeviceSets_set_58 : decode b_DeviceSets_set 58 = .ok (.isub, 1) := by decide +kernel
theorem d_DeviceSets_set_59 : decode b_DeviceSets_set 59 = .ok (.ireturn, 1) := by decide +kernel
theorem d_DeviceSets_join_0 : decode b_DeviceSets_join 0 = .ok (.aload_n 0, 1) := by decide +kernel
theorem d_DeviceSets_join_1 : decode b_DeviceSets_join 1 = .ok (.iload_n 1, 1) := by decide +kernel
theorem d_DeviceSets_join_2 : decode b_DeviceSets_join 2 = .ok (.invokevirtual 80, 3) := by decide +kernel
theorem d_DeviceSets_join_5 : decode b_DeviceSets_join 5 = .ok (.astore_n 3, 1) := by decide +kernel
theorem d_DeviceSets_join_6 : decode b_DeviceSets_join 6 = .ok (.aload_n 0, 1) := by decide +kernel
theorem d_DeviceSets_join_7 : decode b_DeviceSets_join 7 = .ok (.iload_n 2, 1) := by decide +kernel
theorem d_DeviceSets_join_8 : decode b_DeviceSets_join 8 = .ok (.invokevirtual 80, 3) := by decide +kernel
theorem d_DeviceSets_join_11 : decode b_DeviceSets_join 11 = .ok (.astore 4, 2) := by decide +kernel
theorem d_DeviceSets_join_13 : decode b_DeviceSets_join 13 = .ok (.aload_n 3, 1) := by decide +kernel
theorem d_DeviceSets_join_14 : decode b_DeviceSets_join 14 = .ok (.ifnull 8, 3) := by decide +kernel
theorem d_DeviceSets_join_17 : decode b_DeviceSets_join 17 = .ok (.aload 4, 2) := by decide +kernel
theorem d_DeviceSets_join_19 : decode b_DeviceSets_join 19 = .ok (.ifnonnull 5, 3) := by decide +kernel
theorem d_DeviceSets_join_22 : decode b_DeviceSets_join 22 = .ok (.iconst (-1), 1) := by decide +kernel
theorem d_DeviceSets_join_23 : decode b_DeviceSets_join 23 = .ok (.ireturn, 1) := by decide +kernel
theorem d_DeviceSets_join_24 : decode b_DeviceSets_join 24 = .ok (.aload_n 3, 1) := by decide +kernel
theorem d_DeviceSets_join_25 : decode b_DeviceSets_join 25 = .ok (.aload 4, 2) := by decide +kernel
theorem d_DeviceSets_join_27 : decode b_DeviceSets_join 27 = .ok (.invokevirtual 84, 3) := by decide +kernel
theorem d_DeviceSets_join_30 : decode b_DeviceSets_join 30 = .ok (.pop, 1) := by decide +kernel
theorem d_DeviceSets_join_31 : decode b_DeviceSets_join 31 = .ok (.aload_n 0, 1) := by decide +kernel
theorem d_DeviceSets_join_32 : decode b_DeviceSets_join 32 = .ok (.aload_n 3, 1) := by decide +kernel
theorem d_DeviceSets_join_33 : decode b_DeviceSets_join 33 = .ok (.getfield 88, 3) := by decide +kernel
theorem d_DeviceSets_join_36 : decode b_DeviceSets_join 36 = .ok (.invokevirtual 92, 3) := by decide +kernel
theorem d_DeviceSets_join_39 : decode b_DeviceSets_join 39 = .ok (.invokestatic 96, 3) := by decide +kernel
theorem d_DeviceSets_join_42 : decode b_DeviceSets_join 42 = .ok (.ireturn, 1) := by decide +kernel
theorem d_DeviceSets_correct_0 : decode b_DeviceSets_correct 0 = .ok (.aload_n 0, 1) := by decide +kernel
theorem d_DeviceSets_correct_1 : decode b_DeviceSets_correct 1 = .ok (.iload_n 1, 1) := by decide +kernel
theorem d_DeviceSets_correct_2 : decode b_DeviceSets_correct 2 = .ok (.invokevirtual 80, 3) := by decide +kernel
theorem d_DeviceSets_correct_5 : decode b_DeviceSets_correct 5 = .ok (.astore 10, 2) := by decide +kernel
theorem d_DeviceSets_correct_7 : decode b_DeviceSets_correct 7 = .ok (.aload 10, 2) := by decide +kernel
theorem d_DeviceSets_correct_9 : decode b_DeviceSets_correct 9 = .ok (.ifnull 18, 3) := by decide +kernel
theorem d_DeviceSets_correct_12 : decode b_DeviceSets_correct 12 = .ok (.aload_n 0, 1) := by decide +kernel
theorem d_DeviceSets_correct_13 : decode b_DeviceSets_correct 13 = .ok (.iload_n 2, 1) := by decide +kernel
theorem d_DeviceSets_correct_14 : decode b_DeviceSets_correct 14 = .ok (.invokevirtual 40, 3) := by decide +kernel
theorem d_DeviceSets_correct_17 : decode b_DeviceSets_correct 17 = .ok (.ifnull 10, 3) := by decide +kernel
theorem d_DeviceSets_correct_20 : decode b_DeviceSets_correct 20 = .ok (.iload_n 3, 1) := by decide +kernel
theorem d_DeviceSets_correct_21 : decode b_DeviceSets_correct 21 = .ok (.invokestatic 52, 3) := by decide +kernel
theorem d_DeviceSets_correct_24 : decode b_DeviceSets_correct 24 = .ok (.ifCond .ne 5, 3) := by decide +kernel
theorem d_DeviceSets_correct_27 : decode b_DeviceSets_correct 27 = .ok (.iconst 0, 1) := by decide +kernel
theorem d_DeviceSets_correct_28 : decode b_DeviceSets_correct 28 = .ok (.ireturn, 1) := by decide +kernel
theorem d_DeviceSets_correct_29 : decode b_DeviceSets_correct 29 = .ok (.lload 4, 2) := by decide +kernel
theorem d_DeviceSets_correct_31 : decode b_DeviceSets_correct 31 = .ok (.invokestatic 44, 3) := by decide +kernel
theorem d_DeviceSets_correct_34 : decode b_DeviceSets_correct 34 = .ok (.ifCond .eq 19, 3) := by decide +kernel
theorem d_DeviceSets_correct_37 : decode b_DeviceSets_correct 37 = .ok (.lload 6, 2) := by decide +kernel
theorem d_DeviceSets_correct_39 : decode b_DeviceSets_correct 39 = .ok (.invokestatic 56, 3) := by decide +kernel
theorem d_DeviceSets_correct_42 : decode b_DeviceSets_correct 42 = .ok (.ifCond .eq 11, 3) := by decide +kernel
theorem d_DeviceSets_correct_45 : decode b_DeviceSets_correct 45 = .ok (.lload 8, 2) := by decide +kernel
theorem d_DeviceSets_correct_47 : decode b_DeviceSets_correct 47 = .ok (.invokestatic 44, 3) := by decide +kernel
theorem d_DeviceSets_correct_50 : decode b_DeviceSets_correct 50 = .ok (.ifCond .ne 5, 3) := by decide +kernel
theorem d_DeviceSets_correct_53 : decode b_DeviceSets_correct 53 = .ok (.iconst 0, 1) := by decide +kernel
theorem d_DeviceSets_correct_54 : decode b_DeviceSets_correct 54 = .ok (.ireturn, 1) := by decide +kernel
theorem d_DeviceSets_correct_55 : decode b_DeviceSets_correct 55 = .ok (.aload_n 0, 1) := by decide +kernel
theorem d_DeviceSets_correct_56 : decode b_DeviceSets_correct 56 = .ok (.getfield 31, 3) := by decide +kernel
theorem d_DeviceSets_correct_59 : decode b_DeviceSets_correct 59 = .ok (.iload_n 2, 1) := by decide +kernel
theorem d_DeviceSets_correct_60 : decode b_DeviceSets_correct 60 = .ok (.iload_n 3, 1) := by decide +kernel
theorem d_DeviceSets_correct_61 : decode b_DeviceSets_correct 61 = .ok (.lload 4, 2) := by decide +kernel
theorem d_DeviceSets_correct_63 : decode b_DeviceSets_correct 63 = .ok (.lload 6, 2) := by decide +kernel
theorem d_DeviceSets_correct_65 : decode b_DeviceSets_correct 65 = .ok (.lload 8, 2) := by decide +kernel
theorem d_DeviceSets_correct_67 : decode b_DeviceSets_correct 67 = .ok (.invokevirtual 102, 3) := by decide +kernel
theorem d_DeviceSets_correct_70 : decode b_DeviceSets_correct 70 = .ok (.istore 11, 2) := by decide +kernel
theorem d_DeviceSets_correct_72 : decode b_DeviceSets_correct 72 = .ok (.iload 11, 2) := by decide +kernel
theorem d_DeviceSets_correct_74 : decode b_DeviceSets_correct 74 = .ok (.iconst (-1), 1) := by decide +kernel
theorem d_DeviceSets_correct_75 : decode b_DeviceSets_correct 75 = .ok (.if_icmp .ne 5, 3) := by decide +kernel
theorem d_DeviceSets_correct_78 : decode b_DeviceSets_correct 78 = .ok (.iconst 0, 1) := by decide +kernel
theorem d_DeviceSets_correct_79 : decode b_DeviceSets_correct 79 = .ok (.ireturn, 1) := by decide +kernel
theorem d_DeviceSets_correct_80 : decode b_DeviceSets_correct 80 = .ok (.aload 10, 2) := by decide +kernel
theorem d_DeviceSets_correct_82 : decode b_DeviceSets_correct 82 = .ok (.getfield 88, 3) := by decide +kernel
theorem d_DeviceSets_correct_85 : decode b_DeviceSets_correct 85 = .ok (.dup, 1) := by decide +kernel
theorem d_DeviceSets_correct_86 : decode b_DeviceSets_correct 86 = .ok (.getfield 106, 3) := by decide +kernel
theorem d_DeviceSets_correct_89 : decode b_DeviceSets_correct 89 = .ok (.iload 11, 2) := by decide +kernel
theorem d_DeviceSets_correct_91 : decode b_DeviceSets_correct 91 = .ok (.invokestatic 110, 3) := by decide +kernel
theorem d_DeviceSets_correct_94 : decode b_DeviceSets_correct 94 = .ok (.lor, 1) := by decide +kernel
theorem d_DeviceSets_correct_95 : decode b_DeviceSets_correct 95 = .ok (.putfield 106, 3) := by decide +kernel
theorem d_DeviceSets_correct_98 : decode b_DeviceSets_correct 98 = .ok (.iconst 1, 1) := by decide +kernel
theorem d_DeviceSets_correct_99 : decode b_DeviceSets_correct 99 = .ok (.ireturn, 1) := by decide +kernel
theorem d_DeviceSets_last_0 : decode b_DeviceSets_last 0 = .ok (.aload_n 0, 1) := by decide +kernel
theorem d_DeviceSets_last_1 : decode b_DeviceSets_last 1 = .ok (.iload_n 1, 1) := by decide +kernel
theorem d_DeviceSets_last_2 : decode b_DeviceSets_last 2 = .ok (.invokevirtual 80, 3) := by decide +kernel
theorem d_DeviceSets_last_5 : decode b_DeviceSets_last 5 = .ok (.astore 4, 2) := by decide +kernel
theorem d_DeviceSets_last_7 : decode b_DeviceSets_last 7 = .ok (.aload 4, 2) := by decide +kernel
theorem d_DeviceSets_last_9 : decode b_DeviceSets_last 9 = .ok (.ifnonnull 7, 3) := by decide +kernel
theorem d_DeviceSets_last_12 : decode b_DeviceSets_last 12 = .ok (.ldc2_w 113, 3) := by decide +kernel
theorem d_DeviceSets_last_15 : decode b_DeviceSets_last 15 = .ok (.lreturn, 1) := by decide +kernel
theorem d_DeviceSets_last_16 : decode b_DeviceSets_last 16 = .ok (.aload_n 0, 1) := by decide +kernel
theorem d_DeviceSets_last_17 : decode b_DeviceSets_last 17 = .ok (.getfield 24, 3) := by decide +kernel
theorem d_DeviceSets_last_20 : decode b_DeviceSets_last 20 = .ok (.aload_n 0, 1) := by decide +kernel
theorem d_DeviceSets_last_21 : decode b_DeviceSets_last 21 = .ok (.aload 4, 2) := by decide +kernel
theorem d_DeviceSets_last_23 : decode b_DeviceSets_last 23 = .ok (.getfield 88, 3) := by decide +kernel
theorem d_DeviceSets_last_26 : decode b_DeviceSets_last 26 = .ok (.iload_n 2, 1) := by decide +kernel
theorem d_DeviceSets_last_27 : decode b_DeviceSets_last 27 = .ok (.iload_n 3, 1) := by decide +kernel
theorem d_DeviceSets_last_28 : decode b_DeviceSets_last 28 = .ok (.invokevirtual 115, 3) := by decide +kernel
theorem d_DeviceSets_last_31 : decode b_DeviceSets_last 31 = .ok (.invokevirtual 119, 3) := by decide +kernel
theorem d_DeviceSets_last_34 : decode b_DeviceSets_last 34 = .ok (.istore 5, 2) := by decide +kernel
theorem d_DeviceSets_last_36 : decode b_DeviceSets_last 36 = .ok (.iload 5, 2) := by decide +kernel
theorem d_DeviceSets_last_38 : decode b_DeviceSets_last 38 = .ok (.iconst (-1), 1) := by decide +kernel
theorem d_DeviceSets_last_39 : decode b_DeviceSets_last 39 = .ok (.if_icmp .ne 9, 3) := by decide +kernel
theorem d_DeviceSets_last_42 : decode b_DeviceSets_last 42 = .ok (.ldc2_w 113, 3) := by decide +kernel
theorem d_DeviceSets_last_45 : decode b_DeviceSets_last 45 = .ok (.goto 13, 3) := by decide +kernel
theorem d_DeviceSets_last_48 : decode b_DeviceSets_last 48 = .ok (.aload_n 0, 1) := by decide +kernel
theorem d_DeviceSets_last_49 : decode b_DeviceSets_last 49 = .ok (.getfield 24, 3) := by decide +kernel
theorem d_DeviceSets_last_52 : decode b_DeviceSets_last 52 = .ok (.getfield 122, 3) := by decide +kernel
theorem d_DeviceSets_last_55 : decode b_DeviceSets_last 55 = .ok (.iload 5, 2) := by decide +kernel
theorem d_DeviceSets_last_57 : decode b_DeviceSets_last 57 = .ok (.laload, 1) := by decide +kernel
theorem d_DeviceSets_last_58 : decode b_DeviceSets_last 58 = .ok (.lreturn, 1) := by decide +kernel
theorem d_DeviceSets_known_0 : decode b_DeviceSets_known 0 = .ok (.aload_n 0, 1) := by decide +kernel
theorem d_DeviceSets_known_1 : decode b_DeviceSets_known 1 = .ok (.iload_n 1, 1) := by decide +kernel
theorem d_DeviceSets_known_2 : decode b_DeviceSets_known 2 = .ok (.invokevirtual 80, 3) := by decide +kernel
theorem d_DeviceSets_known_5 : decode b_DeviceSets_known 5 = .ok (.astore 8, 2) := by decide +kernel
theorem d_DeviceSets_known_7 : decode b_DeviceSets_known 7 = .ok (.aload 8, 2) := by decide +kernel
theorem d_DeviceSets_known_9 : decode b_DeviceSets_known 9 = .ok (.ifnonnull 7, 3) := by decide +kernel
theorem d_DeviceSets_known_12 : decode b_DeviceSets_known 12 = .ok (.ldc2_w 113, 3) := by decide +kernel
theorem d_DeviceSets_known_15 : decode b_DeviceSets_known 15 = .ok (.lreturn, 1) := by decide +kernel
theorem d_DeviceSets_known_16 : decode b_DeviceSets_known 16 = .ok (.aload_n 0, 1) := by decide +kernel
theorem d_DeviceSets_known_17 : decode b_DeviceSets_known 17 = .ok (.getfield 24, 3) := by decide +kernel
theorem d_DeviceSets_known_20 : decode b_DeviceSets_known 20 = .ok (.aload_n 0, 1) := by decide +kernel
theorem d_DeviceSets_known_21 : decode b_DeviceSets_known 21 = .ok (.aload 8, 2) := by decide +kernel
theorem d_DeviceSets_known_23 : decode b_DeviceSets_known 23 = .ok (.getfield 88, 3) := by decide +kernel
theorem d_DeviceSets_known_26 : decode b_DeviceSets_known 26 = .ok (.iload_n 2, 1) := by decide +kernel
theorem d_DeviceSets_known_27 : decode b_DeviceSets_known 27 = .ok (.iload_n 3, 1) := by decide +kernel
theorem d_DeviceSets_known_28 : decode b_DeviceSets_known 28 = .ok (.invokevirtual 115, 3) := by decide +kernel
theorem d_DeviceSets_known_31 : decode b_DeviceSets_known 31 = .ok (.lload 4, 2) := by decide +kernel
theorem d_DeviceSets_known_33 : decode b_DeviceSets_known 33 = .ok (.lload 6, 2) := by decide +kernel
theorem d_DeviceSets_known_35 : decode b_DeviceSets_known 35 = .ok (.invokevirtual 126, 3) := by decide +kernel
theorem d_DeviceSets_known_38 : decode b_DeviceSets_known 38 = .ok (.istore 9, 2) := by decide +kernel
theorem d_DeviceSets_known_40 : decode b_DeviceSets_known 40 = .ok (.iload 9, 2) := by decide +kernel
theorem d_DeviceSets_known_42 : decode b_DeviceSets_known 42 = .ok (.iconst (-1), 1) := by decide +kernel
theorem d_DeviceSets_known_43 : decode b_DeviceSets_known 43 = .ok (.if_icmp .ne 7, 3) := by decide +kernel
theorem d_DeviceSets_known_46 : decode b_DeviceSets_known 46 = .ok (.ldc2_w 113, 3) := by decide +kernel
theorem d_DeviceSets_known_49 : decode b_DeviceSets_known 49 = .ok (.lreturn, 1) := by decide +kernel
theorem d_DeviceSets_known_50 : decode b_DeviceSets_known 50 = .ok (.aload_n 0, 1) := by decide +kernel
theorem d_DeviceSets_known_51 : decode b_DeviceSets_known 51 = .ok (.getfield 31, 3) := by decide +kernel
theorem d_DeviceSets_known_54 : decode b_DeviceSets_known 54 = .ok (.aload 8, 2) := by decide +kernel
theorem d_DeviceSets_known_56 : decode b_DeviceSets_known 56 = .ok (.getfield 88, 3) := by decide +kernel
theorem d_DeviceSets_known_59 : decode b_DeviceSets_known 59 = .ok (.getfield 106, 3) := by decide +kernel
theorem d_DeviceSets_known_62 : decode b_DeviceSets_known 62 = .ok (.iload_n 2, 1) := by decide +kernel
theorem d_DeviceSets_known_63 : decode b_DeviceSets_known 63 = .ok (.iload_n 3, 1) := by decide +kernel
theorem d_DeviceSets_known_64 : decode b_DeviceSets_known 64 = .ok (.aload_n 0, 1) := by decide +kernel
theorem d_DeviceSets_known_65 : decode b_DeviceSets_known 65 = .ok (.getfield 24, 3) := by decide +kernel
theorem d_DeviceSets_known_68 : decode b_DeviceSets_known 68 = .ok (.getfield 130, 3) := by decide +kernel
theorem d_DeviceSets_known_71 : decode b_DeviceSets_known 71 = .ok (.iload 9, 2) := by decide +kernel
theorem d_DeviceSets_known_73 : decode b_DeviceSets_known 73 = .ok (.laload, 1) := by decide +kernel
theorem d_DeviceSets_known_74 : decode b_DeviceSets_known 74 = .ok (.lload 6, 2) := by decide +kernel
theorem d_DeviceSets_known_76 : decode b_DeviceSets_known 76 = .ok (.invokevirtual 133, 3) := by decide +kernel
theorem d_DeviceSets_known_79 : decode b_DeviceSets_known 79 = .ok (.istore 10, 2) := by decide +kernel
theorem d_DeviceSets_known_81 : decode b_DeviceSets_known 81 = .ok (.iload 10, 2) := by decide +kernel
theorem d_DeviceSets_known_83 : decode b_DeviceSets_known 83 = .ok (.iconst (-1), 1) := by decide +kernel
theorem d_DeviceSets_known_84 : decode b_DeviceSets_known 84 = .ok (.if_icmp .ne 16, 3) := by decide +kernel
theorem d_DeviceSets_known_87 : decode b_DeviceSets_known 87 = .ok (.aload_n 0, 1) := by decide +kernel
theorem d_DeviceSets_known_88 : decode b_DeviceSets_known 88 = .ok (.getfield 24, 3) := by decide +kernel
theorem d_DeviceSets_known_91 : decode b_DeviceSets_known 91 = .ok (.getfield 122, 3) := by decide +kernel
theorem d_DeviceSets_known_94 : decode b_DeviceSets_known 94 = .ok (.iload 9, 2) := by decide +kernel
theorem d_DeviceSets_known_96 : decode b_DeviceSets_known 96 = .ok (.laload, 1) := by decide +kernel
theorem d_DeviceSets_known_97 : decode b_DeviceSets_known 97 = .ok (.goto 13, 3) := by decide +kernel
theorem d_DeviceSets_known_100 : decode b_DeviceSets_known 100 = .ok (.aload_n 0, 1) := by decide +kernel
theorem d_DeviceSets_known_101 : decode b_DeviceSets_known 101 = .ok (.getfield 31, 3) := by decide +kernel
theorem d_DeviceSets_known_104 : decode b_DeviceSets_known 104 = .ok (.getfield 137, 3) := by decide +kernel
theorem d_DeviceSets_known_107 : decode b_DeviceSets_known 107 = .ok (.iload 10, 2) := by decide +kernel
theorem d_DeviceSets_known_109 : decode b_DeviceSets_known 109 = .ok (.laload, 1) := by decide +kernel
theorem d_DeviceSets_known_110 : decode b_DeviceSets_known 110 = .ok (.lreturn, 1) := by decide +kernel
theorem d_DeviceSets_gap_0 : decode b_DeviceSets_gap 0 = .ok (.aload_n 0, 1) := by decide +kernel
theorem d_DeviceSets_gap_1 : decode b_DeviceSets_gap 1 = .ok (.iload_n 1, 1) := by decide +kernel
theorem d_DeviceSets_gap_2 : decode b_DeviceSets_gap 2 = .ok (.invokevirtual 80, 3) := by decide +kernel
theorem d_DeviceSets_gap_5 : decode b_DeviceSets_gap 5 = .ok (.astore 4, 2) := by decide +kernel
theorem d_DeviceSets_gap_7 : decode b_DeviceSets_gap 7 = .ok (.aload 4, 2) := by decide +kernel
theorem d_DeviceSets_gap_9 : decode b_DeviceSets_gap 9 = .ok (.ifnull 7, 3) := by decide +kernel
theorem d_DeviceSets_gap_12 : decode b_DeviceSets_gap 12 = .ok (.iload_n 3, 1) := by decide +kernel
theorem d_DeviceSets_gap_13 : decode b_DeviceSets_gap 13 = .ok (.ifCond .ge 5, 3) := by decide +kernel
theorem d_DeviceSets_gap_16 : decode b_DeviceSets_gap 16 = .ok (.iconst (-1), 1) := by decide +kernel
theorem d_DeviceSets_gap_17 : decode b_DeviceSets_gap 17 = .ok (.ireturn, 1) := by decide +kernel
theorem d_DeviceSets_gap_18 : decode b_DeviceSets_gap 18 = .ok (.aload_n 0, 1) := by decide +kernel
theorem d_DeviceSets_gap_19 : decode b_DeviceSets_gap 19 = .ok (.getfield 24, 3) := by decide +kernel
theorem d_DeviceSets_gap_22 : decode b_DeviceSets_gap 22 = .ok (.aload 4, 2) := by decide +kernel
theorem d_DeviceSets_gap_24 : decode b_DeviceSets_gap 24 = .ok (.getfield 88, 3) := by decide +kernel
theorem d_DeviceSets_gap_27 : decode b_DeviceSets_gap 27 = .ok (.getfield 138, 3) := by decide +kernel
theorem d_DeviceSets_gap_30 : decode b_DeviceSets_gap 30 = .ok (.aload_n 0, 1) := by decide +kernel
theorem d_DeviceSets_gap_31 : decode b_DeviceSets_gap 31 = .ok (.getfield 24, 3) := by decide +kernel
theorem d_DeviceSets_gap_34 : decode b_DeviceSets_gap 34 = .ok (.iload_n 2, 1) := by decide +kernel
theorem d_DeviceSets_gap_35 : decode b_DeviceSets_gap 35 = .ok (.invokevirtual 73, 3) := by decide +kernel
theorem d_DeviceSets_gap_38 : decode b_DeviceSets_gap 38 = .ok (.land, 1) := by decide +kernel
theorem d_DeviceSets_gap_39 : decode b_DeviceSets_gap 39 = .ok (.iload_n 3, 1) := by decide +kernel
theorem d_DeviceSets_gap_40 : decode b_DeviceSets_gap 40 = .ok (.invokevirtual 140, 3) := by decide +kernel
theorem d_DeviceSets_gap_43 : decode b_DeviceSets_gap 43 = .ok (.ireturn, 1) := by decide +kernel
theorem d_DeviceSets_conflict_0 : decode b_DeviceSets_conflict 0 = .ok (.aload_n 0, 1) := by decide +kernel
theorem d_DeviceSets_conflict_1 : decode b_DeviceSets_conflict 1 = .ok (.iload_n 1, 1) := by decide +kernel
theorem d_DeviceSets_conflict_2 : decode b_DeviceSets_conflict 2 = .ok (.invokevirtual 80, 3) := by decide +kernel
theorem d_DeviceSets_conflict_5 : decode b_DeviceSets_conflict 5 = .ok (.astore 4, 2) := by decide +kernel
theorem d_DeviceSets_conflict_7 : decode b_DeviceSets_conflict 7 = .ok (.aload 4, 2) := by decide +kernel
theorem d_DeviceSets_conflict_9 : decode b_DeviceSets_conflict 9 = .ok (.ifnonnull 5, 3) := by decide +kernel
theorem d_DeviceSets_conflict_12 : decode b_DeviceSets_conflict 12 = .ok (.iconst (-1), 1) := by decide +kernel
theorem d_DeviceSets_conflict_13 : decode b_DeviceSets_conflict 13 = .ok (.ireturn, 1) := by decide +kernel
theorem d_DeviceSets_conflict_14 : decode b_DeviceSets_conflict 14 = .ok (.aload_n 0, 1) := by decide +kernel
theorem d_DeviceSets_conflict_15 : decode b_DeviceSets_conflict 15 = .ok (.getfield 24, 3) := by decide +kernel
theorem d_DeviceSets_conflict_18 : decode b_DeviceSets_conflict 18 = .ok (.aload_n 0, 1) := by decide +kernel
theorem d_DeviceSets_conflict_19 : decode b_DeviceSets_conflict 19 = .ok (.aload 4, 2) := by decide +kernel
theorem d_DeviceSets_conflict_21 : decode b_DeviceSets_conflict 21 = .ok (.getfield 88, 3) := by decide +kernel
theorem d_DeviceSets_conflict_24 : decode b_DeviceSets_conflict 24 = .ok (.invokevirtual 92, 3) := by decide +kernel
theorem d_DeviceSets_conflict_27 : decode b_DeviceSets_conflict 27 = .ok (.iload_n 2, 1) := by decide +kernel
theorem d_DeviceSets_conflict_28 : decode b_DeviceSets_conflict 28 = .ok (.invokevirtual 144, 3) := by decide +kernel
theorem d_DeviceSets_conflict_31 : decode b_DeviceSets_conflict 31 = .ok (.istore 5, 2) := by decide +kernel
theorem d_DeviceSets_conflict_33 : decode b_DeviceSets_conflict 33 = .ok (.iload 5, 2) := by decide +kernel
theorem d_DeviceSets_conflict_35 : decode b_DeviceSets_conflict 35 = .ok (.iconst (-1), 1) := by decide +kernel
theorem d_DeviceSets_conflict_36 : decode b_DeviceSets_conflict 36 = .ok (.if_icmp .ne 7, 3) := by decide +kernel
theorem d_DeviceSets_conflict_39 : decode b_DeviceSets_conflict 39 = .ok (.iconst (-1), 1) := by decide +kernel
theorem d_DeviceSets_conflict_40 : decode b_DeviceSets_conflict 40 = .ok (.goto 13, 3) := by decide +kernel
theorem d_DeviceSets_conflict_43 : decode b_DeviceSets_conflict 43 = .ok (.aload_n 0, 1) := by decide +kernel
theorem d_DeviceSets_conflict_44 : decode b_DeviceSets_conflict 44 = .ok (.getfield 24, 3) := by decide +kernel
theorem d_DeviceSets_conflict_47 : decode b_DeviceSets_conflict 47 = .ok (.iload 5, 2) := by decide +kernel
theorem d_DeviceSets_conflict_49 : decode b_DeviceSets_conflict 49 = .ok (.iload_n 3, 1) := by decide +kernel
theorem d_DeviceSets_conflict_50 : decode b_DeviceSets_conflict 50 = .ok (.invokevirtual 147, 3) := by decide +kernel
theorem d_DeviceSets_conflict_53 : decode b_DeviceSets_conflict 53 = .ok (.ireturn, 1) := by decide +kernel
theorem d_DeviceSets_settle_0 : decode b_DeviceSets_settle 0 = .ok (.aload_n 0, 1) := by decide +kernel
theorem d_DeviceSets_settle_1 : decode b_DeviceSets_settle 1 = .ok (.iload_n 1, 1) := by decide +kernel
theorem d_DeviceSets_settle_2 : decode b_DeviceSets_settle 2 = .ok (.invokevirtual 80, 3) := by decide +kernel
theorem d_DeviceSets_settle_5 : decode b_DeviceSets_settle 5 = .ok (.astore 5, 2) := by decide +kernel
theorem d_DeviceSets_settle_7 : decode b_DeviceSets_settle 7 = .ok (.aload 5, 2) := by decide +kernel
theorem d_DeviceSets_settle_9 : decode b_DeviceSets_settle 9 = .ok (.ifnonnull 5, 3) := by decide +kernel
theorem d_DeviceSets_settle_12 : decode b_DeviceSets_settle 12 = .ok (.iconst (-1), 1) := by decide +kernel
theorem d_DeviceSets_settle_13 : decode b_DeviceSets_settle 13 = .ok (.ireturn, 1) := by decide +kernel
theorem d_DeviceSets_settle_14 : decode b_DeviceSets_settle 14 = .ok (.aload_n 0, 1) := by decide +kernel
theorem d_DeviceSets_settle_15 : decode b_DeviceSets_settle 15 = .ok (.getfield 24, 3) := by decide +kernel
theorem d_DeviceSets_settle_18 : decode b_DeviceSets_settle 18 = .ok (.aload_n 0, 1) := by decide +kernel
theorem d_DeviceSets_settle_19 : decode b_DeviceSets_settle 19 = .ok (.aload 5, 2) := by decide +kernel
theorem d_DeviceSets_settle_21 : decode b_DeviceSets_settle 21 = .ok (.getfield 88, 3) := by decide +kernel
theorem d_DeviceSets_settle_24 : decode b_DeviceSets_settle 24 = .ok (.invokevirtual 92, 3) := by decide +kernel
theorem d_DeviceSets_settle_27 : decode b_DeviceSets_settle 27 = .ok (.aload_n 0, 1) := by decide +kernel
theorem d_DeviceSets_settle_28 : decode b_DeviceSets_settle 28 = .ok (.getfield 24, 3) := by decide +kernel
theorem d_DeviceSets_settle_31 : decode b_DeviceSets_settle 31 = .ok (.iload_n 2, 1) := by decide +kernel
theorem d_DeviceSets_settle_32 : decode b_DeviceSets_settle 32 = .ok (.iload_n 3, 1) := by decide +kernel
theorem d_DeviceSets_settle_33 : decode b_DeviceSets_settle 33 = .ok (.invokevirtual 151, 3) := by decide +kernel
theorem d_DeviceSets_settle_36 : decode b_DeviceSets_settle 36 = .ok (.land, 1) := by decide +kernel
theorem d_DeviceSets_settle_37 : decode b_DeviceSets_settle 37 = .ok (.invokevirtual 155, 3) := by decide +kernel
theorem d_DeviceSets_settle_40 : decode b_DeviceSets_settle 40 = .ok (.istore 6, 2) := by decide +kernel
theorem d_DeviceSets_settle_42 : decode b_DeviceSets_settle 42 = .ok (.iload 6, 2) := by decide +kernel
theorem d_DeviceSets_settle_44 : decode b_DeviceSets_settle 44 = .ok (.iconst (-1), 1) := by decide +kernel
theorem d_DeviceSets_settle_45 : decode b_DeviceSets_settle 45 = .ok (.if_icmp .ne 5, 3) := by decide +kernel
theorem d_DeviceSets_settle_48 : decode b_DeviceSets_settle 48 = .ok (.iconst (-1), 1) := by decide +kernel
theorem d_DeviceSets_settle_49 : decode b_DeviceSets_settle 49 = .ok (.ireturn, 1) := by decide +kernel
theorem d_DeviceSets_settle_50 : decode b_DeviceSets_settle 50 = .ok (.aload_n 0, 1) := by decide +kernel
theorem d_DeviceSets_settle_51 : decode b_DeviceSets_settle 51 = .ok (.getfield 24, 3) := by decide +kernel
theorem d_DeviceSets_settle_54 : decode b_DeviceSets_settle 54 = .ok (.aload_n 0, 1) := by decide +kernel
theorem d_DeviceSets_settle_55 : decode b_DeviceSets_settle 55 = .ok (.getfield 24, 3) := by decide +kernel
theorem d_DeviceSets_settle_58 : decode b_DeviceSets_settle 58 = .ok (.iload 6, 2) := by decide +kernel
theorem d_DeviceSets_settle_60 : decode b_DeviceSets_settle 60 = .ok (.aload_n 0, 1) := by decide +kernel
theorem d_DeviceSets_settle_61 : decode b_DeviceSets_settle 61 = .ok (.aload 5, 2) := by decide +kernel
theorem d_DeviceSets_settle_63 : decode b_DeviceSets_settle 63 = .ok (.getfield 88, 3) := by decide +kernel
theorem d_DeviceSets_settle_66 : decode b_DeviceSets_settle 66 = .ok (.invokevirtual 158, 3) := by decide +kernel
theorem d_DeviceSets_settle_69 : decode b_DeviceSets_settle 69 = .ok (.invokevirtual 161, 3) := by decide +kernel
theorem d_DeviceSets_settle_72 : decode b_DeviceSets_settle 72 = .ok (.iload 4, 2) := by decide +kernel
theorem d_DeviceSets_settle_74 : decode b_DeviceSets_settle 74 = .ok (.invokevirtual 144, 3) := by decide +kernel
theorem d_DeviceSets_settle_77 : decode b_DeviceSets_settle 77 = .ok (.istore 7, 2) := by decide +kernel
theorem d_DeviceSets_settle_79 : decode b_DeviceSets_settle 79 = .ok (.iload 7, 2) := by decide +kernel
theorem d_DeviceSets_settle_81 : decode b_DeviceSets_settle 81 = .ok (.iconst (-1), 1) := by decide +kernel
theorem d_DeviceSets_settle_82 : decode b_DeviceSets_settle 82 = .ok (.if_icmp .ne 5, 3) := by decide +kernel
theorem d_DeviceSets_settle_85 : decode b_DeviceSets_settle 85 = .ok (.iconst (-1), 1) := by decide +kernel
theorem d_DeviceSets_settle_86 : decode b_DeviceSets_settle 86 = .ok (.ireturn, 1) := by decide +kernel
theorem d_DeviceSets_settle_87 : decode b_DeviceSets_settle 87 = .ok (.aload 5, 2) := by decide +kernel
theorem d_DeviceSets_settle_89 : decode b_DeviceSets_settle 89 = .ok (.getfield 88, 3) := by decide +kernel
theorem d_DeviceSets_settle_92 : decode b_DeviceSets_settle 92 = .ok (.dup, 1) := by decide +kernel
theorem d_DeviceSets_settle_93 : decode b_DeviceSets_settle 93 = .ok (.getfield 165, 3) := by decide +kernel
theorem d_DeviceSets_settle_96 : decode b_DeviceSets_settle 96 = .ok (.iload 7, 2) := by decide +kernel
theorem d_DeviceSets_settle_98 : decode b_DeviceSets_settle 98 = .ok (.invokestatic 110, 3) := by decide +kernel
theorem d_DeviceSets_settle_101 : decode b_DeviceSets_settle 101 = .ok (.lor, 1) := by decide +kernel
theorem d_DeviceSets_settle_102 : decode b_DeviceSets_settle 102 = .ok (.putfield 165, 3) := by decide +kernel
theorem d_DeviceSets_settle_105 : decode b_DeviceSets_settle 105 = .ok (.aload_n 0, 1) := by decide +kernel
theorem d_DeviceSets_settle_106 : decode b_DeviceSets_settle 106 = .ok (.aload 5, 2) := by decide +kernel
theorem d_DeviceSets_settle_108 : decode b_DeviceSets_settle 108 = .ok (.getfield 88, 3) := by decide +kernel
theorem d_DeviceSets_settle_111 : decode b_DeviceSets_settle 111 = .ok (.invokevirtual 92, 3) := by decide +kernel
theorem d_DeviceSets_settle_114 : decode b_DeviceSets_settle 114 = .ok (.invokestatic 96, 3) := by decide +kernel
theorem d_DeviceSets_settle_117 : decode b_DeviceSets_settle 117 = .ok (.ireturn, 1) := by decide +kernel
theorem d_DeviceSets_equal_0 : decode b_DeviceSets_equal 0 = .ok (.aload_n 0, 1) := by decide +kernel
theorem d_DeviceSets_equal_1 : decode b_DeviceSets_equal 1 = .ok (.iload_n 1, 1) := by decide +kernel
theorem d_DeviceSets_equal_2 : decode b_DeviceSets_equal 2 = .ok (.invokevirtual 80, 3) := by decide +kernel
theorem d_DeviceSets_equal_5 : decode b_DeviceSets_equal 5 = .ok (.astore_n 3, 1) := by decide +kernel
theorem d_DeviceSets_equal_6 : decode b_DeviceSets_equal 6 = .ok (.aload_n 0, 1) := by decide +kernel
theorem d_DeviceSets_equal_7 : decode b_DeviceSets_equal 7 = .ok (.iload_n 2, 1) := by decide +kernel
theorem d_DeviceSets_equal_8 : decode b_DeviceSets_equal 8 = .ok (.invokevirtual 80, 3) := by decide +kernel
theorem d_DeviceSets_equal_11 : decode b_DeviceSets_equal 11 = .ok (.astore 4, 2) := by decide +kernel
theorem d_DeviceSets_equal_13 : decode b_DeviceSets_equal 13 = .ok (.aload_n 3, 1) := by decide +kernel
theorem d_DeviceSets_equal_14 : decode b_DeviceSets_equal 14 = .ok (.ifnull 27, 3) := by decide +kernel
theorem d_DeviceSets_equal_17 : decode b_DeviceSets_equal 17 = .ok (.aload 4, 2) := by decide +kernel
theorem d_DeviceSets_equal_19 : decode b_DeviceSets_equal 19 = .ok (.ifnull 22, 3) := by decide +kernel
theorem d_DeviceSets_equal_22 : decode b_DeviceSets_equal 22 = .ok (.aload_n 3, 1) := by decide +kernel
theorem d_DeviceSets_equal_23 : decode b_DeviceSets_equal 23 = .ok (.getfield 88, 3) := by decide +kernel
theorem d_DeviceSets_equal_26 : decode b_DeviceSets_equal 26 = .ok (.aload 4, 2) := by decide +kernel
theorem d_DeviceSets_equal_28 : decode b_DeviceSets_equal 28 = .ok (.getfield 88, 3) := by decide +kernel
theorem d_DeviceSets_equal_31 : decode b_DeviceSets_equal 31 = .ok (.invokevirtual 168, 3) := by decide +kernel
theorem d_DeviceSets_equal_34 : decode b_DeviceSets_equal 34 = .ok (.ifCond .eq 7, 3) := by decide +kernel
theorem d_DeviceSets_equal_37 : decode b_DeviceSets_equal 37 = .ok (.iconst 1, 1) := by decide +kernel
theorem d_DeviceSets_equal_38 : decode b_DeviceSets_equal 38 = .ok (.goto 4, 3) := by decide +kernel
theorem d_DeviceSets_equal_41 : decode b_DeviceSets_equal 41 = .ok (.iconst 0, 1) := by decide +kernel
theorem d_DeviceSets_equal_42 : decode b_DeviceSets_equal 42 = .ok (.ireturn, 1) := by decide +kernel
theorem d_DeviceSets_batch_0 : decode b_DeviceSets_batch 0 = .ok (.aload_n 0, 1) := by decide +kernel
theorem d_DeviceSets_batch_1 : decode b_DeviceSets_batch 1 = .ok (.iload_n 1, 1) := by decide +kernel
theorem d_DeviceSets_batch_2 : decode b_DeviceSets_batch 2 = .ok (.invokevirtual 80, 3) := by decide +kernel
theorem d_DeviceSets_batch_5 : decode b_DeviceSets_batch 5 = .ok (.astore_n 2, 1) := by decide +kernel
theorem d_DeviceSets_batch_6 : decode b_DeviceSets_batch 6 = .ok (.aload_n 2, 1) := by decide +kernel
theorem d_DeviceSets_batch_7 : decode b_DeviceSets_batch 7 = .ok (.ifnull 11, 3) := by decide +kernel
theorem d_DeviceSets_batch_10 : decode b_DeviceSets_batch 10 = .ok (.aload_n 2, 1) := by decide +kernel
theorem d_DeviceSets_batch_11 : decode b_DeviceSets_batch 11 = .ok (.getfield 172, 3) := by decide +kernel
theorem d_DeviceSets_batch_14 : decode b_DeviceSets_batch 14 = .ok (.iconst (-1), 1) := by decide +kernel
theorem d_DeviceSets_batch_15 : decode b_DeviceSets_batch 15 = .ok (.if_icmp .eq 5, 3) := by decide +kernel
theorem d_DeviceSets_batch_18 : decode b_DeviceSets_batch 18 = .ok (.iconst (-1), 1) := by decide +kernel
theorem d_DeviceSets_batch_19 : decode b_DeviceSets_batch 19 = .ok (.ireturn, 1) := by decide +kernel
theorem d_DeviceSets_batch_20 : decode b_DeviceSets_batch 20 = .ok (.aload_n 2, 1) := by decide +kernel
theorem d_DeviceSets_batch_21 : decode b_DeviceSets_batch 21 = .ok (.aload_n 0, 1) := by decide +kernel
theorem d_DeviceSets_batch_22 : decode b_DeviceSets_batch 22 = .ok (.getfield 175, 3) := by decide +kernel
theorem d_DeviceSets_batch_25 : decode b_DeviceSets_batch 25 = .ok (.putfield 172, 3) := by decide +kernel
theorem d_DeviceSets_batch_28 : decode b_DeviceSets_batch 28 = .ok (.aload_n 0, 1) := by decide +kernel
theorem d_DeviceSets_batch_29 : decode b_DeviceSets_batch 29 = .ok (.dup, 1) := by decide +kernel
theorem d_DeviceSets_batch_30 : decode b_DeviceSets_batch 30 = .ok (.getfield 175, 3) := by decide +kernel
theorem d_DeviceSets_batch_33 : decode b_DeviceSets_batch 33 = .ok (.iconst 1, 1) := by decide +kernel
theorem d_DeviceSets_batch_34 : decode b_DeviceSets_batch 34 = .ok (.iadd, 1) := by decide +kernel
theorem d_DeviceSets_batch_35 : decode b_DeviceSets_batch 35 = .ok (.putfield 175, 3) := by decide +kernel
theorem d_DeviceSets_batch_38 : decode b_DeviceSets_batch 38 = .ok (.aload_n 2, 1) := by decide +kernel
theorem d_DeviceSets_batch_39 : decode b_DeviceSets_batch 39 = .ok (.getfield 172, 3) := by decide +kernel
theorem d_DeviceSets_batch_42 : decode b_DeviceSets_batch 42 = .ok (.ireturn, 1) := by decide +kernel
theorem d_DeviceSets_endBatch_0 : decode b_DeviceSets_endBatch 0 = .ok (.iload_n 1, 1) := by decide +kernel
theorem d_DeviceSets_endBatch_1 : decode b_DeviceSets_endBatch 1 = .ok (.ifCond .ge 5, 3) := by decide +kernel
theorem d_DeviceSets_endBatch_4 : decode b_DeviceSets_endBatch 4 = .ok (.iconst 0, 1) := by decide +kernel
theorem d_DeviceSets_endBatch_5 : decode b_DeviceSets_endBatch 5 = .ok (.ireturn, 1) := by decide +kernel
theorem d_DeviceSets_endBatch_6 : decode b_DeviceSets_endBatch 6 = .ok (.iconst 0, 1) := by decide +kernel
theorem d_DeviceSets_endBatch_7 : decode b_DeviceSets_endBatch 7 = .ok (.istore_n 2, 1) := by decide +kernel
theorem d_DeviceSets_endBatch_8 : decode b_DeviceSets_endBatch 8 = .ok (.iload_n 2, 1) := by decide +kernel
theorem d_DeviceSets_endBatch_9 : decode b_DeviceSets_endBatch 9 = .ok (.aload_n 0, 1) := by decide +kernel
theorem d_DeviceSets_endBatch_10 : decode b_DeviceSets_endBatch 10 = .ok (.getfield 70, 3) := by decide +kernel
theorem d_DeviceSets_endBatch_13 : decode b_DeviceSets_endBatch 13 = .ok (.if_icmp .ge 33, 3) := by decide +kernel
theorem d_DeviceSets_endBatch_16 : decode b_DeviceSets_endBatch 16 = .ok (.aload_n 0, 1) := by decide +kernel
theorem d_DeviceSets_endBatch_17 : decode b_DeviceSets_endBatch 17 = .ok (.iload_n 2, 1) := by decide +kernel
theorem d_DeviceSets_endBatch_18 : decode b_DeviceSets_endBatch 18 = .ok (.invokevirtual 80, 3) := by decide +kernel
theorem d_DeviceSets_endBatch_21 : decode b_DeviceSets_endBatch 21 = .ok (.astore_n 3, 1) := by decide +kernel
theorem d_DeviceSets_endBatch_22 : decode b_DeviceSets_endBatch 22 = .ok (.aload_n 3, 1) := by decide +kernel
theorem d_DeviceSets_endBatch_23 : decode b_DeviceSets_endBatch 23 = .ok (.ifnull 17, 3) := by decide +kernel
theorem d_DeviceSets_endBatch_26 : decode b_DeviceSets_endBatch 26 = .ok (.aload_n 3, 1) := by decide +kernel
theorem d_DeviceSets_endBatch_27 : decode b_DeviceSets_endBatch 27 = .ok (.getfield 172, 3) := by decide +kernel
theorem d_DeviceSets_endBatch_30 : decode b_DeviceSets_endBatch 30 = .ok (.iload_n 1, 1) := by decide +kernel
theorem d_DeviceSets_endBatch_31 : decode b_DeviceSets_endBatch 31 = .ok (.if_icmp .ne 9, 3) := by decide +kernel
theorem d_DeviceSets_endBatch_34 : decode b_DeviceSets_endBatch 34 = .ok (.aload_n 3, 1) := by decide +kernel
theorem d_DeviceSets_endBatch_35 : decode b_DeviceSets_endBatch 35 = .ok (.invokevirtual 178, 3) := by decide +kernel
theorem d_DeviceSets_endBatch_38 : decode b_DeviceSets_endBatch 38 = .ok (.iconst 1, 1) := by decide +kernel
theorem d_DeviceSets_endBatch_39 : decode b_DeviceSets_endBatch 39 = .ok (.ireturn, 1) := by decide +kernel
theorem d_DeviceSets_endBatch_40 : decode b_DeviceSets_endBatch 40 = .ok (.iinc 2 1, 3) := by decide +kernel
theorem d_DeviceSets_endBatch_43 : decode b_DeviceSets_endBatch 43 = .ok (.goto (-35), 3) := by decide +kernel
theorem d_DeviceSets_endBatch_46 : decode b_DeviceSets_endBatch 46 = .ok (.iconst 0, 1) := by decide +kernel
theorem d_DeviceSets_endBatch_47 : decode b_DeviceSets_endBatch 47 = .ok (.ireturn, 1) := by decide +kernel
theorem d_DeviceSets_retain_0 : decode b_DeviceSets_retain 0 = .ok (.aload_n 0, 1) := by decide +kernel
theorem d_DeviceSets_retain_1 : decode b_DeviceSets_retain 1 = .ok (.iload_n 1, 1) := by decide +kernel
theorem d_DeviceSets_retain_2 : decode b_DeviceSets_retain 2 = .ok (.invokevirtual 80, 3) := by decide +kernel
theorem d_DeviceSets_retain_5 : decode b_DeviceSets_retain 5 = .ok (.astore 4, 2) := by decide +kernel
theorem d_DeviceSets_retain_7 : decode b_DeviceSets_retain 7 = .ok (.aload 4, 2) := by decide +kernel
theorem d_DeviceSets_retain_9 : decode b_DeviceSets_retain 9 = .ok (.ifnull 17, 3) := by decide +kernel
theorem d_DeviceSets_retain_12 : decode b_DeviceSets_retain 12 = .ok (.lload_n 2, 1) := by decide +kernel
theorem d_DeviceSets_retain_13 : decode b_DeviceSets_retain 13 = .ok (.lconst 0, 1) := by decide +kernel
theorem d_DeviceSets_retain_14 : decode b_DeviceSets_retain 14 = .ok (.lcmp, 1) := by decide +kernel
theorem d_DeviceSets_retain_15 : decode b_DeviceSets_retain 15 = .ok (.ifCond .lt 11, 3) := by decide +kernel
theorem d_DeviceSets_retain_18 : decode b_DeviceSets_retain 18 = .ok (.lload_n 2, 1) := by decide +kernel
theorem d_DeviceSets_retain_19 : decode b_DeviceSets_retain 19 = .ok (.ldc2_w 181, 3) := by decide +kernel
theorem d_DeviceSets_retain_22 : decode b_DeviceSets_retain 22 = .ok (.lcmp, 1) := by decide +kernel
theorem d_DeviceSets_retain_23 : decode b_DeviceSets_retain 23 = .ok (.ifCond .le 5, 3) := by decide +kernel
theorem d_DeviceSets_retain_26 : decode b_DeviceSets_retain 26 = .ok (.iconst (-1), 1) := by decide +kernel
theorem d_DeviceSets_retain_27 : decode b_DeviceSets_retain 27 = .ok (.ireturn, 1) := by decide +kernel
theorem d_DeviceSets_retain_28 : decode b_DeviceSets_retain 28 = .ok (.aload_n 0, 1) := by decide +kernel
theorem d_DeviceSets_retain_29 : decode b_DeviceSets_retain 29 = .ok (.aload 4, 2) := by decide +kernel
theorem d_DeviceSets_retain_31 : decode b_DeviceSets_retain 31 = .ok (.getfield 88, 3) := by decide +kernel
theorem d_DeviceSets_retain_34 : decode b_DeviceSets_retain 34 = .ok (.invokevirtual 158, 3) := by decide +kernel
theorem d_DeviceSets_retain_37 : decode b_DeviceSets_retain 37 = .ok (.lstore 5, 2) := by decide +kernel
theorem d_DeviceSets_retain_39 : decode b_DeviceSets_retain 39 = .ok (.aload 4, 2) := by decide +kernel
theorem d_DeviceSets_retain_41 : decode b_DeviceSets_retain 41 = .ok (.getfield 88, 3) := by decide +kernel
theorem d_DeviceSets_retain_44 : decode b_DeviceSets_retain 44 = .ok (.aload 4, 2) := by decide +kernel
theorem d_DeviceSets_retain_46 : decode b_DeviceSets_retain 46 = .ok (.getfield 88, 3) := by decide +kernel
theorem d_DeviceSets_retain_49 : decode b_DeviceSets_retain 49 = .ok (.getfield 183, 3) := by decide +kernel
theorem d_DeviceSets_retain_52 : decode b_DeviceSets_retain 52 = .ok (.lload_n 2, 1) := by decide +kernel
theorem d_DeviceSets_retain_53 : decode b_DeviceSets_retain 53 = .ok (.invokestatic 186, 3) := by decide +kernel
theorem d_DeviceSets_retain_56 : decode b_DeviceSets_retain 56 = .ok (.putfield 183, 3) := by decide +kernel
theorem d_DeviceSets_retain_59 : decode b_DeviceSets_retain 59 = .ok (.lload 5, 2) := by decide +kernel
theorem d_DeviceSets_retain_61 : decode b_DeviceSets_retain 61 = .ok (.aload_n 0, 1) := by decide +kernel
theorem d_DeviceSets_retain_62 : decode b_DeviceSets_retain 62 = .ok (.aload 4, 2) := by decide +kernel
theorem d_DeviceSets_retain_64 : decode b_DeviceSets_retain 64 = .ok (.getfield 88, 3) := by decide +kernel
theorem d_DeviceSets_retain_67 : decode b_DeviceSets_retain 67 = .ok (.invokevirtual 158, 3) := by decide +kernel
theorem d_DeviceSets_retain_70 : decode b_DeviceSets_retain 70 = .ok (.ldc2_w 192, 3) := by decide +kernel
theorem d_DeviceSets_retain_73 : decode b_DeviceSets_retain 73 = .ok (.lxor, 1) := by decide +kernel
theorem d_DeviceSets_retain_74 : decode b_DeviceSets_retain 74 = .ok (.land, 1) := by decide +kernel
theorem d_DeviceSets_retain_75 : decode b_DeviceSets_retain 75 = .ok (.invokestatic 96, 3) := by decide +kernel
theorem d_DeviceSets_retain_78 : decode b_DeviceSets_retain 78 = .ok (.ireturn, 1) := by decide +kernel
theorem d_DeviceSets_kept_0 : decode b_DeviceSets_kept 0 = .ok (.aload_n 0, 1) := by decide +kernel
theorem d_DeviceSets_kept_1 : decode b_DeviceSets_kept 1 = .ok (.iload_n 1, 1) := by decide +kernel
theorem d_DeviceSets_kept_2 : decode b_DeviceSets_kept 2 = .ok (.invokevirtual 80, 3) := by decide +kernel
theorem d_DeviceSets_kept_5 : decode b_DeviceSets_kept 5 = .ok (.astore_n 3, 1) := by decide +kernel
theorem d_DeviceSets_kept_6 : decode b_DeviceSets_kept 6 = .ok (.aload_n 3, 1) := by decide +kernel
theorem d_DeviceSets_kept_7 : decode b_DeviceSets_kept 7 = .ok (.ifnonnull 7, 3) := by decide +kernel
theorem d_DeviceSets_kept_10 : decode b_DeviceSets_kept 10 = .ok (.lconst 0, 1) := by decide +kernel
theorem d_DeviceSets_kept_11 : decode b_DeviceSets_kept 11 = .ok (.goto 31, 3) := by decide +kernel
theorem d_DeviceSets_kept_14 : decode b_DeviceSets_kept 14 = .ok (.aload_n 0, 1) := by decide +kernel
theorem d_DeviceSets_kept_15 : decode b_DeviceSets_kept 15 = .ok (.getfield 24, 3) := by decide +kernel
theorem d_DeviceSets_kept_18 : decode b_DeviceSets_kept 18 = .ok (.aload_n 3, 1) := by decide +kernel
theorem d_DeviceSets_kept_19 : decode b_DeviceSets_kept 19 = .ok (.getfield 88, 3) := by decide +kernel
theorem d_DeviceSets_kept_22 : decode b_DeviceSets_kept 22 = .ok (.getfield 138, 3) := by decide +kernel
theorem d_DeviceSets_kept_25 : decode b_DeviceSets_kept 25 = .ok (.aload_n 0, 1) := by decide +kernel
theorem d_DeviceSets_kept_26 : decode b_DeviceSets_kept 26 = .ok (.aload_n 3, 1) := by decide +kernel
theorem d_DeviceSets_kept_27 : decode b_DeviceSets_kept 27 = .ok (.getfield 88, 3) := by decide +kernel
theorem d_DeviceSets_kept_30 : decode b_DeviceSets_kept 30 = .ok (.invokevirtual 158, 3) := by decide +kernel
theorem d_DeviceSets_kept_33 : decode b_DeviceSets_kept 33 = .ok (.ldc2_w 192, 3) := by decide +kernel
theorem d_DeviceSets_kept_36 : decode b_DeviceSets_kept 36 = .ok (.lxor, 1) := by decide +kernel
theorem d_DeviceSets_kept_37 : decode b_DeviceSets_kept 37 = .ok (.land, 1) := by decide +kernel
theorem d_DeviceSets_kept_38 : decode b_DeviceSets_kept 38 = .ok (.iload_n 2, 1) := by decide +kernel
theorem d_DeviceSets_kept_39 : decode b_DeviceSets_kept 39 = .ok (.invokevirtual 194, 3) := by decide +kernel
theorem d_DeviceSets_kept_42 : decode b_DeviceSets_kept 42 = .ok (.lreturn, 1) := by decide +kernel
theorem d_DeviceSets_mark_0 : decode b_DeviceSets_mark 0 = .ok (.aload_n 0, 1) := by decide +kernel
theorem d_DeviceSets_mark_1 : decode b_DeviceSets_mark 1 = .ok (.iload_n 1, 1) := by decide +kernel
theorem d_DeviceSets_mark_2 : decode b_DeviceSets_mark 2 = .ok (.invokevirtual 40, 3) := by decide +kernel
theorem d_DeviceSets_mark_5 : decode b_DeviceSets_mark 5 = .ok (.astore 6, 2) := by decide +kernel
theorem d_DeviceSets_mark_7 : decode b_DeviceSets_mark 7 = .ok (.aload 6, 2) := by decide +kernel
theorem d_DeviceSets_mark_9 : decode b_DeviceSets_mark 9 = .ok (.ifnull 36, 3) := by decide +kernel
theorem d_DeviceSets_mark_12 : decode b_DeviceSets_mark 12 = .ok (.lload_n 2, 1) := by decide +kernel
theorem d_DeviceSets_mark_13 : decode b_DeviceSets_mark 13 = .ok (.invokestatic 44, 3) := by decide +kernel
theorem d_DeviceSets_mark_16 : decode b_DeviceSets_mark 16 = .ok (.ifCond .eq 29, 3) := by decide +kernel
theorem d_DeviceSets_mark_19 : decode b_DeviceSets_mark 19 = .ok (.lload 4, 2) := by decide +kernel
theorem d_DeviceSets_mark_21 : decode b_DeviceSets_mark 21 = .ok (.invokestatic 44, 3) := by decide +kernel
theorem d_DeviceSets_mark_24 : decode b_DeviceSets_mark 24 = .ok (.ifCond .eq 21, 3) := by decide +kernel
theorem d_DeviceSets_mark_27 : decode b_DeviceSets_mark 27 = .ok (.aload 6, 2) := by decide +kernel
theorem d_DeviceSets_mark_29 : decode b_DeviceSets_mark 29 = .ok (.getfield 198, 3) := by decide +kernel
theorem d_DeviceSets_mark_32 : decode b_DeviceSets_mark 32 = .ok (.lload_n 2, 1) := by decide +kernel
theorem d_DeviceSets_mark_33 : decode b_DeviceSets_mark 33 = .ok (.lload 4, 2) := by decide +kernel
theorem d_DeviceSets_mark_35 : decode b_DeviceSets_mark 35 = .ok (.invokevirtual 202, 3) := by decide +kernel
theorem d_DeviceSets_mark_38 : decode b_DeviceSets_mark 38 = .ok (.ifCond .eq 7, 3) := by decide +kernel
theorem d_DeviceSets_mark_41 : decode b_DeviceSets_mark 41 = .ok (.iconst 1, 1) := by decide +kernel
theorem d_DeviceSets_mark_42 : decode b_DeviceSets_mark 42 = .ok (.goto 4, 3) := by decide +kernel
theorem d_DeviceSets_mark_45 : decode b_DeviceSets_mark 45 = .ok (.iconst 0, 1) := by decide +kernel
theorem d_DeviceSets_mark_46 : decode b_DeviceSets_mark 46 = .ok (.ireturn, 1) := by decide +kernel
theorem d_DeviceSets_corrected_0 : decode b_DeviceSets_corrected 0 = .ok (.aload_n 0, 1) := by decide +kernel
theorem d_DeviceSets_corrected_1 : decode b_DeviceSets_corrected 1 = .ok (.iload_n 1, 1) := by decide +kernel
theorem d_DeviceSets_corrected_2 : decode b_DeviceSets_corrected 2 = .ok (.invokevirtual 40, 3) := by decide +kernel
theorem d_DeviceSets_corrected_5 : decode b_DeviceSets_corrected 5 = .ok (.astore 5, 2) := by decide +kernel
theorem d_DeviceSets_corrected_7 : decode b_DeviceSets_corrected 7 = .ok (.aload 5, 2) := by decide +kernel
theorem d_DeviceSets_corrected_9 : decode b_DeviceSets_corrected 9 = .ok (.ifnull 21, 3) := by decide +kernel
theorem d_DeviceSets_corrected_12 : decode b_DeviceSets_corrected 12 = .ok (.lload_n 2, 1) := by decide +kernel
theorem d_DeviceSets_corrected_13 : decode b_DeviceSets_corrected 13 = .ok (.invokestatic 44, 3) := by decide +kernel
theorem d_DeviceSets_corrected_16 : decode b_DeviceSets_corrected 16 = .ok (.ifCond .eq 14, 3) := by decide +kernel
theorem d_DeviceSets_corrected_19 : decode b_DeviceSets_corrected 19 = .ok (.iload 4, 2) := by decide +kernel
theorem d_DeviceSets_corrected_21 : decode b_DeviceSets_corrected 21 = .ok (.ifCond .lt 9, 3) := by decide +kernel
theorem d_DeviceSets_corrected_24 : decode b_DeviceSets_corrected 24 = .ok (.iload 4, 2) := by decide +kernel
theorem d_DeviceSets_corrected_26 : decode b_DeviceSets_corrected 26 = .ok (.iconst 1, 1) := by decide +kernel
theorem d_DeviceSets_corrected_27 : decode b_DeviceSets_corrected 27 = .ok (.if_icmp .le 7, 3) := by decide +kernel
theorem d_DeviceSets_corrected_30 : decode b_DeviceSets_corrected 30 = .ok (.ldc2_w 113, 3) := by decide +kernel
theorem d_DeviceSets_corrected_33 : decode b_DeviceSets_corrected 33 = .ok (.lreturn, 1) := by decide +kernel
theorem d_DeviceSets_corrected_34 : decode b_DeviceSets_corrected 34 = .ok (.aload 5, 2) := by decide +kernel
theorem d_DeviceSets_corrected_36 : decode b_DeviceSets_corrected 36 = .ok (.getfield 198, 3) := by decide +kernel
theorem d_DeviceSets_corrected_39 : decode b_DeviceSets_corrected 39 = .ok (.lload_n 2, 1) := by decide +kernel
theorem d_DeviceSets_corrected_40 : decode b_DeviceSets_corrected 40 = .ok (.invokevirtual 208, 3) := by decide +kernel
theorem d_DeviceSets_corrected_43 : decode b_DeviceSets_corrected 43 = .ok (.lstore 6, 2) := by decide +kernel
theorem d_DeviceSets_corrected_45 : decode b_DeviceSets_corrected 45 = .ok (.aload 5, 2) := by decide +kernel
theorem d_DeviceSets_corrected_47 : decode b_DeviceSets_corrected 47 = .ok (.getfield 198, 3) := by decide +kernel
theorem d_DeviceSets_corrected_50 : decode b_DeviceSets_corrected 50 = .ok (.lload_n 2, 1) := by decide +kernel
theorem d_DeviceSets_corrected_51 : decode b_DeviceSets_corrected 51 = .ok (.invokevirtual 212, 3) := by decide +kernel
theorem d_DeviceSets_corrected_54 : decode b_DeviceSets_corrected 54 = .ok (.lstore 8, 2) := by decide +kernel
theorem d_DeviceSets_corrected_56 : decode b_DeviceSets_corrected 56 = .ok (.lload 6, 2) := by decide +kernel
theorem d_DeviceSets_corrected_58 : decode b_DeviceSets_corrected 58 = .ok (.invokestatic 215, 3) := by decide +kernel
theorem d_DeviceSets_corrected_61 : decode b_DeviceSets_corrected 61 = .ok (.lload 8, 2) := by decide +kernel
theorem d_DeviceSets_corrected_63 : decode b_DeviceSets_corrected 63 = .ok (.invokestatic 218, 3) := by decide +kernel
theorem d_DeviceSets_corrected_66 : decode b_DeviceSets_corrected 66 = .ok (.lstore 10, 2) := by decide +kernel
theorem d_DeviceSets_corrected_68 : decode b_DeviceSets_corrected 68 = .ok (.lload 10, 2) := by decide +kernel
theorem d_DeviceSets_corrected_70 : decode b_DeviceSets_corrected 70 = .ok (.lconst 0, 1) := by decide +kernel
theorem d_DeviceSets_corrected_71 : decode b_DeviceSets_corrected 71 = .ok (.lcmp, 1) := by decide +kernel
theorem d_DeviceSets_corrected_72 : decode b_DeviceSets_corrected 72 = .ok (.ifCond .ne 7, 3) := by decide +kernel
theorem d_DeviceSets_corrected_75 : decode b_DeviceSets_corrected 75 = .ok (.ldc2_w 113, 3) := by decide +kernel
theorem d_DeviceSets_corrected_78 : decode b_DeviceSets_corrected 78 = .ok (.lreturn, 1) := by decide +kernel
theorem d_DeviceSets_corrected_79 : decode b_DeviceSets_corrected 79 = .ok (.iload 4, 2) := by decide +kernel
theorem d_DeviceSets_corrected_81 : decode b_DeviceSets_corrected 81 = .ok (.ifCond .ne 8, 3) := by decide +kernel
theorem d_DeviceSets_corrected_84 : decode b_DeviceSets_corrected 84 = .ok (.lload 6, 2) := by decide +kernel
theorem d_DeviceSets_corrected_86 : decode b_DeviceSets_corrected 86 = .ok (.goto 5, 3) := by decide +kernel
theorem d_DeviceSets_corrected_89 : decode b_DeviceSets_corrected 89 = .ok (.lload 8, 2) := by decide +kernel
theorem d_DeviceSets_corrected_91 : decode b_DeviceSets_corrected 91 = .ok (.lload 10, 2) := by decide +kernel
theorem d_DeviceSets_corrected_93 : decode b_DeviceSets_corrected 93 = .ok (.ldiv, 1) := by decide +kernel
theorem d_DeviceSets_corrected_94 : decode b_DeviceSets_corrected 94 = .ok (.lreturn, 1) := by decide +kernel
theorem d_DeviceSets_play_0 : decode b_DeviceSets_play 0 = .ok (.aload_n 0, 1) := by decide +kernel
theorem d_DeviceSets_play_1 : decode b_DeviceSets_play 1 = .ok (.getfield 70, 3) := by decide +kernel
theorem d_DeviceSets_play_4 : decode b_DeviceSets_play 4 = .ok (.ifCond .eq 14, 3) := by decide +kernel
theorem d_DeviceSets_play_7 : decode b_DeviceSets_play 7 = .ok (.iload_n 3, 1) := by decide +kernel
theorem d_DeviceSets_play_8 : decode b_DeviceSets_play 8 = .ok (.ifCond .lt 10, 3) := by decide +kernel
theorem d_DeviceSets_play_11 : decode b_DeviceSets_play 11 = .ok (.iload_n 3, 1) := by decide +kernel
theorem d_DeviceSets_play_12 : decode b_DeviceSets_play 12 = .ok (.sipush 1000, 3) := by decide +kernel
theorem d_DeviceSets_play_15 : decode b_DeviceSets_play 15 = .ok (.if_icmp .le 5, 3) := by decide +kernel
theorem d_DeviceSets_play_18 : decode b_DeviceSets_play 18 = .ok (.iconst (-1), 1) := by decide +kernel
theorem d_DeviceSets_play_19 : decode b_DeviceSets_play 19 = .ok (.ireturn, 1) := by decide +kernel
theorem d_DeviceSets_play_20 : decode b_DeviceSets_play 20 = .ok (.lload_n 1, 1) := by decide +kernel
theorem d_DeviceSets_play_21 : decode b_DeviceSets_play 21 = .ok (.lstore 4, 2) := by decide +kernel
theorem d_DeviceSets_play_23 : decode b_DeviceSets_play 23 = .ok (.iconst 0, 1) := by decide +kernel
theorem d_DeviceSets_play_24 : decode b_DeviceSets_play 24 = .ok (.istore 6, 2) := by decide +kernel
theorem d_DeviceSets_play_26 : decode b_DeviceSets_play 26 = .ok (.iconst 0, 1) := by decide +kernel
theorem d_DeviceSets_play_27 : decode b_DeviceSets_play 27 = .ok (.istore 7, 2) := by decide +kernel
theorem d_DeviceSets_play_29 : decode b_DeviceSets_play 29 = .ok (.iload 7, 2) := by decide +kernel
theorem d_DeviceSets_play_31 : decode b_DeviceSets_play 31 = .ok (.iload_n 3, 1) := by decide +kernel
theorem d_DeviceSets_play_32 : decode b_DeviceSets_play 32 = .ok (.if_icmp .ge 72, 3) := by decide +kernel
theorem d_DeviceSets_play_35 : decode b_DeviceSets_play 35 = .ok (.lload 4, 2) := by decide +kernel
theorem d_DeviceSets_play_37 : decode b_DeviceSets_play 37 = .ok (.invokestatic 221, 3) := by decide +kernel
theorem d_DeviceSets_play_40 : decode b_DeviceSets_play 40 = .ok (.lstore 4, 2) := by decide +kernel
theorem d_DeviceSets_play_42 : decode b_DeviceSets_play 42 = .ok (.lload 4, 2) := by decide +kernel
theorem d_DeviceSets_play_44 : decode b_DeviceSets_play 44 = .ok (.bipush 33, 2) := by decide +kernel
theorem d_DeviceSets_play_46 : decode b_DeviceSets_play 46 = .ok (.lushr, 1) := by decide +kernel
theorem d_DeviceSets_play_47 : decode b_DeviceSets_play 47 = .ok (.aload_n 0, 1) := by decide +kernel
theorem d_DeviceSets_play_48 : decode b_DeviceSets_play 48 = .ok (.getfield 70, 3) := by decide +kernel
theorem d_DeviceSets_play_51 : decode b_DeviceSets_play 51 = .ok (.i2l, 1) := by decide +kernel
theorem d_DeviceSets_play_52 : decode b_DeviceSets_play 52 = .ok (.lrem, 1) := by decide +kernel
theorem d_DeviceSets_play_53 : decode b_DeviceSets_play 53 = .ok (.l2i, 1) := by decide +kernel
theorem d_DeviceSets_play_54 : decode b_DeviceSets_play 54 = .ok (.istore 8, 2) := by decide +kernel
theorem d_DeviceSets_play_56 : decode b_DeviceSets_play 56 = .ok (.lload 4, 2) := by decide +kernel
theorem d_DeviceSets_play_58 : decode b_DeviceSets_play 58 = .ok (.invokestatic 221, 3) := by decide +kernel
theorem d_DeviceSets_play_61 : decode b_DeviceSets_play 61 = .ok (.lstore 4, 2) := by decide +kernel
theorem d_DeviceSets_play_63 : decode b_DeviceSets_play 63 = .ok (.lload 4, 2) := by decide +kernel
theorem d_DeviceSets_play_65 : decode b_DeviceSets_play 65 = .ok (.bipush 33, 2) := by decide +kernel
theorem d_DeviceSets_play_67 : decode b_DeviceSets_play 67 = .ok (.lushr, 1) := by decide +kernel
theorem d_DeviceSets_play_68 : decode b_DeviceSets_play 68 = .ok (.aload_n 0, 1) := by decide +kernel
theorem d_DeviceSets_play_69 : decode b_DeviceSets_play 69 = .ok (.getfield 70, 3) := by decide +kernel
theorem d_DeviceSets_play_72 : decode b_DeviceSets_play 72 = .ok (.i2l, 1) := by decide +kernel
theorem d_DeviceSets_play_73 : decode b_DeviceSets_play 73 = .ok (.lrem, 1) := by decide +kernel
theorem d_DeviceSets_play_74 : decode b_DeviceSets_play 74 = .ok (.l2i, 1) := by decide +kernel
theorem d_DeviceSets_play_75 : decode b_DeviceSets_play 75 = .ok (.istore 9, 2) := by decide +kernel
theorem d_DeviceSets_play_77 : decode b_DeviceSets_play 77 = .ok (.iload 8, 2) := by decide +kernel
theorem d_DeviceSets_play_79 : decode b_DeviceSets_play 79 = .ok (.iload 9, 2) := by decide +kernel
theorem d_DeviceSets_play_81 : decode b_DeviceSets_play 81 = .ok (.if_icmp .eq 17, 3) := by decide +kernel
theorem d_DeviceSets_play_84 : decode b_DeviceSets_play 84 = .ok (.aload_n 0, 1) := by decide +kernel
theorem d_DeviceSets_play_85 : decode b_DeviceSets_play 85 = .ok (.iload 8, 2) := by decide +kernel
theorem d_DeviceSets_play_87 : decode b_DeviceSets_play 87 = .ok (.iload 9, 2) := by decide +kernel
theorem d_DeviceSets_play_89 : decode b_DeviceSets_play 89 = .ok (.invokevirtual 224, 3) := by decide +kernel
theorem d_DeviceSets_play_92 : decode b_DeviceSets_play 92 = .ok (.ifCond .eq 6, 3) := by decide +kernel
theorem d_DeviceSets_play_95 : decode b_DeviceSets_play 95 = .ok (.iinc 6 1, 3) := by decide +kernel
theorem d_DeviceSets_play_98 : decode b_DeviceSets_play 98 = .ok (.iinc 7 1, 3) := by decide +kernel
theorem d_DeviceSets_play_101 : decode b_DeviceSets_play 101 = .ok (.goto (-72), 3) := by decide +kernel
theorem d_DeviceSets_play_104 : decode b_DeviceSets_play 104 = .ok (.iload 6, 2) := by decide +kernel
theorem d_DeviceSets_play_106 : decode b_DeviceSets_play 106 = .ok (.ireturn, 1) := by decide +kernel
theorem d_DeviceSets_deviceAt_0 : decode b_DeviceSets_deviceAt 0 = .ok (.iload_n 1, 1) := by decide +kernel
theorem d_DeviceSets_deviceAt_1 : decode b_DeviceSets_deviceAt 1 = .ok (.ifCond .lt 20, 3) := by decide +kernel
theorem d_DeviceSets_deviceAt_4 : decode b_DeviceSets_deviceAt 4 = .ok (.iload_n 1, 1) := by decide +kernel
theorem d_DeviceSets_deviceAt_5 : decode b_DeviceSets_deviceAt 5 = .ok (.aload_n 0, 1) := by decide +kernel
theorem d_DeviceSets_deviceAt_6 : decode b_DeviceSets_deviceAt 6 = .ok (.getfield 35, 3) := by decide +kernel
theorem d_DeviceSets_deviceAt_9 : decode b_DeviceSets_deviceAt 9 = .ok (.if_icmp .ge 12, 3) := by decide +kernel
theorem d_DeviceSets_deviceAt_12 : decode b_DeviceSets_deviceAt 12 = .ok (.aload_n 0, 1) := by decide +kernel
theorem d_DeviceSets_deviceAt_13 : decode b_DeviceSets_deviceAt 13 = .ok (.getfield 11, 3) := by decide +kernel
theorem d_DeviceSets_deviceAt_16 : decode b_DeviceSets_deviceAt 16 = .ok (.iload_n 1, 1) := by decide +kernel
theorem d_DeviceSets_deviceAt_17 : decode b_DeviceSets_deviceAt 17 = .ok (.aaload, 1) := by decide +kernel
theorem d_DeviceSets_deviceAt_18 : decode b_DeviceSets_deviceAt 18 = .ok (.goto 4, 3) := by decide +kernel
theorem d_DeviceSets_deviceAt_21 : decode b_DeviceSets_deviceAt 21 = .ok (.aconst_null, 1) := by decide +kernel
theorem d_DeviceSets_deviceAt_22 : decode b_DeviceSets_deviceAt 22 = .ok (.areturn, 1) := by decide +kernel
theorem d_DeviceSets_setAt_0 : decode b_DeviceSets_setAt 0 = .ok (.iload_n 1, 1) := by decide +kernel
theorem d_DeviceSets_setAt_1 : decode b_DeviceSets_setAt 1 = .ok (.ifCond .lt 20, 3) := by decide +kernel
theorem d_DeviceSets_setAt_4 : decode b_DeviceSets_setAt 4 = .ok (.iload_n 1, 1) := by decide +kernel
theorem d_DeviceSets_setAt_5 : decode b_DeviceSets_setAt 5 = .ok (.aload_n 0, 1) := by decide +kernel
theorem d_DeviceSets_setAt_6 : decode b_DeviceSets_setAt 6 = .ok (.getfield 70, 3) := by decide +kernel
theorem d_DeviceSets_setAt_9 : decode b_DeviceSets_setAt 9 = .ok (.if_icmp .ge 12, 3) := by decide +kernel
theorem d_DeviceSets_setAt_12 : decode b_DeviceSets_setAt 12 = .ok (.aload_n 0, 1) := by decide +kernel
theorem d_DeviceSets_setAt_13 : decode b_DeviceSets_setAt 13 = .ok (.getfield 17, 3) := by decide +kernel
theorem d_DeviceSets_setAt_16 : decode b_DeviceSets_setAt 16 = .ok (.iload_n 1, 1) := by decide +kernel
theorem d_DeviceSets_setAt_17 : decode b_DeviceSets_setAt 17 = .ok (.aaload, 1) := by decide +kernel
theorem d_DeviceSets_setAt_18 : decode b_DeviceSets_setAt 18 = .ok (.goto 4, 3) := by decide +kernel
theorem d_DeviceSets_setAt_21 : decode b_DeviceSets_setAt 21 = .ok (.aconst_null, 1) := by decide +kernel
theorem d_DeviceSets_setAt_22 : decode b_DeviceSets_setAt 22 = .ok (.areturn, 1) := by decide +kernel
theorem d_DeviceSets_joinChanges_0 : decode b_DeviceSets_joinChanges 0 = .ok (.aload_n 0, 1) := by decide +kernel
theorem d_DeviceSets_joinChanges_1 : decode b_DeviceSets_joinChanges 1 = .ok (.iload_n 1, 1) := by decide +kernel
theorem d_DeviceSets_joinChanges_2 : decode b_DeviceSets_joinChanges 2 = .ok (.invokevirtual 80, 3) := by decide +kernel
theorem d_DeviceSets_joinChanges_5 : decode b_DeviceSets_joinChanges 5 = .ok (.astore_n 3, 1) := by decide +kernel
theorem d_DeviceSets_joinChanges_6 : decode b_DeviceSets_joinChanges 6 = .ok (.aload_n 0, 1) := by decide +kernel
theorem d_DeviceSets_joinChanges_7 : decode b_DeviceSets_joinChanges 7 = .ok (.iload_n 2, 1) := by decide +kernel
theorem d_DeviceSets_joinChanges_8 : decode b_DeviceSets_joinChanges 8 = .ok (.invokevirtual 80, 3) := by decide +kernel
theorem d_DeviceSets_joinChanges_11 : decode b_DeviceSets_joinChanges 11 = .ok (.astore 4, 2) := by decide +kernel
theorem d_DeviceSets_joinChanges_13 : decode b_DeviceSets_joinChanges 13 = .ok (.aload_n 3, 1) := by decide +kernel
theorem d_DeviceSets_joinChanges_14 : decode b_DeviceSets_joinChanges 14 = .ok (.ifnull 21, 3) := by decide +kernel
theorem d_DeviceSets_joinChanges_17 : decode b_DeviceSets_joinChanges 17 = .ok (.aload 4, 2) := by decide +kernel
theorem d_DeviceSets_joinChanges_19 : decode b_DeviceSets_joinChanges 19 = .ok (.ifnull 16, 3) := by decide +kernel
theorem d_DeviceSets_joinChanges_22 : decode b_DeviceSets_joinChanges 22 = .ok (.aload_n 3, 1) := by decide +kernel
theorem d_DeviceSets_joinChanges_23 : decode b_DeviceSets_joinChanges 23 = .ok (.aload 4, 2) := by decide +kernel
theorem d_DeviceSets_joinChanges_25 : decode b_DeviceSets_joinChanges 25 = .ok (.invokevirtual 84, 3) := by decide +kernel
theorem d_DeviceSets_joinChanges_28 : decode b_DeviceSets_joinChanges 28 = .ok (.ifCond .eq 7, 3) := by decide +kernel
theorem d_DeviceSets_joinChanges_31 : decode b_DeviceSets_joinChanges 31 = .ok (.iconst 1, 1) := by decide +kernel
theorem d_DeviceSets_joinChanges_32 : decode b_DeviceSets_joinChanges 32 = .ok (.goto 4, 3) := by decide +kernel
theorem d_DeviceSets_joinChanges_35 : decode b_DeviceSets_joinChanges 35 = .ok (.iconst 0, 1) := by decide +kernel
theorem d_DeviceSets_joinChanges_36 : decode b_DeviceSets_joinChanges 36 = .ok (.ireturn, 1) := by decide +kernel
theorem d_DeviceSets_liveIn_0 : decode b_DeviceSets_liveIn 0 = .ok (.aload_n 0, 1) := by decide +kernel
theorem d_DeviceSets_liveIn_1 : decode b_DeviceSets_liveIn 1 = .ok (.getfield 24, 3) := by decide +kernel
theorem d_DeviceSets_liveIn_4 : decode b_DeviceSets_liveIn 4 = .ok (.aload_n 1, 1) := by decide +kernel
theorem d_DeviceSets_liveIn_5 : decode b_DeviceSets_liveIn 5 = .ok (.getfield 183, 3) := by decide +kernel
theorem d_DeviceSets_liveIn_8 : decode b_DeviceSets_liveIn 8 = .ok (.aload_n 1, 1) := by decide +kernel
theorem d_DeviceSets_liveIn_9 : decode b_DeviceSets_liveIn 9 = .ok (.getfield 138, 3) := by decide +kernel
theorem d_DeviceSets_liveIn_12 : decode b_DeviceSets_liveIn 12 = .ok (.invokevirtual 228, 3) := by decide +kernel
theorem d_DeviceSets_liveIn_15 : decode b_DeviceSets_liveIn 15 = .ok (.lreturn, 1) := by decide +kernel
theorem d_DeviceSets_conflictsIn_0 : decode b_DeviceSets_conflictsIn 0 = .ok (.aload_n 0, 1) := by decide +kernel
theorem d_DeviceSets_conflictsIn_1 : decode b_DeviceSets_conflictsIn 1 = .ok (.getfield 24, 3) := by decide +kernel
theorem d_DeviceSets_conflictsIn_4 : decode b_DeviceSets_conflictsIn 4 = .ok (.aload_n 0, 1) := by decide +kernel
theorem d_DeviceSets_conflictsIn_5 : decode b_DeviceSets_conflictsIn 5 = .ok (.aload_n 1, 1) := by decide +kernel
theorem d_DeviceSets_conflictsIn_6 : decode b_DeviceSets_conflictsIn 6 = .ok (.invokevirtual 158, 3) := by decide +kernel
theorem d_DeviceSets_conflictsIn_9 : decode b_DeviceSets_conflictsIn 9 = .ok (.aload_n 1, 1) := by decide +kernel
theorem d_DeviceSets_conflictsIn_10 : decode b_DeviceSets_conflictsIn 10 = .ok (.getfield 165, 3) := by decide +kernel
theorem d_DeviceSets_conflictsIn_13 : decode b_DeviceSets_conflictsIn 13 = .ok (.invokevirtual 231, 3) := by decide +kernel
theorem d_DeviceSets_conflictsIn_16 : decode b_DeviceSets_conflictsIn 16 = .ok (.lreturn, 1) := by decide +kernel
theorem d_DeviceSets_seenIn_0 : decode b_DeviceSets_seenIn 0 = .ok (.aload_n 0, 1) := by decide +kernel
theorem d_DeviceSets_seenIn_1 : decode b_DeviceSets_seenIn 1 = .ok (.getfield 24, 3) := by decide +kernel
theorem d_DeviceSets_seenIn_4 : decode b_DeviceSets_seenIn 4 = .ok (.aload_n 0, 1) := by decide +kernel
theorem d_DeviceSets_seenIn_5 : decode b_DeviceSets_seenIn 5 = .ok (.aload_n 1, 1) := by decide +kernel
theorem d_DeviceSets_seenIn_6 : decode b_DeviceSets_seenIn 6 = .ok (.invokevirtual 158, 3) := by decide +kernel
theorem d_DeviceSets_seenIn_9 : decode b_DeviceSets_seenIn 9 = .ok (.aload_n 0, 1) := by decide +kernel
theorem d_DeviceSets_seenIn_10 : decode b_DeviceSets_seenIn 10 = .ok (.getfield 24, 3) := by decide +kernel
theorem d_DeviceSets_seenIn_13 : decode b_DeviceSets_seenIn 13 = .ok (.iload_n 2, 1) := by decide +kernel
theorem d_DeviceSets_seenIn_14 : decode b_DeviceSets_seenIn 14 = .ok (.iload_n 3, 1) := by decide +kernel
theorem d_DeviceSets_seenIn_15 : decode b_DeviceSets_seenIn 15 = .ok (.invokevirtual 151, 3) := by decide +kernel
theorem d_DeviceSets_seenIn_18 : decode b_DeviceSets_seenIn 18 = .ok (.land, 1) := by decide +kernel
theorem d_DeviceSets_seenIn_19 : decode b_DeviceSets_seenIn 19 = .ok (.aload_n 1, 1) := by decide +kernel
theorem d_DeviceSets_seenIn_20 : decode b_DeviceSets_seenIn 20 = .ok (.getfield 165, 3) := by decide +kernel
theorem d_DeviceSets_seenIn_23 : decode b_DeviceSets_seenIn 23 = .ok (.invokevirtual 234, 3) := by decide +kernel
theorem d_DeviceSets_seenIn_26 : decode b_DeviceSets_seenIn 26 = .ok (.lreturn, 1) := by decide +kernel
theorem d_DeviceSets_isNumber_0 : decode b_DeviceSets_isNumber 0 = .ok (.lload_n 0, 1) := by decide +kernel
theorem d_DeviceSets_isNumber_1 : decode b_DeviceSets_isNumber 1 = .ok (.lconst 0, 1) := by decide +kernel
theorem d_DeviceSets_isNumber_2 : decode b_DeviceSets_isNumber 2 = .ok (.lcmp, 1) := by decide +kernel
theorem d_DeviceSets_isNumber_3 : decode b_DeviceSets_isNumber 3 = .ok (.ifCond .lt 15, 3) := by decide +kernel
theorem d_DeviceSets_isNumber_6 : decode b_DeviceSets_isNumber 6 = .ok (.lload_n 0, 1) := by decide +kernel
theorem d_DeviceSets_isNumber_7 : decode b_DeviceSets_isNumber 7 = .ok (.ldc2_w 237, 3) := by decide +kernel
theorem d_DeviceSets_isNumber_10 : decode b_DeviceSets_isNumber 10 = .ok (.lcmp, 1) := by decide +kernel
theorem d_DeviceSets_isNumber_11 : decode b_DeviceSets_isNumber 11 = .ok (.ifCond .gt 7, 3) := by decide +kernel
theorem d_DeviceSets_isNumber_14 : decode b_DeviceSets_isNumber 14 = .ok (.iconst 1, 1) := by decide +kernel
theorem d_DeviceSets_isNumber_15 : decode b_DeviceSets_isNumber 15 = .ok (.goto 4, 3) := by decide +kernel
theorem d_DeviceSets_isNumber_18 : decode b_DeviceSets_isNumber 18 = .ok (.iconst 0, 1) := by decide +kernel
theorem d_DeviceSets_isNumber_19 : decode b_DeviceSets_isNumber 19 = .ok (.ireturn, 1) := by decide +kernel
theorem d_DeviceSets_isKind_0 : decode b_DeviceSets_isKind 0 = .ok (.iload_n 0, 1) := by decide +kernel
theorem d_DeviceSets_isKind_1 : decode b_DeviceSets_isKind 1 = .ok (.ifCond .lt 12, 3) := by decide +kernel
theorem d_DeviceSets_isKind_4 : decode b_DeviceSets_isKind 4 = .ok (.iload_n 0, 1) := by decide +kernel
theorem d_DeviceSets_isKind_5 : decode b_DeviceSets_isKind 5 = .ok (.iconst 4, 1) := by decide +kernel
theorem d_DeviceSets_isKind_6 : decode b_DeviceSets_isKind 6 = .ok (.if_icmp .ge 7, 3) := by decide +kernel
theorem d_DeviceSets_isKind_9 : decode b_DeviceSets_isKind 9 = .ok (.iconst 1, 1) := by decide +kernel
theorem d_DeviceSets_isKind_10 : decode b_DeviceSets_isKind 10 = .ok (.goto 4, 3) := by decide +kernel
theorem d_DeviceSets_isKind_13 : decode b_DeviceSets_isKind 13 = .ok (.iconst 0, 1) := by decide +kernel
theorem d_DeviceSets_isKind_14 : decode b_DeviceSets_isKind 14 = .ok (.ireturn, 1) := by decide +kernel
theorem d_DeviceSets_isValue_0 : decode b_DeviceSets_isValue 0 = .ok (.lload_n 0, 1) := by decide +kernel
theorem d_DeviceSets_isValue_1 : decode b_DeviceSets_isValue 1 = .ok (.ldc2_w 239, 3) := by decide +kernel
theorem d_DeviceSets_isValue_4 : decode b_DeviceSets_isValue 4 = .ok (.lcmp, 1) := by decide +kernel
theorem d_DeviceSets_isValue_5 : decode b_DeviceSets_isValue 5 = .ok (.ifCond .lt 15, 3) := by decide +kernel
theorem d_DeviceSets_isValue_8 : decode b_DeviceSets_isValue 8 = .ok (.lload_n 0, 1) := by decide +kernel
theorem d_DeviceSets_isValue_9 : decode b_DeviceSets_isValue 9 = .ok (.ldc2_w 241, 3) := by decide +kernel
theorem d_DeviceSets_isValue_12 : decode b_DeviceSets_isValue 12 = .ok (.lcmp, 1) := by decide +kernel
theorem d_DeviceSets_isValue_13 : decode b_DeviceSets_isValue 13 = .ok (.ifCond .gt 7, 3) := by decide +kernel
theorem d_DeviceSets_isValue_16 : decode b_DeviceSets_isValue 16 = .ok (.iconst 1, 1) := by decide +kernel
theorem d_DeviceSets_isValue_17 : decode b_DeviceSets_isValue 17 = .ok (.goto 4, 3) := by decide +kernel
theorem d_DeviceSets_isValue_20 : decode b_DeviceSets_isValue 20 = .ok (.iconst 0, 1) := by decide +kernel
theorem d_DeviceSets_isValue_21 : decode b_DeviceSets_isValue 21 = .ok (.ireturn, 1) := by decide +kernel
theorem d_DeviceSets_bit_0 : decode b_DeviceSets_bit 0 = .ok (.lconst 1, 1) := by decide +kernel
theorem d_DeviceSets_bit_1 : decode b_DeviceSets_bit 1 = .ok (.iload_n 0, 1) := by decide +kernel
theorem d_DeviceSets_bit_2 : decode b_DeviceSets_bit 2 = .ok (.lshl, 1) := by decide +kernel
theorem d_DeviceSets_bit_3 : decode b_DeviceSets_bit 3 = .ok (.lreturn, 1) := by decide +kernel
theorem d_DeviceSets_isIn_0 : decode b_DeviceSets_isIn 0 = .ok (.lload_n 1, 1) := by decide +kernel
theorem d_DeviceSets_isIn_1 : decode b_DeviceSets_isIn 1 = .ok (.iload_n 0, 1) := by decide +kernel
theorem d_DeviceSets_isIn_2 : decode b_DeviceSets_isIn 2 = .ok (.invokestatic 110, 3) := by decide +kernel
theorem d_DeviceSets_isIn_5 : decode b_DeviceSets_isIn 5 = .ok (.land, 1) := by decide +kernel
theorem d_DeviceSets_isIn_6 : decode b_DeviceSets_isIn 6 = .ok (.lconst 0, 1) := by decide +kernel
theorem d_DeviceSets_isIn_7 : decode b_DeviceSets_isIn 7 = .ok (.lcmp, 1) := by decide +kernel
theorem d_DeviceSets_isIn_8 : decode b_DeviceSets_isIn 8 = .ok (.ifCond .eq 7, 3) := by decide +kernel
theorem d_DeviceSets_isIn_11 : decode b_DeviceSets_isIn 11 = .ok (.iconst 1, 1) := by decide +kernel
theorem d_DeviceSets_isIn_12 : decode b_DeviceSets_isIn 12 = .ok (.goto 4, 3) := by decide +kernel
theorem d_DeviceSets_isIn_15 : decode b_DeviceSets_isIn 15 = .ok (.iconst 0, 1) := by decide +kernel
theorem d_DeviceSets_isIn_16 : decode b_DeviceSets_isIn 16 = .ok (.ireturn, 1) := by decide +kernel
theorem d_DeviceSets_nextDraw_0 : decode b_DeviceSets_nextDraw 0 = .ok (.lload_n 0, 1) := by decide +kernel
theorem d_DeviceSets_nextDraw_1 : decode b_DeviceSets_nextDraw 1 = .ok (.ldc2_w 243, 3) := by decide +kernel
theorem d_DeviceSets_nextDraw_4 : decode b_DeviceSets_nextDraw 4 = .ok (.lmul, 1) := by decide +kernel
theorem d_DeviceSets_nextDraw_5 : decode b_DeviceSets_nextDraw 5 = .ok (.ldc2_w 245, 3) := by decide +kernel
theorem d_DeviceSets_nextDraw_8 : decode b_DeviceSets_nextDraw 8 = .ok (.ladd, 1) := by decide +kernel
theorem d_DeviceSets_nextDraw_9 : decode b_DeviceSets_nextDraw 9 = .ok (.lreturn, 1) := by decide +kernel
theorem d_DeviceSets_commonDivisor_0 : decode b_DeviceSets_commonDivisor 0 = .ok (.lload_n 0, 1) := by decide +kernel
theorem d_DeviceSets_commonDivisor_1 : decode b_DeviceSets_commonDivisor 1 = .ok (.lstore 4, 2) := by decide +kernel
theorem d_DeviceSets_commonDivisor_3 : decode b_DeviceSets_commonDivisor 3 = .ok (.lload_n 2, 1) := by decide +kernel
theorem d_DeviceSets_commonDivisor_4 : decode b_DeviceSets_commonDivisor 4 = .ok (.lstore 6, 2) := by decide +kernel
theorem d_DeviceSets_commonDivisor_6 : decode b_DeviceSets_commonDivisor 6 = .ok (.iconst 0, 1) := by decide +kernel
theorem d_DeviceSets_commonDivisor_7 : decode b_DeviceSets_commonDivisor 7 = .ok (.istore 8, 2) := by decide +kernel
theorem d_DeviceSets_commonDivisor_9 : decode b_DeviceSets_commonDivisor 9 = .ok (.iload 8, 2) := by decide +kernel
theorem d_DeviceSets_commonDivisor_11 : decode b_DeviceSets_commonDivisor 11 = .ok (.bipush 100, 2) := by decide +kernel
theorem d_DeviceSets_commonDivisor_13 : decode b_DeviceSets_commonDivisor 13 = .ok (.if_icmp .ge 31, 3) := by decide +kernel
theorem d_DeviceSets_commonDivisor_16 : decode b_DeviceSets_commonDivisor 16 = .ok (.lload 6, 2) := by decide +kernel
theorem d_DeviceSets_commonDivisor_18 : decode b_DeviceSets_commonDivisor 18 = .ok (.lconst 0, 1) := by decide +kernel
theorem d_DeviceSets_commonDivisor_19 : decode b_DeviceSets_commonDivisor 19 = .ok (.lcmp, 1) := by decide +kernel
theorem d_DeviceSets_commonDivisor_20 : decode b_DeviceSets_commonDivisor 20 = .ok (.ifCond .eq 24, 3) := by decide +kernel
theorem d_DeviceSets_commonDivisor_23 : decode b_DeviceSets_commonDivisor 23 = .ok (.lload 4, 2) := by decide +kernel
theorem d_DeviceSets_commonDivisor_25 : decode b_DeviceSets_commonDivisor 25 = .ok (.lload 6, 2) := by decide +kernel
theorem d_DeviceSets_commonDivisor_27 : decode b_DeviceSets_commonDivisor 27 = .ok (.lrem, 1) := by decide +kernel
theorem d_DeviceSets_commonDivisor_28 : decode b_DeviceSets_commonDivisor 28 = .ok (.lstore 9, 2) := by decide +kernel
theorem d_DeviceSets_commonDivisor_30 : decode b_DeviceSets_commonDivisor 30 = .ok (.lload 6, 2) := by decide +kernel
theorem d_DeviceSets_commonDivisor_32 : decode b_DeviceSets_commonDivisor 32 = .ok (.lstore 4, 2) := by decide +kernel
theorem d_DeviceSets_commonDivisor_34 : decode b_DeviceSets_commonDivisor 34 = .ok (.lload 9, 2) := by decide +kernel
theorem d_DeviceSets_commonDivisor_36 : decode b_DeviceSets_commonDivisor 36 = .ok (.lstore 6, 2) := by decide +kernel
theorem d_DeviceSets_commonDivisor_38 : decode b_DeviceSets_commonDivisor 38 = .ok (.iinc 8 1, 3) := by decide +kernel
theorem d_DeviceSets_commonDivisor_41 : decode b_DeviceSets_commonDivisor 41 = .ok (.goto (-32), 3) := by decide +kernel
theorem d_DeviceSets_commonDivisor_44 : decode b_DeviceSets_commonDivisor 44 = .ok (.lload 4, 2) := by decide +kernel
theorem d_DeviceSets_commonDivisor_46 : decode b_DeviceSets_commonDivisor 46 = .ok (.lreturn, 1) := by decide +kernel
theorem d_Device_init_0 : decode b_Device_init 0 = .ok (.aload_n 0, 1) := by decide +kernel
theorem d_Device_init_1 : decode b_Device_init 1 = .ok (.invokespecial 1, 3) := by decide +kernel
theorem d_Device_init_4 : decode b_Device_init 4 = .ok (.aload_n 0, 1) := by decide +kernel
theorem d_Device_init_5 : decode b_Device_init 5 = .ok (.new 7, 3) := by decide +kernel
theorem d_Device_init_8 : decode b_Device_init 8 = .ok (.dup, 1) := by decide +kernel
theorem d_Device_init_9 : decode b_Device_init 9 = .ok (.invokespecial 9, 3) := by decide +kernel
theorem d_Device_init_12 : decode b_Device_init 12 = .ok (.putfield 10, 3) := by decide +kernel
theorem d_Device_init_15 : decode b_Device_init 15 = .ok (.return_, 1) := by decide +kernel
theorem d_Clock_init_0 : decode b_Clock_init 0 = .ok (.aload_n 0, 1) := by decide +kernel
theorem d_Clock_init_1 : decode b_Clock_init 1 = .ok (.invokespecial 3, 3) := by decide +kernel
theorem d_Clock_init_4 : decode b_Clock_init 4 = .ok (.aload_n 0, 1) := by decide +kernel
theorem d_Clock_init_5 : decode b_Clock_init 5 = .ok (.bipush 10, 2) := by decide +kernel
theorem d_Clock_init_7 : decode b_Clock_init 7 = .ok (.newarray .long, 2) := by decide +kernel
theorem d_Clock_init_9 : decode b_Clock_init 9 = .ok (.putfield 9, 3) := by decide +kernel
theorem d_Clock_init_12 : decode b_Clock_init 12 = .ok (.aload_n 0, 1) := by decide +kernel
theorem d_Clock_init_13 : decode b_Clock_init 13 = .ok (.bipush 10, 2) := by decide +kernel
theorem d_Clock_init_15 : decode b_Clock_init 15 = .ok (.newarray .long, 2) := by decide +kernel
theorem d_Clock_init_17 : decode b_Clock_init 17 = .ok (.putfield 15, 3) := by decide +kernel
theorem d_Clock_init_20 : decode b_Clock_init 20 = .ok (.return_, 1) := by decide +kernel
theorem d_Clock_addMark_0 : decode b_Clock_addMark 0 = .ok (.aload_n 0, 1) := by decide +kernel
theorem d_Clock_addMark_1 : decode b_Clock_addMark 1 = .ok (.getfield 18, 3) := by decide +kernel
theorem d_Clock_addMark_4 : decode b_Clock_addMark 4 = .ok (.bipush 10, 2) := by decide +kernel
theorem d_Clock_addMark_6 : decode b_Clock_addMark 6 = .ok (.if_icmp .lt 5, 3) := by decide +kernel
theorem d_Clock_addMark_9 : decode b_Clock_addMark 9 = .ok (.iconst 0, 1) := by decide +kernel
theorem d_Clock_addMark_10 : decode b_Clock_addMark 10 = .ok (.ireturn, 1) := by decide +kernel
theorem d_Clock_addMark_11 : decode b_Clock_addMark 11 = .ok (.aload_n 0, 1) := by decide +kernel
theorem d_Clock_addMark_12 : decode b_Clock_addMark 12 = .ok (.getfield 18, 3) := by decide +kernel
theorem d_Clock_addMark_15 : decode b_Clock_addMark 15 = .ok (.ifCond .le 37, 3) := by decide +kernel
theorem d_Clock_addMark_18 : decode b_Clock_addMark 18 = .ok (.lload_n 1, 1) := by decide +kernel
theorem d_Clock_addMark_19 : decode b_Clock_addMark 19 = .ok (.aload_n 0, 1) := by decide +kernel
theorem d_Clock_addMark_20 : decode b_Clock_addMark 20 = .ok (.getfield 9, 3) := by decide +kernel
theorem d_Clock_addMark_23 : decode b_Clock_addMark 23 = .ok (.aload_n 0, 1) := by decide +kernel
theorem d_Clock_addMark_24 : decode b_Clock_addMark 24 = .ok (.getfield 18, 3) := by decide +kernel
theorem d_Clock_addMark_27 : decode b_Clock_addMark 27 = .ok (.iconst 1, 1) := by decide +kernel
theorem d_Clock_addMark_28 : decode b_Clock_addMark 28 = .ok (.isub, 1) := by decide +kernel
theorem d_Clock_addMark_29 : decode b_Clock_addMark 29 = .ok (.laload, 1) := by decide +kernel
theorem d_Clock_addMark_30 : decode b_Clock_addMark 30 = .ok (.lcmp, 1) := by decide +kernel
theorem d_Clock_addMark_31 : decode b_Clock_addMark 31 = .ok (.ifCond .le 19, 3) := by decide +kernel
theorem d_Clock_addMark_34 : decode b_Clock_addMark 34 = .ok (.lload_n 3, 1) := by decide +kernel
theorem d_Clock_addMark_35 : decode b_Clock_addMark 35 = .ok (.aload_n 0, 1) := by decide +kernel
theorem d_Clock_addMark_36 : decode b_Clock_addMark 36 = .ok (.getfield 15, 3) := by decide +kernel
theorem d_Clock_addMark_39 : decode b_Clock_addMark 39 = .ok (.aload_n 0, 1) := by decide +kernel
theorem d_Clock_addMark_40 : decode b_Clock_addMark 40 = .ok (.getfield 18, 3) := by decide +kernel
theorem d_Clock_addMark_43 : decode b_Clock_addMark 43 = .ok (.iconst 1, 1) := by decide +kernel
theorem d_Clock_addMark_44 : decode b_Clock_addMark 44 = .ok (.isub, 1) := by decide +kernel
theorem d_Clock_addMark_45 : decode b_Clock_addMark 45 = .ok (.laload, 1) := by decide +kernel
theorem d_Clock_addMark_46 : decode b_Clock_addMark 46 = .ok (.lcmp, 1) := by decide +kernel
theorem d_Clock_addMark_47 : decode b_Clock_addMark 47 = .ok (.ifCond .ge 5, 3) := by decide +kernel
theorem d_Clock_addMark_50 : decode b_Clock_addMark 50 = .ok (.iconst 0, 1) := by decide +kernel
theorem d_Clock_addMark_51 : decode b_Clock_addMark 51 = .ok (.ireturn, 1) := by decide +kernel
theorem d_Clock_addMark_52 : decode b_Clock_addMark 52 = .ok (.aload_n 0, 1) := by decide +kernel
theorem d_Clock_addMark_53 : decode b_Clock_addMark 53 = .ok (.getfield 9, 3) := by decide +kernel
theorem d_Clock_addMark_56 : decode b_Clock_addMark 56 = .ok (.aload_n 0, 1) := by decide +kernel
theorem d_Clock_addMark_57 : decode b_Clock_addMark 57 = .ok (.getfield 18, 3) := by decide +kernel
theorem d_Clock_addMark_60 : decode b_Clock_addMark 60 = .ok (.lload_n 1, 1) := by decide +kernel
theorem d_Clock_addMark_61 : decode b_Clock_addMark 61 = .ok (.lastore, 1) := by decide +kernel
theorem d_Clock_addMark_62 : decode b_Clock_addMark 62 = .ok (.aload_n 0, 1) := by decide +kernel
theorem d_Clock_addMark_63 : decode b_Clock_addMark 63 = .ok (.getfield 15, 3) := by decide +kernel
theorem d_Clock_addMark_66 : decode b_Clock_addMark 66 = .ok (.aload_n 0, 1) := by decide +kernel
theorem d_Clock_addMark_67 : decode b_Clock_addMark 67 = .ok (.getfield 18, 3) := by decide +kernel
theorem d_Clock_addMark_70 : decode b_Clock_addMark 70 = .ok (.lload_n 3, 1) := by decide +kernel
theorem d_Clock_addMark_71 : decode b_Clock_addMark 71 = .ok (.lastore, 1) := by decide +kernel
theorem d_Clock_addMark_72 : decode b_Clock_addMark 72 = .ok (.aload_n 0, 1) := by decide +kernel
theorem d_Clock_addMark_73 : decode b_Clock_addMark 73 = .ok (.dup, 1) := by decide +kernel
theorem d_Clock_addMark_74 : decode b_Clock_addMark 74 = .ok (.getfield 18, 3) := by decide +kernel
theorem d_Clock_addMark_77 : decode b_Clock_addMark 77 = .ok (.iconst 1, 1) := by decide +kernel
theorem d_Clock_addMark_78 : decode b_Clock_addMark 78 = .ok (.iadd, 1) := by decide +kernel
theorem d_Clock_addMark_79 : decode b_Clock_addMark 79 = .ok (.putfield 18, 3) := by decide +kernel
theorem d_Clock_addMark_82 : decode b_Clock_addMark 82 = .ok (.iconst 1, 1) := by decide +kernel
theorem d_Clock_addMark_83 : decode b_Clock_addMark 83 = .ok (.ireturn, 1) := by decide +kernel
theorem d_Clock_denominator_0 : decode b_Clock_denominator 0 = .ok (.aload_n 0, 1) := by decide +kernel
theorem d_Clock_denominator_1 : decode b_Clock_denominator 1 = .ok (.lload_n 1, 1) := by decide +kernel
theorem d_Clock_denominator_2 : decode b_Clock_denominator 2 = .ok (.invokevirtual 22, 3) := by decide +kernel
theorem d_Clock_denominator_5 : decode b_Clock_denominator 5 = .ok (.istore_n 3, 1) := by decide +kernel
theorem d_Clock_denominator_6 : decode b_Clock_denominator 6 = .ok (.aload_n 0, 1) := by decide +kernel
theorem d_Clock_denominator_7 : decode b_Clock_denominator 7 = .ok (.iload_n 3, 1) := by decide +kernel
theorem d_Clock_denominator_8 : decode b_Clock_denominator 8 = .ok (.invokevirtual 26, 3) := by decide +kernel
theorem d_Clock_denominator_11 : decode b_Clock_denominator 11 = .ok (.ifCond .eq 21, 3) := by decide +kernel
theorem d_Clock_denominator_14 : decode b_Clock_denominator 14 = .ok (.aload_n 0, 1) := by decide +kernel
theorem d_Clock_denominator_15 : decode b_Clock_denominator 15 = .ok (.getfield 9, 3) := by decide +kernel
theorem d_Clock_denominator_18 : decode b_Clock_denominator 18 = .ok (.iload_n 3, 1) := by decide +kernel
theorem d_Clock_denominator_19 : decode b_Clock_denominator 19 = .ok (.iconst 1, 1) := by decide +kernel
theorem d_Clock_denominator_20 : decode b_Clock_denominator 20 = .ok (.iadd, 1) := by decide +kernel
theorem d_Clock_denominator_21 : decode b_Clock_denominator 21 = .ok (.laload, 1) := by decide +kernel
theorem d_Clock_denominator_22 : decode b_Clock_denominator 22 = .ok (.aload_n 0, 1) := by decide +kernel
theorem d_Clock_denominator_23 : decode b_Clock_denominator 23 = .ok (.getfield 9, 3) := by decide +kernel
theorem d_Clock_denominator_26 : decode b_Clock_denominator 26 = .ok (.iload_n 3, 1) := by decide +kernel
theorem d_Clock_denominator_27 : decode b_Clock_denominator 27 = .ok (.laload, 1) := by decide +kernel
theorem d_Clock_denominator_28 : decode b_Clock_denominator 28 = .ok (.lsub, 1) := by decide +kernel
theorem d_Clock_denominator_29 : decode b_Clock_denominator 29 = .ok (.goto 4, 3) := by decide +kernel
theorem d_Clock_denominator_32 : decode b_Clock_denominator 32 = .ok (.lconst 1, 1) := by decide +kernel
theorem d_Clock_denominator_33 : decode b_Clock_denominator 33 = .ok (.lreturn, 1) := by decide +kernel
theorem d_Clock_numerator_0 : decode b_Clock_numerator 0 = .ok (.aload_n 0, 1) := by decide +kernel
theorem d_Clock_numerator_1 : decode b_Clock_numerator 1 = .ok (.getfield 18, 3) := by decide +kernel
theorem d_Clock_numerator_4 : decode b_Clock_numerator 4 = .ok (.ifCond .ne 5, 3) := by decide +kernel
theorem d_Clock_numerator_7 : decode b_Clock_numerator 7 = .ok (.lload_n 1, 1) := by decide +kernel
theorem d_Clock_numerator_8 : decode b_Clock_numerator 8 = .ok (.lreturn, 1) := by decide +kernel
theorem d_Clock_numerator_9 : decode b_Clock_numerator 9 = .ok (.aload_n 0, 1) := by decide +kernel
theorem d_Clock_numerator_10 : decode b_Clock_numerator 10 = .ok (.lload_n 1, 1) := by decide +kernel
theorem d_Clock_numerator_11 : decode b_Clock_numerator 11 = .ok (.invokevirtual 22, 3) := by decide +kernel
theorem d_Clock_numerator_14 : decode b_Clock_numerator 14 = .ok (.istore_n 3, 1) := by decide +kernel
theorem d_Clock_numerator_15 : decode b_Clock_numerator 15 = .ok (.aload_n 0, 1) := by decide +kernel
theorem d_Clock_numerator_16 : decode b_Clock_numerator 16 = .ok (.iload_n 3, 1) := by decide +kernel
theorem d_Clock_numerator_17 : decode b_Clock_numerator 17 = .ok (.invokevirtual 26, 3) := by decide +kernel
theorem d_Clock_numerator_20 : decode b_Clock_numerator 20 = .ok (.ifCond .eq 59, 3) := by decide +kernel
theorem d_Clock_numerator_23 : decode b_Clock_numerator 23 = .ok (.aload_n 0, 1) := by decide +kernel
theorem d_Clock_numerator_24 : decode b_Clock_numerator 24 = .ok (.getfield 9, 3) := by decide +kernel
theorem d_Clock_numerator_27 : decode b_Clock_numerator 27 = .ok (.iload_n 3, 1) := by decide +kernel
theorem d_Clock_numerator_28 : decode b_Clock_numerator 28 = .ok (.iconst 1, 1) := by decide +kernel
theorem d_Clock_numerator_29 : decode b_Clock_numerator 29 = .ok (.iadd, 1) := by decide +kernel
theorem d_Clock_numerator_30 : decode b_Clock_numerator 30 = .ok (.laload, 1) := by decide +kernel
theorem d_Clock_numerator_31 : decode b_Clock_numerator 31 = .ok (.aload_n 0, 1) := by decide +kernel
theorem d_Clock_numerator_32 : decode b_Clock_numerator 32 = .ok (.getfield 9, 3) := by decide +kernel
theorem d_Clock_numerator_35 : decode b_Clock_numerator 35 = .ok (.iload_n 3, 1) := by decide +kernel
theorem d_Clock_numerator_36 : decode b_Clock_numerator 36 = .ok (.laload, 1) := by decide +kernel
theorem d_Clock_numerator_37 : decode b_Clock_numerator 37 = .ok (.lsub, 1) := by decide +kernel
theorem d_Clock_numerator_38 : decode b_Clock_numerator 38 = .ok (.lstore 4, 2) := by decide +kernel
theorem d_Clock_numerator_40 : decode b_Clock_numerator 40 = .ok (.aload_n 0, 1) := by decide +kernel
theorem d_Clock_numerator_41 : decode b_Clock_numerator 41 = .ok (.getfield 15, 3) := by decide +kernel
theorem d_Clock_numerator_44 : decode b_Clock_numerator 44 = .ok (.iload_n 3, 1) := by decide +kernel
theorem d_Clock_numerator_45 : decode b_Clock_numerator 45 = .ok (.iconst 1, 1) := by decide +kernel
theorem d_Clock_numerator_46 : decode b_Clock_numerator 46 = .ok (.iadd, 1) := by decide +kernel
theorem d_Clock_numerator_47 : decode b_Clock_numerator 47 = .ok (.laload, 1) := by decide +kernel
theorem d_Clock_numerator_48 : decode b_Clock_numerator 48 = .ok (.aload_n 0, 1) := by decide +kernel
theorem d_Clock_numerator_49 : decode b_Clock_numerator 49 = .ok (.getfield 15, 3) := by decide +kernel
theorem d_Clock_numerator_52 : decode b_Clock_numerator 52 = .ok (.iload_n 3, 1) := by decide +kernel
theorem d_Clock_numerator_53 : decode b_Clock_numerator 53 = .ok (.laload, 1) := by decide +kernel
theorem d_Clock_numerator_54 : decode b_Clock_numerator 54 = .ok (.lsub, 1) := by decide +kernel
theorem d_Clock_numerator_55 : decode b_Clock_numerator 55 = .ok (.lstore 6, 2) := by decide +kernel
theorem d_Clock_numerator_57 : decode b_Clock_numerator 57 = .ok (.aload_n 0, 1) := by decide +kernel
theorem d_Clock_numerator_58 : decode b_Clock_numerator 58 = .ok (.getfield 15, 3) := by decide +kernel
theorem d_Clock_numerator_61 : decode b_Clock_numerator 61 = .ok (.iload_n 3, 1) := by decide +kernel
theorem d_Clock_numerator_62 : decode b_Clock_numerator 62 = .ok (.laload, 1) := by decide +kernel
theorem d_Clock_numerator_63 : decode b_Clock_numerator 63 = .ok (.lload 4, 2) := by decide +kernel
theorem d_Clock_numerator_65 : decode b_Clock_numerator 65 = .ok (.lmul, 1) := by decide +kernel
theorem d_Clock_numerator_66 : decode b_Clock_numerator 66 = .ok (.lload_n 1, 1) := by decide +kernel
theorem d_Clock_numerator_67 : decode b_Clock_numerator 67 = .ok (.aload_n 0, 1) := by decide +kernel
theorem d_Clock_numerator_68 : decode b_Clock_numerator 68 = .ok (.getfield 9, 3) := by decide +kernel
theorem d_Clock_numerator_71 : decode b_Clock_numerator 71 = .ok (.iload_n 3, 1) := by decide +kernel
theorem d_Clock_numerator_72 : decode b_Clock_numerator 72 = .ok (.laload, 1) := by decide +kernel
theorem d_Clock_numerator_73 : decode b_Clock_numerator 73 = .ok (.lsub, 1) := by decide +kernel
theorem d_Clock_numerator_74 : decode b_Clock_numerator 74 = .ok (.lload 6, 2) := by decide +kernel
theorem d_Clock_numerator_76 : decode b_Clock_numerator 76 = .ok (.lmul, 1) := by decide +kernel
theorem d_Clock_numerator_77 : decode b_Clock_numerator 77 = .ok (.ladd, 1) := by decide +kernel
theorem d_Clock_numerator_78 : decode b_Clock_numerator 78 = .ok (.lreturn, 1) := by decide +kernel
theorem d_Clock_numerator_79 : decode b_Clock_numerator 79 = .ok (.iload_n 3, 1) := by decide +kernel
theorem d_Clock_numerator_80 : decode b_Clock_numerator 80 = .ok (.iconst 0, 1) := by decide +kernel
theorem d_Clock_numerator_81 : decode b_Clock_numerator 81 = .ok (.invokestatic 30, 3) := by decide +kernel
theorem d_Clock_numerator_84 : decode b_Clock_numerator 84 = .ok (.istore 4, 2) := by decide +kernel
theorem d_Clock_numerator_86 : decode b_Clock_numerator 86 = .ok (.lload_n 1, 1) := by decide +kernel
theorem d_Clock_numerator_87 : decode b_Clock_numerator 87 = .ok (.aload_n 0, 1) := by decide +kernel
theorem d_Clock_numerator_88 : decode b_Clock_numerator 88 = .ok (.getfield 15, 3) := by decide +kernel
theorem d_Clock_numerator_91 : decode b_Clock_numerator 91 = .ok (.iload 4, 2) := by decide +kernel
theorem d_Clock_numerator_93 : decode b_Clock_numerator 93 = .ok (.laload, 1) := by decide +kernel
theorem d_Clock_numerator_94 : decode b_Clock_numerator 94 = .ok (.ladd, 1) := by decide +kernel
theorem d_Clock_numerator_95 : decode b_Clock_numerator 95 = .ok (.aload_n 0, 1) := by decide +kernel
theorem d_Clock_numerator_96 : decode b_Clock_numerator 96 = .ok (.getfield 9, 3) := by decide +kernel
theorem d_Clock_numerator_99 : decode b_Clock_numerator 99 = .ok (.iload 4, 2) := by decide +kernel
theorem d_Clock_numerator_101 : decode b_Clock_numerator 101 = .ok (.laload, 1) := by decide +kernel
theorem d_Clock_numerator_102 : decode b_Clock_numerator 102 = .ok (.lsub, 1) := by decide +kernel
theorem d_Clock_numerator_103 : decode b_Clock_numerator 103 = .ok (.lreturn, 1) := by decide +kernel
theorem d_Clock_isBetween_0 : decode b_Clock_isBetween 0 = .ok (.iload_n 1, 1) := by decide +kernel
theorem d_Clock_isBetween_1 : decode b_Clock_isBetween 1 = .ok (.ifCond .lt 17, 3) := by decide +kernel
theorem d_Clock_isBetween_4 : decode b_Clock_isBetween 4 = .ok (.iload_n 1, 1) := by decide +kernel
theorem d_Clock_isBetween_5 : decode b_Clock_isBetween 5 = .ok (.aload_n 0, 1) := by decide +kernel
theorem d_Clock_isBetween_6 : decode b_Clock_isBetween 6 = .ok (.getfield 18, 3) := by decide +kernel
theorem d_Clock_isBetween_9 : decode b_Clock_isBetween 9 = .ok (.iconst 1, 1) := by decide +kernel
theorem d_Clock_isBetween_10 : decode b_Clock_isBetween 10 = .ok (.isub, 1) := by decide +kernel
theorem d_Clock_isBetween_11 : decode b_Clock_isBetween 11 = .ok (.if_icmp .ge 7, 3) := by decide +kernel
theorem d_Clock_isBetween_14 : decode b_Clock_isBetween 14 = .ok (.iconst 1, 1) := by decide +kernel
theorem d_Clock_isBetween_15 : decode b_Clock_isBetween 15 = .ok (.goto 4, 3) := by decide +kernel
theorem d_Clock_isBetween_18 : decode b_Clock_isBetween 18 = .ok (.iconst 0, 1) := by decide +kernel
theorem d_Clock_isBetween_19 : decode b_Clock_isBetween 19 = .ok (.ireturn, 1) := by decide +kernel
theorem d_Clock_markBefore_0 : decode b_Clock_markBefore 0 = .ok (.iconst (-1), 1) := by decide +kernel
theorem d_Clock_markBefore_1 : decode b_Clock_markBefore 1 = .ok (.istore_n 3, 1) := by decide +kernel
theorem d_Clock_markBefore_2 : decode b_Clock_markBefore 2 = .ok (.iconst 0, 1) := by decide +kernel
theorem d_Clock_markBefore_3 : decode b_Clock_markBefore 3 = .ok (.istore 4, 2) := by decide +kernel
theorem d_Clock_markBefore_5 : decode b_Clock_markBefore 5 = .ok (.iload 4, 2) := by decide +kernel
theorem d_Clock_markBefore_7 : decode b_Clock_markBefore 7 = .ok (.aload_n 0, 1) := by decide +kernel
theorem d_Clock_markBefore_8 : decode b_Clock_markBefore 8 = .ok (.getfield 18, 3) := by decide +kernel
theorem d_Clock_markBefore_11 : decode b_Clock_markBefore 11 = .ok (.if_icmp .ge 24, 3) := by decide +kernel
theorem d_Clock_markBefore_14 : decode b_Clock_markBefore 14 = .ok (.aload_n 0, 1) := by decide +kernel
theorem d_Clock_markBefore_15 : decode b_Clock_markBefore 15 = .ok (.getfield 9, 3) := by decide +kernel
theorem d_Clock_markBefore_18 : decode b_Clock_markBefore 18 = .ok (.iload 4, 2) := by decide +kernel
theorem d_Clock_markBefore_20 : decode b_Clock_markBefore 20 = .ok (.laload, 1) := by decide +kernel
theorem d_Clock_markBefore_21 : decode b_Clock_markBefore 21 = .ok (.lload_n 1, 1) := by decide +kernel
theorem d_Clock_markBefore_22 : decode b_Clock_markBefore 22 = .ok (.lcmp, 1) := by decide +kernel
theorem d_Clock_markBefore_23 : decode b_Clock_markBefore 23 = .ok (.ifCond .gt 6, 3) := by decide +kernel
theorem d_Clock_markBefore_26 : decode b_Clock_markBefore 26 = .ok (.iload 4, 2) := by decide +kernel
theorem d_Clock_markBefore_28 : decode b_Clock_markBefore 28 = .ok (.istore_n 3, 1) := by decide +kernel
theorem d_Clock_markBefore_29 : decode b_Clock_markBefore 29 = .ok (.iinc 4 1, 3) := by decide +kernel
theorem d_Clock_markBefore_32 : decode b_Clock_markBefore 32 = .ok (.goto (-27), 3) := by decide +kernel
theorem d_Clock_markBefore_35 : decode b_Clock_markBefore 35 = .ok (.iload_n 3, 1) := by decide +kernel
theorem d_Clock_markBefore_36 : decode b_Clock_markBefore 36 = .ok (.ireturn, 1) := by decide +kernel
theorem d_Held_init_0 : decode b_Held_init 0 = .ok (.aload_n 0, 1) := by decide +kernel
theorem d_Held_init_1 : decode b_Held_init 1 = .ok (.invokespecial 1, 3) := by decide +kernel
theorem d_Held_init_4 : decode b_Held_init 4 = .ok (.return_, 1) := by decide +kernel
theorem d_Held_takeIn_0 : decode b_Held_takeIn 0 = .ok (.aload_n 1, 1) := by decide +kernel
theorem d_Held_takeIn_1 : decode b_Held_takeIn 1 = .ok (.getfield 7, 3) := by decide +kernel
theorem d_Held_takeIn_4 : decode b_Held_takeIn 4 = .ok (.aload_n 0, 1) := by decide +kernel
theorem d_Held_takeIn_5 : decode b_Held_takeIn 5 = .ok (.getfield 7, 3) := by decide +kernel
theorem d_Held_takeIn_8 : decode b_Held_takeIn 8 = .ok (.ldc2_w 13, 3) := by decide +kernel
theorem d_Held_takeIn_11 : decode b_Held_takeIn 11 = .ok (.lxor, 1) := by decide +kernel
theorem d_Held_takeIn_12 : decode b_Held_takeIn 12 = .ok (.land, 1) := by decide +kernel
theorem d_Held_takeIn_13 : decode b_Held_takeIn 13 = .ok (.lconst 0, 1) := by decide +kernel
theorem d_Held_takeIn_14 : decode b_Held_takeIn 14 = .ok (.lcmp, 1) := by decide +kernel
theorem d_Held_takeIn_15 : decode b_Held_takeIn 15 = .ok (.ifCond .ne 51, 3) := by decide +kernel
theorem d_Held_takeIn_18 : decode b_Held_takeIn 18 = .ok (.aload_n 1, 1) := by decide +kernel
theorem d_Held_takeIn_19 : decode b_Held_takeIn 19 = .ok (.getfield 15, 3) := by decide +kernel
theorem d_Held_takeIn_22 : decode b_Held_takeIn 22 = .ok (.aload_n 0, 1) := by decide +kernel
theorem d_Held_takeIn_23 : decode b_Held_takeIn 23 = .ok (.getfield 15, 3) := by decide +kernel
theorem d_Held_takeIn_26 : decode b_Held_takeIn 26 = .ok (.ldc2_w 13, 3) := by decide +kernel
theorem d_Held_takeIn_29 : decode b_Held_takeIn 29 = .ok (.lxor, 1) := by decide +kernel
theorem d_Held_takeIn_30 : decode b_Held_takeIn 30 = .ok (.land, 1) := by decide +kernel
theorem d_Held_takeIn_31 : decode b_Held_takeIn 31 = .ok (.lconst 0, 1) := by decide +kernel
theorem d_Held_takeIn_32 : decode b_Held_takeIn 32 = .ok (.lcmp, 1) := by decide +kernel
theorem d_Held_takeIn_33 : decode b_Held_takeIn 33 = .ok (.ifCond .ne 33, 3) := by decide +kernel
theorem d_Held_takeIn_36 : decode b_Held_takeIn 36 = .ok (.aload_n 1, 1) := by decide +kernel
theorem d_Held_takeIn_37 : decode b_Held_takeIn 37 = .ok (.getfield 18, 3) := by decide +kernel
theorem d_Held_takeIn_40 : decode b_Held_takeIn 40 = .ok (.aload_n 0, 1) := by decide +kernel
theorem d_Held_takeIn_41 : decode b_Held_takeIn 41 = .ok (.getfield 18, 3) := by decide +kernel
theorem d_Held_takeIn_44 : decode b_Held_takeIn 44 = .ok (.ldc2_w 13, 3) := by decide +kernel
theorem d_Held_takeIn_47 : decode b_Held_takeIn 47 = .ok (.lxor, 1) := by decide +kernel
theorem d_Held_takeIn_48 : decode b_Held_takeIn 48 = .ok (.land, 1) := by decide +kernel
theorem d_Held_takeIn_49 : decode b_Held_takeIn 49 = .ok (.lconst 0, 1) := by decide +kernel
theorem d_Held_takeIn_50 : decode b_Held_takeIn 50 = .ok (.lcmp, 1) := by decide +kernel
theorem d_Held_takeIn_51 : decode b_Held_takeIn 51 = .ok (.ifCond .ne 15, 3) := by decide +kernel
theorem d_Held_takeIn_54 : decode b_Held_takeIn 54 = .ok (.aload_n 1, 1) := by decide +kernel
theorem d_Held_takeIn_55 : decode b_Held_takeIn 55 = .ok (.getfield 21, 3) := by decide +kernel
theorem d_Held_takeIn_58 : decode b_Held_takeIn 58 = .ok (.aload_n 0, 1) := by decide +kernel
theorem d_Held_takeIn_59 : decode b_Held_takeIn 59 = .ok (.getfield 21, 3) := by decide +kernel
theorem d_Held_takeIn_62 : decode b_Held_takeIn 62 = .ok (.lcmp, 1) := by decide +kernel
theorem d_Held_takeIn_63 : decode b_Held_takeIn 63 = .ok (.ifCond .le 7, 3) := by decide +kernel
theorem d_Held_takeIn_66 : decode b_Held_takeIn 66 = .ok (.iconst 1, 1) := by decide +kernel
theorem d_Held_takeIn_67 : decode b_Held_takeIn 67 = .ok (.goto 4, 3) := by decide +kernel
theorem d_Held_takeIn_70 : decode b_Held_takeIn 70 = .ok (.iconst 0, 1) := by decide +kernel
theorem d_Held_takeIn_71 : decode b_Held_takeIn 71 = .ok (.istore_n 2, 1) := by decide +kernel
theorem d_Held_takeIn_72 : decode b_Held_takeIn 72 = .ok (.aload_n 0, 1) := by decide +kernel
theorem d_Held_takeIn_73 : decode b_Held_takeIn 73 = .ok (.dup, 1) := by decide +kernel
theorem d_Held_takeIn_74 : decode b_Held_takeIn 74 = .ok (.getfield 7, 3) := by decide +kernel
theorem d_Held_takeIn_77 : decode b_Held_takeIn 77 = .ok (.aload_n 1, 1) := by decide +kernel
theorem d_Held_takeIn_78 : decode b_Held_takeIn 78 = .ok (.getfield 7, 3) := by decide +kernel
theorem d_Held_takeIn_81 : decode b_Held_takeIn 81 = .ok (.lor, 1) := by decide +kernel
theorem d_Held_takeIn_82 : decode b_Held_takeIn 82 = .ok (.putfield 7, 3) := by decide +kernel
theorem d_Held_takeIn_85 : decode b_Held_takeIn 85 = .ok (.aload_n 0, 1) := by decide +kernel
theorem d_Held_takeIn_86 : decode b_Held_takeIn 86 = .ok (.dup, 1) := by decide +kernel
theorem d_Held_takeIn_87 : decode b_Held_takeIn 87 = .ok (.getfield 15, 3) := by decide +kernel
theorem d_Held_takeIn_90 : decode b_Held_takeIn 90 = .ok (.aload_n 1, 1) := by decide +kernel
theorem d_Held_takeIn_91 : decode b_Held_takeIn 91 = .ok (.getfield 15, 3) := by decide +kernel
theorem d_Held_takeIn_94 : decode b_Held_takeIn 94 = .ok (.lor, 1) := by decide +kernel
theorem d_Held_takeIn_95 : decode b_Held_takeIn 95 = .ok (.putfield 15, 3) := by decide +kernel
theorem d_Held_takeIn_98 : decode b_Held_takeIn 98 = .ok (.aload_n 0, 1) := by decide +kernel
theorem d_Held_takeIn_99 : decode b_Held_takeIn 99 = .ok (.dup, 1) := by decide +kernel
theorem d_Held_takeIn_100 : decode b_Held_takeIn 100 = .ok (.getfield 18, 3) := by decide +kernel
theorem d_Held_takeIn_103 : decode b_Held_takeIn 103 = .ok (.aload_n 1, 1) := by decide +kernel
theorem d_Held_takeIn_104 : decode b_Held_takeIn 104 = .ok (.getfield 18, 3) := by decide +kernel
theorem d_Held_takeIn_107 : decode b_Held_takeIn 107 = .ok (.lor, 1) := by decide +kernel
theorem d_Held_takeIn_108 : decode b_Held_takeIn 108 = .ok (.putfield 18, 3) := by decide +kernel
theorem d_Held_takeIn_111 : decode b_Held_takeIn 111 = .ok (.aload_n 0, 1) := by decide +kernel
theorem d_Held_takeIn_112 : decode b_Held_takeIn 112 = .ok (.aload_n 0, 1) := by decide +kernel
theorem d_Held_takeIn_113 : decode b_Held_takeIn 113 = .ok (.getfield 21, 3) := by decide +kernel
theorem d_Held_takeIn_116 : decode b_Held_takeIn 116 = .ok (.aload_n 1, 1) := by decide +kernel
theorem d_Held_takeIn_117 : decode b_Held_takeIn 117 = .ok (.getfield 21, 3) := by decide +kernel
theorem d_Held_takeIn_120 : decode b_Held_takeIn 120 = .ok (.invokestatic 24, 3) := by decide +kernel
theorem d_Held_takeIn_123 : decode b_Held_takeIn 123 = .ok (.putfield 21, 3) := by decide +kernel
theorem d_Held_takeIn_126 : decode b_Held_takeIn 126 = .ok (.iload_n 2, 1) := by decide +kernel
theorem d_Held_takeIn_127 : decode b_Held_takeIn 127 = .ok (.ireturn, 1) := by decide +kernel
theorem d_Held_isLike_0 : decode b_Held_isLike 0 = .ok (.aload_n 0, 1) := by decide +kernel
theorem d_Held_isLike_1 : decode b_Held_isLike 1 = .ok (.getfield 7, 3) := by decide +kernel
theorem d_Held_isLike_4 : decode b_Held_isLike 4 = .ok (.aload_n 1, 1) := by decide +kernel
theorem d_Held_isLike_5 : decode b_Held_isLike 5 = .ok (.getfield 7, 3) := by decide +kernel
theorem d_Held_isLike_8 : decode b_Held_isLike 8 = .ok (.lcmp, 1) := by decide +kernel
theorem d_Held_isLike_9 : decode b_Held_isLike 9 = .ok (.ifCond .ne 43, 3) := by decide +kernel
theorem d_Held_isLike_12 : decode b_Held_isLike 12 = .ok (.aload_n 0, 1) := by decide +kernel
theorem d_Held_isLike_13 : decode b_Held_isLike 13 = .ok (.getfield 15, 3) := by decide +kernel
theorem d_Held_isLike_16 : decode b_Held_isLike 16 = .ok (.aload_n 1, 1) := by decide +kernel
theorem d_Held_isLike_17 : decode b_Held_isLike 17 = .ok (.getfield 15, 3) := by decide +kernel
theorem d_Held_isLike_20 : decode b_Held_isLike 20 = .ok (.lcmp, 1) := by decide +kernel
theorem d_Held_isLike_21 : decode b_Held_isLike 21 = .ok (.ifCond .ne 31, 3) := by decide +kernel
theorem d_Held_isLike_24 : decode b_Held_isLike 24 = .ok (.aload_n 0, 1) := by decide +kernel
theorem d_Held_isLike_25 : decode b_Held_isLike 25 = .ok (.getfield 18, 3) := by decide +kernel
theorem d_Held_isLike_28 : decode b_Held_isLike 28 = .ok (.aload_n 1, 1) := by decide +kernel
theorem d_Held_isLike_29 : decode b_Held_isLike 29 = .ok (.getfield 18, 3) := by decide +kernel
theorem d_Held_isLike_32 : decode b_Held_isLike 32 = .ok (.lcmp, 1) := by decide +kernel
theorem d_Held_isLike_33 : decode b_Held_isLike 33 = .ok (.ifCond .ne 19, 3) := by decide +kernel
theorem d_Held_isLike_36 : decode b_Held_isLike 36 = .ok (.aload_n 0, 1) := by decide +kernel
theorem d_Held_isLike_37 : decode b_Held_isLike 37 = .ok (.getfield 21, 3) := by decide +kernel
theorem d_Held_isLike_40 : decode b_Held_isLike 40 = .ok (.aload_n 1, 1) := by decide +kernel
theorem d_Held_isLike_41 : decode b_Held_isLike 41 = .ok (.getfield 21, 3) := by decide +kernel
theorem d_Held_isLike_44 : decode b_Held_isLike 44 = .ok (.lcmp, 1) := by decide +kernel
theorem d_Held_isLike_45 : decode b_Held_isLike 45 = .ok (.ifCond .ne 7, 3) := by decide +kernel
theorem d_Held_isLike_48 : decode b_Held_isLike 48 = .ok (.iconst 1, 1) := by decide +kernel
theorem d_Held_isLike_49 : decode b_Held_isLike 49 = .ok (.goto 4, 3) := by decide +kernel
theorem d_Held_isLike_52 : decode b_Held_isLike 52 = .ok (.iconst 0, 1) := by decide +kernel
theorem d_Held_isLike_53 : decode b_Held_isLike 53 = .ok (.ireturn, 1) := by decide +kernel
theorem d_Held_clear_0 : decode b_Held_clear 0 = .ok (.aload_n 0, 1) := by decide +kernel
theorem d_Held_clear_1 : decode b_Held_clear 1 = .ok (.lconst 0, 1) := by decide +kernel
theorem d_Held_clear_2 : decode b_Held_clear 2 = .ok (.putfield 7, 3) := by decide +kernel
theorem d_Held_clear_5 : decode b_Held_clear 5 = .ok (.aload_n 0, 1) := by decide +kernel
theorem d_Held_clear_6 : decode b_Held_clear 6 = .ok (.lconst 0, 1) := by decide +kernel
theorem d_Held_clear_7 : decode b_Held_clear 7 = .ok (.putfield 15, 3) := by decide +kernel
theorem d_Held_clear_10 : decode b_Held_clear 10 = .ok (.aload_n 0, 1) := by decide +kernel
theorem d_Held_clear_11 : decode b_Held_clear 11 = .ok (.lconst 0, 1) := by decide +kernel
theorem d_Held_clear_12 : decode b_Held_clear 12 = .ok (.putfield 18, 3) := by decide +kernel
theorem d_Held_clear_15 : decode b_Held_clear 15 = .ok (.aload_n 0, 1) := by decide +kernel
theorem d_Held_clear_16 : decode b_Held_clear 16 = .ok (.lconst 0, 1) := by decide +kernel
theorem d_Held_clear_17 : decode b_Held_clear 17 = .ok (.putfield 21, 3) := by decide +kernel
theorem d_Held_clear_20 : decode b_Held_clear 20 = .ok (.return_, 1) := by decide +kernel
theorem d_ToldSet_init_0 : decode b_ToldSet_init 0 = .ok (.aload_n 0, 1) := by decide +kernel
theorem d_ToldSet_init_1 : decode b_ToldSet_init 1 = .ok (.invokespecial 3, 3) := by decide +kernel
theorem d_ToldSet_init_4 : decode b_ToldSet_init 4 = .ok (.aload_n 0, 1) := by decide +kernel
theorem d_ToldSet_init_5 : decode b_ToldSet_init 5 = .ok (.new 9, 3) := by decide +kernel
theorem d_ToldSet_init_8 : decode b_ToldSet_init 8 = .ok (.dup, 1) := by decide +kernel
theorem d_ToldSet_init_9 : decode b_ToldSet_init 9 = .ok (.invokespecial 11, 3) := by decide +kernel
theorem d_ToldSet_init_12 : decode b_ToldSet_init 12 = .ok (.putfield 12, 3) := by decide +kernel
theorem d_ToldSet_init_15 : decode b_ToldSet_init 15 = .ok (.aload_n 0, 1) := by decide +kernel
theorem d_ToldSet_init_16 : decode b_ToldSet_init 16 = .ok (.new 9, 3) := by decide +kernel
theorem d_ToldSet_init_19 : decode b_ToldSet_init 19 = .ok (.dup, 1) := by decide +kernel
theorem d_ToldSet_init_20 : decode b_ToldSet_init 20 = .ok (.invokespecial 11, 3) := by decide +kernel
theorem d_ToldSet_init_23 : decode b_ToldSet_init 23 = .ok (.putfield 18, 3) := by decide +kernel
theorem d_ToldSet_init_26 : decode b_ToldSet_init 26 = .ok (.aload_n 0, 1) := by decide +kernel
theorem d_ToldSet_init_27 : decode b_ToldSet_init 27 = .ok (.iconst (-1), 1) := by decide +kernel
theorem d_ToldSet_init_28 : decode b_ToldSet_init 28 = .ok (.putfield 21, 3) := by decide +kernel
theorem d_ToldSet_init_31 : decode b_ToldSet_init 31 = .ok (.aload_n 0, 1) := by decide +kernel
theorem d_ToldSet_init_32 : decode b_ToldSet_init 32 = .ok (.getfield 12, 3) := by decide +kernel
theorem d_ToldSet_init_35 : decode b_ToldSet_init 35 = .ok (.lload_n 1, 1) := by decide +kernel
theorem d_ToldSet_init_36 : decode b_ToldSet_init 36 = .ok (.putfield 25, 3) := by decide +kernel
theorem d_ToldSet_init_39 : decode b_ToldSet_init 39 = .ok (.return_, 1) := by decide +kernel
theorem d_ToldSet_bring_0 : decode b_ToldSet_bring 0 = .ok (.aload_n 0, 1) := by decide +kernel
theorem d_ToldSet_bring_1 : decode b_ToldSet_bring 1 = .ok (.getfield 21, 3) := by decide +kernel
theorem d_ToldSet_bring_4 : decode b_ToldSet_bring 4 = .ok (.iconst (-1), 1) := by decide +kernel
theorem d_ToldSet_bring_5 : decode b_ToldSet_bring 5 = .ok (.if_icmp .ne 17, 3) := by decide +kernel
theorem d_ToldSet_bring_8 : decode b_ToldSet_bring 8 = .ok (.aload_n 0, 1) := by decide +kernel
theorem d_ToldSet_bring_9 : decode b_ToldSet_bring 9 = .ok (.getfield 12, 3) := by decide +kernel
theorem d_ToldSet_bring_12 : decode b_ToldSet_bring 12 = .ok (.aload_n 1, 1) := by decide +kernel
theorem d_ToldSet_bring_13 : decode b_ToldSet_bring 13 = .ok (.getfield 12, 3) := by decide +kernel
theorem d_ToldSet_bring_16 : decode b_ToldSet_bring 16 = .ok (.invokevirtual 29, 3) := by decide +kernel
theorem d_ToldSet_bring_19 : decode b_ToldSet_bring 19 = .ok (.goto 14, 3) := by decide +kernel
theorem d_ToldSet_bring_22 : decode b_ToldSet_bring 22 = .ok (.aload_n 0, 1) := by decide +kernel
theorem d_ToldSet_bring_23 : decode b_ToldSet_bring 23 = .ok (.getfield 18, 3) := by decide +kernel
theorem d_ToldSet_bring_26 : decode b_ToldSet_bring 26 = .ok (.aload_n 1, 1) := by decide +kernel
theorem d_ToldSet_bring_27 : decode b_ToldSet_bring 27 = .ok (.getfield 12, 3) := by decide +kernel
theorem d_ToldSet_bring_30 : decode b_ToldSet_bring 30 = .ok (.invokevirtual 29, 3) := by decide +kernel
theorem d_ToldSet_bring_33 : decode b_ToldSet_bring 33 = .ok (.ireturn, 1) := by decide +kernel
theorem d_ToldSet_takeWaiting_0 : decode b_ToldSet_takeWaiting 0 = .ok (.aload_n 0, 1) := by decide +kernel
theorem d_ToldSet_takeWaiting_1 : decode b_ToldSet_takeWaiting 1 = .ok (.getfield 12, 3) := by decide +kernel
theorem d_ToldSet_takeWaiting_4 : decode b_ToldSet_takeWaiting 4 = .ok (.aload_n 0, 1) := by decide +kernel
theorem d_ToldSet_takeWaiting_5 : decode b_ToldSet_takeWaiting 5 = .ok (.getfield 18, 3) := by decide +kernel
theorem d_ToldSet_takeWaiting_8 : decode b_ToldSet_takeWaiting 8 = .ok (.invokevirtual 29, 3) := by decide +kernel
theorem d_ToldSet_takeWaiting_11 : decode b_ToldSet_takeWaiting 11 = .ok (.pop, 1) := by decide +kernel
theorem d_ToldSet_takeWaiting_12 : decode b_ToldSet_takeWaiting 12 = .ok (.aload_n 0, 1) := by decide +kernel
theorem d_ToldSet_takeWaiting_13 : decode b_ToldSet_takeWaiting 13 = .ok (.getfield 18, 3) := by decide +kernel
theorem d_ToldSet_takeWaiting_16 : decode b_ToldSet_takeWaiting 16 = .ok (.invokevirtual 33, 3) := by decide +kernel
theorem d_ToldSet_takeWaiting_19 : decode b_ToldSet_takeWaiting 19 = .ok (.aload_n 0, 1) := by decide +kernel
theorem d_ToldSet_takeWaiting_20 : decode b_ToldSet_takeWaiting 20 = .ok (.iconst (-1), 1) := by decide +kernel
theorem d_ToldSet_takeWaiting_21 : decode b_ToldSet_takeWaiting 21 = .ok (.putfield 21, 3) := by decide +kernel
theorem d_ToldSet_takeWaiting_24 : decode b_ToldSet_takeWaiting 24 = .ok (.return_, 1) := by decide +kernel
theorem d_Tellings_init_0 : decode b_Tellings_init 0 = .ok (.aload_n 0, 1) := by decide +kernel
theorem d_Tellings_init_1 : decode b_Tellings_init 1 = .ok (.invokespecial 3, 3) := by decide +kernel
theorem d_Tellings_init_4 : decode b_Tellings_init 4 = .ok (.aload_n 0, 1) := by decide +kernel
theorem d_Tellings_init_5 : decode b_Tellings_init 5 = .ok (.bipush 60, 2) := by decide +kernel
theorem d_Tellings_init_7 : decode b_Tellings_init 7 = .ok (.newarray .int, 2) := by decide +kernel
theorem d_Tellings_init_9 : decode b_Tellings_init 9 = .ok (.putfield 9, 3) := by decide +kernel
theorem d_Tellings_init_12 : decode b_Tellings_init 12 = .ok (.aload_n 0, 1) := by decide +kernel
theorem d_Tellings_init_13 : decode b_Tellings_init 13 = .ok (.bipush 60, 2) := by decide +kernel
theorem d_Tellings_init_15 : decode b_Tellings_init 15 = .ok (.newarray .int, 2) := by decide +kernel
theorem d_Tellings_init_17 : decode b_Tellings_init 17 = .ok (.putfield 15, 3) := by decide +kernel
theorem d_Tellings_init_20 : decode b_Tellings_init 20 = .ok (.aload_n 0, 1) := by decide +kernel
theorem d_Tellings_init_21 : decode b_Tellings_init 21 = .ok (.bipush 60, 2) := by decide +kernel
theorem d_Tellings_init_23 : decode b_Tellings_init 23 = .ok (.newarray .int, 2) := by decide +kernel
theorem d_Tellings_init_25 : decode b_Tellings_init 25 = .ok (.putfield 18, 3) := by decide +kernel
theorem d_Tellings_init_28 : decode b_Tellings_init 28 = .ok (.aload_n 0, 1) := by decide +kernel
theorem d_Tellings_init_29 : decode b_Tellings_init 29 = .ok (.bipush 60, 2) := by decide +kernel
theorem d_Tellings_init_31 : decode b_Tellings_init 31 = .ok (.newarray .int, 2) := by decide +kernel
theorem d_Tellings_init_33 : decode b_Tellings_init 33 = .ok (.putfield 21, 3) := by decide +kernel
theorem d_Tellings_init_36 : decode b_Tellings_init 36 = .ok (.aload_n 0, 1) := by decide +kernel
theorem d_Tellings_init_37 : decode b_Tellings_init 37 = .ok (.bipush 60, 2) := by decide +kernel
theorem d_Tellings_init_39 : decode b_Tellings_init 39 = .ok (.newarray .long, 2) := by decide +kernel
theorem d_Tellings_init_41 : decode b_Tellings_init 41 = .ok (.putfield 24, 3) := by decide +kernel
theorem d_Tellings_init_44 : decode b_Tellings_init 44 = .ok (.aload_n 0, 1) := by decide +kernel
theorem d_Tellings_init_45 : decode b_Tellings_init 45 = .ok (.bipush 60, 2) := by decide +kernel
theorem d_Tellings_init_47 : decode b_Tellings_init 47 = .ok (.newarray .long, 2) := by decide +kernel
theorem d_Tellings_init_49 : decode b_Tellings_init 49 = .ok (.putfield 28, 3) := by decide +kernel
theorem d_Tellings_init_52 : decode b_Tellings_init 52 = .ok (.aload_n 0, 1) := by decide +kernel
theorem d_Tellings_init_53 : decode b_Tellings_init 53 = .ok (.bipush 60, 2) := by decide +kernel
theorem d_Tellings_init_55 : decode b_Tellings_init 55 = .ok (.newarray .long, 2) := by decide +kernel
theorem d_Tellings_init_57 : decode b_Tellings_init 57 = .ok (.putfield 31, 3) := by decide +kernel
theorem d_Tellings_init_60 : decode b_Tellings_init 60 = .ok (.return_, 1) := by decide +kernel
theorem d_Tellings_has_0 : decode b_Tellings_has 0 = .ok (.iconst 0, 1) := by decide +kernel
theorem d_Tellings_has_1 : decode b_Tellings_has 1 = .ok (.istore 9, 2) := by decide +kernel
theorem d_Tellings_has_3 : decode b_Tellings_has 3 = .ok (.iload 9, 2) := by decide +kernel
theorem d_Tellings_has_5 : decode b_Tellings_has 5 = .ok (.aload_n 0, 1) := by decide +kernel
theorem d_Tellings_has_6 : decode b_Tellings_has 6 = .ok (.getfield 34, 3) := by decide +kernel
theorem d_Tellings_has_9 : decode b_Tellings_has 9 = .ok (.if_icmp .ge 82, 3) := by decide +kernel
theorem d_Tellings_has_12 : decode b_Tellings_has 12 = .ok (.aload_n 0, 1) := by decide +kernel
theorem d_Tellings_has_13 : decode b_Tellings_has 13 = .ok (.getfield 9, 3) := by decide +kernel
theorem d_Tellings_has_16 : decode b_Tellings_has 16 = .ok (.iload 9, 2) := by decide +kernel
theorem d_Tellings_has_18 : decode b_Tellings_has 18 = .ok (.iaload, 1) := by decide +kernel
theorem d_Tellings_has_19 : decode b_Tellings_has 19 = .ok (.iload_n 1, 1) := by decide +kernel
theorem d_Tellings_has_20 : decode b_Tellings_has 20 = .ok (.if_icmp .ne 65, 3) := by decide +kernel
theorem d_Tellings_has_23 : decode b_Tellings_has 23 = .ok (.aload_n 0, 1) := by decide +kernel
theorem d_Tellings_has_24 : decode b_Tellings_has 24 = .ok (.getfield 15, 3) := by decide +kernel
theorem d_Tellings_has_27 : decode b_Tellings_has 27 = .ok (.iload 9, 2) := by decide +kernel
theorem d_Tellings_has_29 : decode b_Tellings_has 29 = .ok (.iaload, 1) := by decide +kernel
theorem d_Tellings_has_30 : decode b_Tellings_has 30 = .ok (.iload_n 2, 1) := by decide +kernel
theorem d_Tellings_has_31 : decode b_Tellings_has 31 = .ok (.if_icmp .ne 54, 3) := by decide +kernel
theorem d_Tellings_has_34 : decode b_Tellings_has 34 = .ok (.aload_n 0, 1) := by decide +kernel
theorem d_Tellings_has_35 : decode b_Tellings_has 35 = .ok (.getfield 18, 3) := by decide +kernel
theorem d_Tellings_has_38 : decode b_Tellings_has 38 = .ok (.iload 9, 2) := by decide +kernel
theorem d_Tellings_has_40 : decode b_Tellings_has 40 = .ok (.iaload, 1) := by decide +kernel
theorem d_Tellings_has_41 : decode b_Tellings_has 41 = .ok (.iload_n 3, 1) := by decide +kernel
theorem d_Tellings_has_42 : decode b_Tellings_has 42 = .ok (.if_icmp .ne 43, 3) := by decide +kernel
theorem d_Tellings_has_45 : decode b_Tellings_has 45 = .ok (.aload_n 0, 1) := by decide +kernel
theorem d_Tellings_has_46 : decode b_Tellings_has 46 = .ok (.getfield 21, 3) := by decide +kernel
theorem d_Tellings_has_49 : decode b_Tellings_has 49 = .ok (.iload 9, 2) := by decide +kernel
theorem d_Tellings_has_51 : decode b_Tellings_has 51 = .ok (.iaload, 1) := by decide +kernel
theorem d_Tellings_has_52 : decode b_Tellings_has 52 = .ok (.iload 4, 2) := by decide +kernel
theorem d_Tellings_has_54 : decode b_Tellings_has 54 = .ok (.if_icmp .ne 31, 3) := by decide +kernel
theorem d_Tellings_has_57 : decode b_Tellings_has 57 = .ok (.aload_n 0, 1) := by decide +kernel
theorem d_Tellings_has_58 : decode b_Tellings_has 58 = .ok (.getfield 24, 3) := by decide +kernel
theorem d_Tellings_has_61 : decode b_Tellings_has 61 = .ok (.iload 9, 2) := by decide +kernel
theorem d_Tellings_has_63 : decode b_Tellings_has 63 = .ok (.laload, 1) := by decide +kernel
theorem d_Tellings_has_64 : decode b_Tellings_has 64 = .ok (.lload 5, 2) := by decide +kernel
theorem d_Tellings_has_66 : decode b_Tellings_has 66 = .ok (.lcmp, 1) := by decide +kernel
theorem d_Tellings_has_67 : decode b_Tellings_has 67 = .ok (.ifCond .ne 18, 3) := by decide +kernel
theorem d_Tellings_has_70 : decode b_Tellings_has 70 = .ok (.aload_n 0, 1) := by decide +kernel
theorem d_Tellings_has_71 : decode b_Tellings_has 71 = .ok (.getfield 28, 3) := by decide +kernel
theorem d_Tellings_has_74 : decode b_Tellings_has 74 = .ok (.iload 9, 2) := by decide +kernel
theorem d_Tellings_has_76 : decode b_Tellings_has 76 = .ok (.laload, 1) := by decide +kernel
theorem d_Tellings_has_77 : decode b_Tellings_has 77 = .ok (.lload 7, 2) := by decide +kernel
theorem d_Tellings_has_79 : decode b_Tellings_has 79 = .ok (.lcmp, 1) := by decide +kernel
theorem d_Tellings_has_80 : decode b_Tellings_has 80 = .ok (.ifCond .ne 5, 3) := by decide +kernel
theorem d_Tellings_has_83 : decode b_Tellings_has 83 = .ok (.iconst 1, 1) := by decide +kernel
theorem d_Tellings_has_84 : decode b_Tellings_has 84 = .ok (.ireturn, 1) := by decide +kernel
theorem d_Tellings_has_85 : decode b_Tellings_has 85 = .ok (.iinc 9 1, 3) := by decide +kernel
theorem d_Tellings_has_88 : decode b_Tellings_has 88 = .ok (.goto (-85), 3) := by decide +kernel
theorem d_Tellings_has_91 : decode b_Tellings_has 91 = .ok (.iconst 0, 1) := by decide +kernel
theorem d_Tellings_has_92 : decode b_Tellings_has 92 = .ok (.ireturn, 1) := by decide +kernel
theorem d_Tellings_add_0 : decode b_Tellings_add 0 = .ok (.aload_n 0, 1) := by decide +kernel
theorem d_Tellings_add_1 : decode b_Tellings_add 1 = .ok (.getfield 34, 3) := by decide +kernel
theorem d_Tellings_add_4 : decode b_Tellings_add 4 = .ok (.bipush 60, 2) := by decide +kernel
theorem d_Tellings_add_6 : decode b_Tellings_add 6 = .ok (.if_icmp .lt 5, 3) := by decide +kernel
theorem d_Tellings_add_9 : decode b_Tellings_add 9 = .ok (.iconst 0, 1) := by decide +kernel
theorem d_Tellings_add_10 : decode b_Tellings_add 10 = .ok (.ireturn, 1) := by decide +kernel
theorem d_Tellings_add_11 : decode b_Tellings_add 11 = .ok (.aload_n 0, 1) := by decide +kernel
theorem d_Tellings_add_12 : decode b_Tellings_add 12 = .ok (.getfield 9, 3) := by decide +kernel
theorem d_Tellings_add_15 : decode b_Tellings_add 15 = .ok (.aload_n 0, 1) := by decide +kernel
theorem d_Tellings_add_16 : decode b_Tellings_add 16 = .ok (.getfield 34, 3) := by decide +kernel
theorem d_Tellings_add_19 : decode b_Tellings_add 19 = .ok (.iload_n 1, 1) := by decide +kernel
theorem d_Tellings_add_20 : decode b_Tellings_add 20 = .ok (.iastore, 1) := by decide +kernel
theorem d_Tellings_add_21 : decode b_Tellings_add 21 = .ok (.aload_n 0, 1) := by decide +kernel
theorem d_Tellings_add_22 : decode b_Tellings_add 22 = .ok (.getfield 15, 3) := by decide +kernel
theorem d_Tellings_add_25 : decode b_Tellings_add 25 = .ok (.aload_n 0, 1) := by decide +kernel
theorem d_Tellings_add_26 : decode b_Tellings_add 26 = .ok (.getfield 34, 3) := by decide +kernel
theorem d_Tellings_add_29 : decode b_Tellings_add 29 = .ok (.iload_n 2, 1) := by decide +kernel
theorem d_Tellings_add_30 : decode b_Tellings_add 30 = .ok (.iastore, 1) := by decide +kernel
theorem d_Tellings_add_31 : decode b_Tellings_add 31 = .ok (.aload_n 0, 1) := by decide +kernel
theorem d_Tellings_add_32 : decode b_Tellings_add 32 = .ok (.getfield 18, 3) := by decide +kernel
theorem d_Tellings_add_35 : decode b_Tellings_add 35 = .ok (.aload_n 0, 1) := by decide +kernel
theorem d_Tellings_add_36 : decode b_Tellings_add 36 = .ok (.getfield 34, 3) := by decide +kernel
theorem d_Tellings_add_39 : decode b_Tellings_add 39 = .ok (.iload_n 3, 1) := by decide +kernel
theorem d_Tellings_add_40 : decode b_Tellings_add 40 = .ok (.iastore, 1) := by decide +kernel
theorem d_Tellings_add_41 : decode b_Tellings_add 41 = .ok (.aload_n 0, 1) := by decide +kernel
theorem d_Tellings_add_42 : decode b_Tellings_add 42 = .ok (.getfield 21, 3) := by decide +kernel
theorem d_Tellings_add_45 : decode b_Tellings_add 45 = .ok (.aload_n 0, 1) := by decide +kernel
theorem d_Tellings_add_46 : decode b_Tellings_add 46 = .ok (.getfield 34, 3) := by decide +kernel
theorem d_Tellings_add_49 : decode b_Tellings_add 49 = .ok (.iload 4, 2) := by decide +kernel
theorem d_Tellings_add_51 : decode b_Tellings_add 51 = .ok (.iastore, 1) := by decide +kernel
theorem d_Tellings_add_52 : decode b_Tellings_add 52 = .ok (.aload_n 0, 1) := by decide +kernel
theorem d_Tellings_add_53 : decode b_Tellings_add 53 = .ok (.getfield 24, 3) := by decide +kernel
theorem d_Tellings_add_56 : decode b_Tellings_add 56 = .ok (.aload_n 0, 1) := by decide +kernel
theorem d_Tellings_add_57 : decode b_Tellings_add 57 = .ok (.getfield 34, 3) := by decide +kernel
theorem d_Tellings_add_60 : decode b_Tellings_add 60 = .ok (.lload 5, 2) := by decide +kernel
theorem d_Tellings_add_62 : decode b_Tellings_add 62 = .ok (.lastore, 1) := by decide +kernel
theorem d_Tellings_add_63 : decode b_Tellings_add 63 = .ok (.aload_n 0, 1) := by decide +kernel
theorem d_Tellings_add_64 : decode b_Tellings_add 64 = .ok (.getfield 28, 3) := by decide +kernel
theorem d_Tellings_add_67 : decode b_Tellings_add 67 = .ok (.aload_n 0, 1) := by decide +kernel
theorem d_Tellings_add_68 : decode b_Tellings_add 68 = .ok (.getfield 34, 3) := by decide +kernel
theorem d_Tellings_add_71 : decode b_Tellings_add 71 = .ok (.lload 7, 2) := by decide +kernel
theorem d_Tellings_add_73 : decode b_Tellings_add 73 = .ok (.lastore, 1) := by decide +kernel
theorem d_Tellings_add_74 : decode b_Tellings_add 74 = .ok (.aload_n 0, 1) := by decide +kernel
theorem d_Tellings_add_75 : decode b_Tellings_add 75 = .ok (.getfield 31, 3) := by decide +kernel
theorem d_Tellings_add_78 : decode b_Tellings_add 78 = .ok (.aload_n 0, 1) := by decide +kernel
theorem d_Tellings_add_79 : decode b_Tellings_add 79 = .ok (.getfield 34, 3) := by decide +kernel
theorem d_Tellings_add_82 : decode b_Tellings_add 82 = .ok (.lload 9, 2) := by decide +kernel
theorem d_Tellings_add_84 : decode b_Tellings_add 84 = .ok (.lastore, 1) := by decide +kernel
theorem d_Tellings_add_85 : decode b_Tellings_add 85 = .ok (.aload_n 0, 1) := by decide +kernel
theorem d_Tellings_add_86 : decode b_Tellings_add 86 = .ok (.dup, 1) := by decide +kernel
theorem d_Tellings_add_87 : decode b_Tellings_add 87 = .ok (.getfield 34, 3) := by decide +kernel
theorem d_Tellings_add_90 : decode b_Tellings_add 90 = .ok (.iconst 1, 1) := by decide +kernel
theorem d_Tellings_add_91 : decode b_Tellings_add 91 = .ok (.iadd, 1) := by decide +kernel
theorem d_Tellings_add_92 : decode b_Tellings_add 92 = .ok (.putfield 34, 3) := by decide +kernel
theorem d_Tellings_add_95 : decode b_Tellings_add 95 = .ok (.iconst 1, 1) := by decide +kernel
theorem d_Tellings_add_96 : decode b_Tellings_add 96 = .ok (.ireturn, 1) := by decide +kernel
theorem d_Tellings_ofDevice_0 : decode b_Tellings_ofDevice 0 = .ok (.lconst 0, 1) := by decide +kernel
theorem d_Tellings_ofDevice_1 : decode b_Tellings_ofDevice 1 = .ok (.lstore_n 2, 1) := by decide +kernel
theorem d_Tellings_ofDevice_2 : decode b_Tellings_ofDevice 2 = .ok (.iconst 0, 1) := by decide +kernel
theorem d_Tellings_ofDevice_3 : decode b_Tellings_ofDevice 3 = .ok (.istore 4, 2) := by decide +kernel
theorem d_Tellings_ofDevice_5 : decode b_Tellings_ofDevice 5 = .ok (.iload 4, 2) := by decide +kernel
theorem d_Tellings_ofDevice_7 : decode b_Tellings_ofDevice 7 = .ok (.aload_n 0, 1) := by decide +kernel
theorem d_Tellings_ofDevice_8 : decode b_Tellings_ofDevice 8 = .ok (.getfield 34, 3) := by decide +kernel
theorem d_Tellings_ofDevice_11 : decode b_Tellings_ofDevice 11 = .ok (.if_icmp .ge 28, 3) := by decide +kernel
theorem d_Tellings_ofDevice_14 : decode b_Tellings_ofDevice 14 = .ok (.aload_n 0, 1) := by decide +kernel
theorem d_Tellings_ofDevice_15 : decode b_Tellings_ofDevice 15 = .ok (.getfield 9, 3) := by decide +kernel
theorem d_Tellings_ofDevice_18 : decode b_Tellings_ofDevice 18 = .ok (.iload 4, 2) := by decide +kernel
theorem d_Tellings_ofDevice_20 : decode b_Tellings_ofDevice 20 = .ok (.iaload, 1) := by decide +kernel
theorem d_Tellings_ofDevice_21 : decode b_Tellings_ofDevice 21 = .ok (.iload_n 1, 1) := by decide +kernel
theorem d_Tellings_ofDevice_22 : decode b_Tellings_ofDevice 22 = .ok (.if_icmp .ne 11, 3) := by decide +kernel
theorem d_Tellings_ofDevice_25 : decode b_Tellings_ofDevice 25 = .ok (.lload_n 2, 1) := by decide +kernel
theorem d_Tellings_ofDevice_26 : decode b_Tellings_ofDevice 26 = .ok (.iload 4, 2) := by decide +kernel
theorem d_Tellings_ofDevice_28 : decode b_Tellings_ofDevice 28 = .ok (.invokestatic 38, 3) := by decide +kernel
theorem d_Tellings_ofDevice_31 : decode b_Tellings_ofDevice 31 = .ok (.lor, 1) := by decide +kernel
theorem d_Tellings_ofDevice_32 : decode b_Tellings_ofDevice 32 = .ok (.lstore_n 2, 1) := by decide +kernel
theorem d_Tellings_ofDevice_33 : decode b_Tellings_ofDevice 33 = .ok (.iinc 4 1, 3) := by decide +kernel
theorem d_Tellings_ofDevice_36 : decode b_Tellings_ofDevice 36 = .ok (.goto (-31), 3) := by decide +kernel
theorem d_Tellings_ofDevice_39 : decode b_Tellings_ofDevice 39 = .ok (.lload_n 2, 1) := by decide +kernel
theorem d_Tellings_ofDevice_40 : decode b_Tellings_ofDevice 40 = .ok (.lreturn, 1) := by decide +kernel
theorem d_Tellings_ofKind_0 : decode b_Tellings_ofKind 0 = .ok (.lconst 0, 1) := by decide +kernel
theorem d_Tellings_ofKind_1 : decode b_Tellings_ofKind 1 = .ok (.lstore_n 3, 1) := by decide +kernel
theorem d_Tellings_ofKind_2 : decode b_Tellings_ofKind 2 = .ok (.iconst 0, 1) := by decide +kernel
theorem d_Tellings_ofKind_3 : decode b_Tellings_ofKind 3 = .ok (.istore 5, 2) := by decide +kernel
theorem d_Tellings_ofKind_5 : decode b_Tellings_ofKind 5 = .ok (.iload 5, 2) := by decide +kernel
theorem d_Tellings_ofKind_7 : decode b_Tellings_ofKind 7 = .ok (.aload_n 0, 1) := by decide +kernel
theorem d_Tellings_ofKind_8 : decode b_Tellings_ofKind 8 = .ok (.getfield 34, 3) := by decide +kernel
theorem d_Tellings_ofKind_11 : decode b_Tellings_ofKind 11 = .ok (.if_icmp .ge 39, 3) := by decide +kernel
theorem d_Tellings_ofKind_14 : decode b_Tellings_ofKind 14 = .ok (.aload_n 0, 1) := by decide +kernel
theorem d_Tellings_ofKind_15 : decode b_Tellings_ofKind 15 = .ok (.getfield 9, 3) := by decide +kernel
theorem d_Tellings_ofKind_18 : decode b_Tellings_ofKind 18 = .ok (.iload 5, 2) := by decide +kernel
theorem d_Tellings_ofKind_20 : decode b_Tellings_ofKind 20 = .ok (.iaload, 1) := by decide +kernel
theorem d_Tellings_ofKind_21 : decode b_Tellings_ofKind 21 = .ok (.iload_n 1, 1) := by decide +kernel
theorem d_Tellings_ofKind_22 : decode b_Tellings_ofKind 22 = .ok (.if_icmp .ne 22, 3) := by decide +kernel
theorem d_Tellings_ofKind_25 : decode b_Tellings_ofKind 25 = .ok (.aload_n 0, 1) := by decide +kernel
theorem d_Tellings_ofKind_26 : decode b_Tellings_ofKind 26 = .ok (.getfield 21, 3) := by decide +kernel
theorem d_Tellings_ofKind_29 : decode b_Tellings_ofKind 29 = .ok (.iload 5, 2) := by decide +kernel
theorem d_Tellings_ofKind_31 : decode b_Tellings_ofKind 31 = .ok (.iaload, 1) := by decide +kernel
theorem d_Tellings_ofKind_32 : decode b_Tellings_ofKind 32 = .ok (.iload_n 2, 1) := by decide +kernel
theorem d_Tellings_ofKind_33 : decode b_Tellings_ofKind 33 = .ok (.if_icmp .ne 11, 3) := by decide +kernel
theorem d_Tellings_ofKind_36 : decode b_Tellings_ofKind 36 = .ok (.lload_n 3, 1) := by decide +kernel
theorem d_Tellings_ofKind_37 : decode b_Tellings_ofKind 37 = .ok (.iload 5, 2) := by decide +kernel
theorem d_Tellings_ofKind_39 : decode b_Tellings_ofKind 39 = .ok (.invokestatic 38, 3) := by decide +kernel
theorem d_Tellings_ofKind_42 : decode b_Tellings_ofKind 42 = .ok (.lor, 1) := by decide +kernel
theorem d_Tellings_ofKind_43 : decode b_Tellings_ofKind 43 = .ok (.lstore_n 3, 1) := by decide +kernel
theorem d_Tellings_ofKind_44 : decode b_Tellings_ofKind 44 = .ok (.iinc 5 1, 3) := by decide +kernel
theorem d_Tellings_ofKind_47 : decode b_Tellings_ofKind 47 = .ok (.goto (-42), 3) := by decide +kernel
theorem d_Tellings_ofKind_50 : decode b_Tellings_ofKind 50 = .ok (.lload_n 3, 1) := by decide +kernel
theorem d_Tellings_ofKind_51 : decode b_Tellings_ofKind 51 = .ok (.lreturn, 1) := by decide +kernel
theorem d_Tellings_notBelow_0 : decode b_Tellings_notBelow 0 = .ok (.lconst 0, 1) := by decide +kernel
theorem d_Tellings_notBelow_1 : decode b_Tellings_notBelow 1 = .ok (.lstore 5, 2) := by decide +kernel
theorem d_Tellings_notBelow_3 : decode b_Tellings_notBelow 3 = .ok (.iconst 0, 1) := by decide +kernel
theorem d_Tellings_notBelow_4 : decode b_Tellings_notBelow 4 = .ok (.istore 7, 2) := by decide +kernel
theorem d_Tellings_notBelow_6 : decode b_Tellings_notBelow 6 = .ok (.iload 7, 2) := by decide +kernel
theorem d_Tellings_notBelow_8 : decode b_Tellings_notBelow 8 = .ok (.aload_n 0, 1) := by decide +kernel
theorem d_Tellings_notBelow_9 : decode b_Tellings_notBelow 9 = .ok (.getfield 34, 3) := by decide +kernel
theorem d_Tellings_notBelow_12 : decode b_Tellings_notBelow 12 = .ok (.if_icmp .ge 40, 3) := by decide +kernel
theorem d_Tellings_notBelow_15 : decode b_Tellings_notBelow 15 = .ok (.iload 7, 2) := by decide +kernel
theorem d_Tellings_notBelow_17 : decode b_Tellings_notBelow 17 = .ok (.lload_n 3, 1) := by decide +kernel
theorem d_Tellings_notBelow_18 : decode b_Tellings_notBelow 18 = .ok (.invokestatic 42, 3) := by decide +kernel
theorem d_Tellings_notBelow_21 : decode b_Tellings_notBelow 21 = .ok (.ifCond .eq 25, 3) := by decide +kernel
theorem d_Tellings_notBelow_24 : decode b_Tellings_notBelow 24 = .ok (.aload_n 0, 1) := by decide +kernel
theorem d_Tellings_notBelow_25 : decode b_Tellings_notBelow 25 = .ok (.getfield 24, 3) := by decide +kernel
theorem d_Tellings_notBelow_28 : decode b_Tellings_notBelow 28 = .ok (.iload 7, 2) := by decide +kernel
theorem d_Tellings_notBelow_30 : decode b_Tellings_notBelow 30 = .ok (.laload, 1) := by decide +kernel
theorem d_Tellings_notBelow_31 : decode b_Tellings_notBelow 31 = .ok (.lload_n 1, 1) := by decide +kernel
theorem d_Tellings_notBelow_32 : decode b_Tellings_notBelow 32 = .ok (.lcmp, 1) := by decide +kernel
theorem d_Tellings_notBelow_33 : decode b_Tellings_notBelow 33 = .ok (.ifCond .lt 13, 3) := by decide +kernel
theorem d_Tellings_notBelow_36 : decode b_Tellings_notBelow 36 = .ok (.lload 5, 2) := by decide +kernel
theorem d_Tellings_notBelow_38 : decode b_Tellings_notBelow 38 = .ok (.iload 7, 2) := by decide +kernel
theorem d_Tellings_notBelow_40 : decode b_Tellings_notBelow 40 = .ok (.invokestatic 38, 3) := by decide +kernel
theorem d_Tellings_notBelow_43 : decode b_Tellings_notBelow 43 = .ok (.lor, 1) := by decide +kernel
theorem d_Tellings_notBelow_44 : decode b_Tellings_notBelow 44 = .ok (.lstore 5, 2) := by decide +kernel
theorem d_Tellings_notBelow_46 : decode b_Tellings_notBelow 46 = .ok (.iinc 7 1, 3) := by decide +kernel
theorem d_Tellings_notBelow_49 : decode b_Tellings_notBelow 49 = .ok (.goto (-43), 3) := by decide +kernel
theorem d_Tellings_notBelow_52 : decode b_Tellings_notBelow 52 = .ok (.lload 5, 2) := by decide +kernel
theorem d_Tellings_notBelow_54 : decode b_Tellings_notBelow 54 = .ok (.lreturn, 1) := by decide +kernel
theorem d_Tellings_ofKeyOf_0 : decode b_Tellings_ofKeyOf 0 = .ok (.lconst 0, 1) := by decide +kernel
theorem d_Tellings_ofKeyOf_1 : decode b_Tellings_ofKeyOf 1 = .ok (.lstore 4, 2) := by decide +kernel
theorem d_Tellings_ofKeyOf_3 : decode b_Tellings_ofKeyOf 3 = .ok (.iconst 0, 1) := by decide +kernel
theorem d_Tellings_ofKeyOf_4 : decode b_Tellings_ofKeyOf 4 = .ok (.istore 6, 2) := by decide +kernel
theorem d_Tellings_ofKeyOf_6 : decode b_Tellings_ofKeyOf 6 = .ok (.iload 6, 2) := by decide +kernel
theorem d_Tellings_ofKeyOf_8 : decode b_Tellings_ofKeyOf 8 = .ok (.aload_n 0, 1) := by decide +kernel
theorem d_Tellings_ofKeyOf_9 : decode b_Tellings_ofKeyOf 9 = .ok (.getfield 34, 3) := by decide +kernel
theorem d_Tellings_ofKeyOf_12 : decode b_Tellings_ofKeyOf 12 = .ok (.if_icmp .ge 92, 3) := by decide +kernel
theorem d_Tellings_ofKeyOf_15 : decode b_Tellings_ofKeyOf 15 = .ok (.iload 6, 2) := by decide +kernel
theorem d_Tellings_ofKeyOf_17 : decode b_Tellings_ofKeyOf 17 = .ok (.lload_n 2, 1) := by decide +kernel
theorem d_Tellings_ofKeyOf_18 : decode b_Tellings_ofKeyOf 18 = .ok (.invokestatic 42, 3) := by decide +kernel
theorem d_Tellings_ofKeyOf_21 : decode b_Tellings_ofKeyOf 21 = .ok (.ifCond .eq 77, 3) := by decide +kernel
theorem d_Tellings_ofKeyOf_24 : decode b_Tellings_ofKeyOf 24 = .ok (.aload_n 0, 1) := by decide +kernel
theorem d_Tellings_ofKeyOf_25 : decode b_Tellings_ofKeyOf 25 = .ok (.getfield 9, 3) := by decide +kernel
theorem d_Tellings_ofKeyOf_28 : decode b_Tellings_ofKeyOf 28 = .ok (.iload 6, 2) := by decide +kernel
theorem d_Tellings_ofKeyOf_30 : decode b_Tellings_ofKeyOf 30 = .ok (.iaload, 1) := by decide +kernel
theorem d_Tellings_ofKeyOf_31 : decode b_Tellings_ofKeyOf 31 = .ok (.aload_n 0, 1) := by decide +kernel
theorem d_Tellings_ofKeyOf_32 : decode b_Tellings_ofKeyOf 32 = .ok (.getfield 9, 3) := by decide +kernel
theorem d_Tellings_ofKeyOf_35 : decode b_Tellings_ofKeyOf 35 = .ok (.iload_n 1, 1) := by decide +kernel
theorem d_Tellings_ofKeyOf_36 : decode b_Tellings_ofKeyOf 36 = .ok (.iaload, 1) := by decide +kernel
theorem d_Tellings_ofKeyOf_37 : decode b_Tellings_ofKeyOf 37 = .ok (.if_icmp .ne 61, 3) := by decide +kernel
theorem d_Tellings_ofKeyOf_40 : decode b_Tellings_ofKeyOf 40 = .ok (.aload_n 0, 1) := by decide +kernel
theorem d_Tellings_ofKeyOf_41 : decode b_Tellings_ofKeyOf 41 = .ok (.getfield 15, 3) := by decide +kernel
theorem d_Tellings_ofKeyOf_44 : decode b_Tellings_ofKeyOf 44 = .ok (.iload 6, 2) := by decide +kernel
theorem d_Tellings_ofKeyOf_46 : decode b_Tellings_ofKeyOf 46 = .ok (.iaload, 1) := by decide +kernel
theorem d_Tellings_ofKeyOf_47 : decode b_Tellings_ofKeyOf 47 = .ok (.aload_n 0, 1) := by decide +kernel
theorem d_Tellings_ofKeyOf_48 : decode b_Tellings_ofKeyOf 48 = .ok (.getfield 15, 3) := by decide +kernel
theorem d_Tellings_ofKeyOf_51 : decode b_Tellings_ofKeyOf 51 = .ok (.iload_n 1, 1) := by decide +kernel
theorem d_Tellings_ofKeyOf_52 : decode b_Tellings_ofKeyOf 52 = .ok (.iaload, 1) := by decide +kernel
theorem d_Tellings_ofKeyOf_53 : decode b_Tellings_ofKeyOf 53 = .ok (.if_icmp .ne 45, 3) := by decide +kernel
theorem d_Tellings_ofKeyOf_56 : decode b_Tellings_ofKeyOf 56 = .ok (.aload_n 0, 1) := by decide +kernel
theorem d_Tellings_ofKeyOf_57 : decode b_Tellings_ofKeyOf 57 = .ok (.getfield 18, 3) := by decide +kernel
theorem d_Tellings_ofKeyOf_60 : decode b_Tellings_ofKeyOf 60 = .ok (.iload 6, 2) := by decide +kernel
theorem d_Tellings_ofKeyOf_62 : decode b_Tellings_ofKeyOf 62 = .ok (.iaload, 1) := by decide +kernel
theorem d_Tellings_ofKeyOf_63 : decode b_Tellings_ofKeyOf 63 = .ok (.aload_n 0, 1) := by decide +kernel
theorem d_Tellings_ofKeyOf_64 : decode b_Tellings_ofKeyOf 64 = .ok (.getfield 18, 3) := by decide +kernel
theorem d_Tellings_ofKeyOf_67 : decode b_Tellings_ofKeyOf 67 = .ok (.iload_n 1, 1) := by decide +kernel
theorem d_Tellings_ofKeyOf_68 : decode b_Tellings_ofKeyOf 68 = .ok (.iaload, 1) := by decide +kernel
theorem d_Tellings_ofKeyOf_69 : decode b_Tellings_ofKeyOf 69 = .ok (.if_icmp .ne 29, 3) := by decide +kernel
theorem d_Tellings_ofKeyOf_72 : decode b_Tellings_ofKeyOf 72 = .ok (.aload_n 0, 1) := by decide +kernel
theorem d_Tellings_ofKeyOf_73 : decode b_Tellings_ofKeyOf 73 = .ok (.getfield 21, 3) := by decide +kernel
theorem d_Tellings_ofKeyOf_76 : decode b_Tellings_ofKeyOf 76 = .ok (.iload 6, 2) := by decide +kernel
theorem d_Tellings_ofKeyOf_78 : decode b_Tellings_ofKeyOf 78 = .ok (.iaload, 1) := by decide +kernel
theorem d_Tellings_ofKeyOf_79 : decode b_Tellings_ofKeyOf 79 = .ok (.aload_n 0, 1) := by decide +kernel
theorem d_Tellings_ofKeyOf_80 : decode b_Tellings_ofKeyOf 80 = .ok (.getfield 21, 3) := by decide +kernel
theorem d_Tellings_ofKeyOf_83 : decode b_Tellings_ofKeyOf 83 = .ok (.iload_n 1, 1) := by decide +kernel
theorem d_Tellings_ofKeyOf_84 : decode b_Tellings_ofKeyOf 84 = .ok (.iaload, 1) := by decide +kernel
theorem d_Tellings_ofKeyOf_85 : decode b_Tellings_ofKeyOf 85 = .ok (.if_icmp .ne 13, 3) := by decide +kernel
theorem d_Tellings_ofKeyOf_88 : decode b_Tellings_ofKeyOf 88 = .ok (.lload 4, 2) := by decide +kernel
theorem d_Tellings_ofKeyOf_90 : decode b_Tellings_ofKeyOf 90 = .ok (.iload 6, 2) := by decide +kernel
theorem d_Tellings_ofKeyOf_92 : decode b_Tellings_ofKeyOf 92 = .ok (.invokestatic 38, 3) := by decide +kernel
theorem d_Tellings_ofKeyOf_95 : decode b_Tellings_ofKeyOf 95 = .ok (.lor, 1) := by decide +kernel
theorem d_Tellings_ofKeyOf_96 : decode b_Tellings_ofKeyOf 96 = .ok (.lstore 4, 2) := by decide +kernel
theorem d_Tellings_ofKeyOf_98 : decode b_Tellings_ofKeyOf 98 = .ok (.iinc 6 1, 3) := by decide +kernel
theorem d_Tellings_ofKeyOf_101 : decode b_Tellings_ofKeyOf 101 = .ok (.goto (-95), 3) := by decide +kernel
theorem d_Tellings_ofKeyOf_104 : decode b_Tellings_ofKeyOf 104 = .ok (.lload 4, 2) := by decide +kernel
theorem d_Tellings_ofKeyOf_106 : decode b_Tellings_ofKeyOf 106 = .ok (.lreturn, 1) := by decide +kernel
theorem d_Tellings_unsettled_0 : decode b_Tellings_unsettled 0 = .ok (.lconst 0, 1) := by decide +kernel
theorem d_Tellings_unsettled_1 : decode b_Tellings_unsettled 1 = .ok (.lstore 5, 2) := by decide +kernel
theorem d_Tellings_unsettled_3 : decode b_Tellings_unsettled 3 = .ok (.lload_n 1, 1) := by decide +kernel
theorem d_Tellings_unsettled_4 : decode b_Tellings_unsettled 4 = .ok (.lstore 7, 2) := by decide +kernel
theorem d_Tellings_unsettled_6 : decode b_Tellings_unsettled 6 = .ok (.iconst 0, 1) := by decide +kernel
theorem d_Tellings_unsettled_7 : decode b_Tellings_unsettled 7 = .ok (.istore 9, 2) := by decide +kernel
theorem d_Tellings_unsettled_9 : decode b_Tellings_unsettled 9 = .ok (.iload 9, 2) := by decide +kernel
theorem d_Tellings_unsettled_11 : decode b_Tellings_unsettled 11 = .ok (.aload_n 0, 1) := by decide +kernel
theorem d_Tellings_unsettled_12 : decode b_Tellings_unsettled 12 = .ok (.getfield 34, 3) := by decide +kernel
theorem d_Tellings_unsettled_15 : decode b_Tellings_unsettled 15 = .ok (.if_icmp .ge 69, 3) := by decide +kernel
theorem d_Tellings_unsettled_18 : decode b_Tellings_unsettled 18 = .ok (.iload 9, 2) := by decide +kernel
theorem d_Tellings_unsettled_20 : decode b_Tellings_unsettled 20 = .ok (.lload 7, 2) := by decide +kernel
theorem d_Tellings_unsettled_22 : decode b_Tellings_unsettled 22 = .ok (.invokestatic 42, 3) := by decide +kernel
theorem d_Tellings_unsettled_25 : decode b_Tellings_unsettled 25 = .ok (.ifCond .eq 53, 3) := by decide +kernel
theorem d_Tellings_unsettled_28 : decode b_Tellings_unsettled 28 = .ok (.aload_n 0, 1) := by decide +kernel
theorem d_Tellings_unsettled_29 : decode b_Tellings_unsettled 29 = .ok (.iload 9, 2) := by decide +kernel
theorem d_Tellings_unsettled_31 : decode b_Tellings_unsettled 31 = .ok (.lload_n 1, 1) := by decide +kernel
theorem d_Tellings_unsettled_32 : decode b_Tellings_unsettled 32 = .ok (.invokevirtual 46, 3) := by decide +kernel
theorem d_Tellings_unsettled_35 : decode b_Tellings_unsettled 35 = .ok (.lstore 10, 2) := by decide +kernel
theorem d_Tellings_unsettled_37 : decode b_Tellings_unsettled 37 = .ok (.lload 7, 2) := by decide +kernel
theorem d_Tellings_unsettled_39 : decode b_Tellings_unsettled 39 = .ok (.lload 10, 2) := by decide +kernel
theorem d_Tellings_unsettled_41 : decode b_Tellings_unsettled 41 = .ok (.ldc2_w 50, 3) := by decide +kernel
theorem d_Tellings_unsettled_44 : decode b_Tellings_unsettled 44 = .ok (.lxor, 1) := by decide +kernel
theorem d_Tellings_unsettled_45 : decode b_Tellings_unsettled 45 = .ok (.land, 1) := by decide +kernel
theorem d_Tellings_unsettled_46 : decode b_Tellings_unsettled 46 = .ok (.lstore 7, 2) := by decide +kernel
theorem d_Tellings_unsettled_48 : decode b_Tellings_unsettled 48 = .ok (.lload 10, 2) := by decide +kernel
theorem d_Tellings_unsettled_50 : decode b_Tellings_unsettled 50 = .ok (.iload 9, 2) := by decide +kernel
theorem d_Tellings_unsettled_52 : decode b_Tellings_unsettled 52 = .ok (.invokestatic 38, 3) := by decide +kernel
theorem d_Tellings_unsettled_55 : decode b_Tellings_unsettled 55 = .ok (.lcmp, 1) := by decide +kernel
theorem d_Tellings_unsettled_56 : decode b_Tellings_unsettled 56 = .ok (.ifCond .eq 22, 3) := by decide +kernel
theorem d_Tellings_unsettled_59 : decode b_Tellings_unsettled 59 = .ok (.lload 10, 2) := by decide +kernel
theorem d_Tellings_unsettled_61 : decode b_Tellings_unsettled 61 = .ok (.lload_n 3, 1) := by decide +kernel
theorem d_Tellings_unsettled_62 : decode b_Tellings_unsettled 62 = .ok (.land, 1) := by decide +kernel
theorem d_Tellings_unsettled_63 : decode b_Tellings_unsettled 63 = .ok (.lconst 0, 1) := by decide +kernel
theorem d_Tellings_unsettled_64 : decode b_Tellings_unsettled 64 = .ok (.lcmp, 1) := by decide +kernel
theorem d_Tellings_unsettled_65 : decode b_Tellings_unsettled 65 = .ok (.ifCond .ne 13, 3) := by decide +kernel
theorem d_Tellings_unsettled_68 : decode b_Tellings_unsettled 68 = .ok (.lload 5, 2) := by decide +kernel
theorem d_Tellings_unsettled_70 : decode b_Tellings_unsettled 70 = .ok (.iload 9, 2) := by decide +kernel
theorem d_Tellings_unsettled_72 : decode b_Tellings_unsettled 72 = .ok (.invokestatic 38, 3) := by decide +kernel
theorem d_Tellings_unsettled_75 : decode b_Tellings_unsettled 75 = .ok (.lor, 1) := by decide +kernel
theorem d_Tellings_unsettled_76 : decode b_Tellings_unsettled 76 = .ok (.lstore 5, 2) := by decide +kernel
theorem d_Tellings_unsettled_78 : decode b_Tellings_unsettled 78 = .ok (.iinc 9 1, 3) := by decide +kernel
theorem d_Tellings_unsettled_81 : decode b_Tellings_unsettled 81 = .ok (.goto (-72), 3) := by decide +kernel
theorem d_Tellings_unsettled_84 : decode b_Tellings_unsettled 84 = .ok (.lload 5, 2) := by decide +kernel
theorem d_Tellings_unsettled_86 : decode b_Tellings_unsettled 86 = .ok (.lreturn, 1) := by decide +kernel
theorem d_Tellings_holding_0 : decode b_Tellings_holding 0 = .ok (.lconst 0, 1) := by decide +kernel
theorem d_Tellings_holding_1 : decode b_Tellings_holding 1 = .ok (.lstore 5, 2) := by decide +kernel
theorem d_Tellings_holding_3 : decode b_Tellings_holding 3 = .ok (.iconst 0, 1) := by decide +kernel
theorem d_Tellings_holding_4 : decode b_Tellings_holding 4 = .ok (.istore 7, 2) := by decide +kernel
theorem d_Tellings_holding_6 : decode b_Tellings_holding 6 = .ok (.iload 7, 2) := by decide +kernel
theorem d_Tellings_holding_8 : decode b_Tellings_holding 8 = .ok (.aload_n 0, 1) := by decide +kernel
theorem d_Tellings_holding_9 : decode b_Tellings_holding 9 = .ok (.getfield 34, 3) := by decide +kernel
theorem d_Tellings_holding_12 : decode b_Tellings_holding 12 = .ok (.if_icmp .ge 61, 3) := by decide +kernel
theorem d_Tellings_holding_15 : decode b_Tellings_holding 15 = .ok (.iload 7, 2) := by decide +kernel
theorem d_Tellings_holding_17 : decode b_Tellings_holding 17 = .ok (.lload_n 1, 1) := by decide +kernel
theorem d_Tellings_holding_18 : decode b_Tellings_holding 18 = .ok (.invokestatic 42, 3) := by decide +kernel
theorem d_Tellings_holding_21 : decode b_Tellings_holding 21 = .ok (.ifCond .eq 46, 3) := by decide +kernel
theorem d_Tellings_holding_24 : decode b_Tellings_holding 24 = .ok (.aload_n 0, 1) := by decide +kernel
theorem d_Tellings_holding_25 : decode b_Tellings_holding 25 = .ok (.iload 7, 2) := by decide +kernel
theorem d_Tellings_holding_27 : decode b_Tellings_holding 27 = .ok (.lload_n 1, 1) := by decide +kernel
theorem d_Tellings_holding_28 : decode b_Tellings_holding 28 = .ok (.invokevirtual 46, 3) := by decide +kernel
theorem d_Tellings_holding_31 : decode b_Tellings_holding 31 = .ok (.lstore 8, 2) := by decide +kernel
theorem d_Tellings_holding_33 : decode b_Tellings_holding 33 = .ok (.lload 8, 2) := by decide +kernel
theorem d_Tellings_holding_35 : decode b_Tellings_holding 35 = .ok (.iload 7, 2) := by decide +kernel
theorem d_Tellings_holding_37 : decode b_Tellings_holding 37 = .ok (.invokestatic 38, 3) := by decide +kernel
theorem d_Tellings_holding_40 : decode b_Tellings_holding 40 = .ok (.lcmp, 1) := by decide +kernel
theorem d_Tellings_holding_41 : decode b_Tellings_holding 41 = .ok (.ifCond .eq 16, 3) := by decide +kernel
theorem d_Tellings_holding_44 : decode b_Tellings_holding 44 = .ok (.aload_n 0, 1) := by decide +kernel
theorem d_Tellings_holding_45 : decode b_Tellings_holding 45 = .ok (.lload 8, 2) := by decide +kernel
theorem d_Tellings_holding_47 : decode b_Tellings_holding 47 = .ok (.lload_n 3, 1) := by decide +kernel
theorem d_Tellings_holding_48 : decode b_Tellings_holding 48 = .ok (.land, 1) := by decide +kernel
theorem d_Tellings_holding_49 : decode b_Tellings_holding 49 = .ok (.invokevirtual 52, 3) := by decide +kernel
theorem d_Tellings_holding_52 : decode b_Tellings_holding 52 = .ok (.iload 7, 2) := by decide +kernel
theorem d_Tellings_holding_54 : decode b_Tellings_holding 54 = .ok (.if_icmp .ne 13, 3) := by decide +kernel
theorem d_Tellings_holding_57 : decode b_Tellings_holding 57 = .ok (.lload 5, 2) := by decide +kernel
theorem d_Tellings_holding_59 : decode b_Tellings_holding 59 = .ok (.iload 7, 2) := by decide +kernel
theorem d_Tellings_holding_61 : decode b_Tellings_holding 61 = .ok (.invokestatic 38, 3) := by decide +kernel
theorem d_Tellings_holding_64 : decode b_Tellings_holding 64 = .ok (.lor, 1) := by decide +kernel
theorem d_Tellings_holding_65 : decode b_Tellings_holding 65 = .ok (.lstore 5, 2) := by decide +kernel
theorem d_Tellings_holding_67 : decode b_Tellings_holding 67 = .ok (.iinc 7 1, 3) := by decide +kernel
theorem d_Tellings_holding_70 : decode b_Tellings_holding 70 = .ok (.goto (-64), 3) := by decide +kernel
theorem d_Tellings_holding_73 : decode b_Tellings_holding 73 = .ok (.lload 5, 2) := by decide +kernel
theorem d_Tellings_holding_75 : decode b_Tellings_holding 75 = .ok (.lreturn, 1) := by decide +kernel
theorem d_Tellings_first_0 : decode b_Tellings_first 0 = .ok (.iconst (-1), 1) := by decide +kernel
theorem d_Tellings_first_1 : decode b_Tellings_first 1 = .ok (.istore_n 3, 1) := by decide +kernel
theorem d_Tellings_first_2 : decode b_Tellings_first 2 = .ok (.iconst 0, 1) := by decide +kernel
theorem d_Tellings_first_3 : decode b_Tellings_first 3 = .ok (.istore 4, 2) := by decide +kernel
theorem d_Tellings_first_5 : decode b_Tellings_first 5 = .ok (.iload 4, 2) := by decide +kernel
theorem d_Tellings_first_7 : decode b_Tellings_first 7 = .ok (.aload_n 0, 1) := by decide +kernel
theorem d_Tellings_first_8 : decode b_Tellings_first 8 = .ok (.getfield 34, 3) := by decide +kernel
theorem d_Tellings_first_11 : decode b_Tellings_first 11 = .ok (.if_icmp .ge 36, 3) := by decide +kernel
theorem d_Tellings_first_14 : decode b_Tellings_first 14 = .ok (.iload 4, 2) := by decide +kernel
theorem d_Tellings_first_16 : decode b_Tellings_first 16 = .ok (.lload_n 1, 1) := by decide +kernel
theorem d_Tellings_first_17 : decode b_Tellings_first 17 = .ok (.invokestatic 42, 3) := by decide +kernel
theorem d_Tellings_first_20 : decode b_Tellings_first 20 = .ok (.ifCond .eq 21, 3) := by decide +kernel
theorem d_Tellings_first_23 : decode b_Tellings_first 23 = .ok (.iload_n 3, 1) := by decide +kernel
theorem d_Tellings_first_24 : decode b_Tellings_first 24 = .ok (.iconst (-1), 1) := by decide +kernel
theorem d_Tellings_first_25 : decode b_Tellings_first 25 = .ok (.if_icmp .eq 13, 3) := by decide +kernel
theorem d_Tellings_first_28 : decode b_Tellings_first 28 = .ok (.aload_n 0, 1) := by decide +kernel
theorem d_Tellings_first_29 : decode b_Tellings_first 29 = .ok (.iload 4, 2) := by decide +kernel
theorem d_Tellings_first_31 : decode b_Tellings_first 31 = .ok (.iload_n 3, 1) := by decide +kernel
theorem d_Tellings_first_32 : decode b_Tellings_first 32 = .ok (.invokevirtual 56, 3) := by decide +kernel
theorem d_Tellings_first_35 : decode b_Tellings_first 35 = .ok (.ifCond .eq 6, 3) := by decide +kernel
theorem d_Tellings_first_38 : decode b_Tellings_first 38 = .ok (.iload 4, 2) := by decide +kernel
theorem d_Tellings_first_40 : decode b_Tellings_first 40 = .ok (.istore_n 3, 1) := by decide +kernel
theorem d_Tellings_first_41 : decode b_Tellings_first 41 = .ok (.iinc 4 1, 3) := by decide +kernel
theorem d_Tellings_first_44 : decode b_Tellings_first 44 = .ok (.goto (-39), 3) := by decide +kernel
theorem d_Tellings_first_47 : decode b_Tellings_first 47 = .ok (.iload_n 3, 1) := by decide +kernel
theorem d_Tellings_first_48 : decode b_Tellings_first 48 = .ok (.ireturn, 1) := by decide +kernel
theorem d_Tellings_inPlace_0 : decode b_Tellings_inPlace 0 = .ok (.iconst 0, 1) := by decide +kernel
theorem d_Tellings_inPlace_1 : decode b_Tellings_inPlace 1 = .ok (.istore 4, 2) := by decide +kernel
theorem d_Tellings_inPlace_3 : decode b_Tellings_inPlace 3 = .ok (.iload 4, 2) := by decide +kernel
theorem d_Tellings_inPlace_5 : decode b_Tellings_inPlace 5 = .ok (.aload_n 0, 1) := by decide +kernel
theorem d_Tellings_inPlace_6 : decode b_Tellings_inPlace 6 = .ok (.getfield 34, 3) := by decide +kernel
theorem d_Tellings_inPlace_9 : decode b_Tellings_inPlace 9 = .ok (.if_icmp .ge 32, 3) := by decide +kernel
theorem d_Tellings_inPlace_12 : decode b_Tellings_inPlace 12 = .ok (.iload 4, 2) := by decide +kernel
theorem d_Tellings_inPlace_14 : decode b_Tellings_inPlace 14 = .ok (.lload_n 1, 1) := by decide +kernel
theorem d_Tellings_inPlace_15 : decode b_Tellings_inPlace 15 = .ok (.invokestatic 42, 3) := by decide +kernel
theorem d_Tellings_inPlace_18 : decode b_Tellings_inPlace 18 = .ok (.ifCond .eq 17, 3) := by decide +kernel
theorem d_Tellings_inPlace_21 : decode b_Tellings_inPlace 21 = .ok (.aload_n 0, 1) := by decide +kernel
theorem d_Tellings_inPlace_22 : decode b_Tellings_inPlace 22 = .ok (.iload 4, 2) := by decide +kernel
theorem d_Tellings_inPlace_24 : decode b_Tellings_inPlace 24 = .ok (.lload_n 1, 1) := by decide +kernel
theorem d_Tellings_inPlace_25 : decode b_Tellings_inPlace 25 = .ok (.invokevirtual 60, 3) := by decide +kernel
theorem d_Tellings_inPlace_28 : decode b_Tellings_inPlace 28 = .ok (.iload_n 3, 1) := by decide +kernel
theorem d_Tellings_inPlace_29 : decode b_Tellings_inPlace 29 = .ok (.if_icmp .ne 6, 3) := by decide +kernel
theorem d_Tellings_inPlace_32 : decode b_Tellings_inPlace 32 = .ok (.iload 4, 2) := by decide +kernel
theorem d_Tellings_inPlace_34 : decode b_Tellings_inPlace 34 = .ok (.ireturn, 1) := by decide +kernel
theorem d_Tellings_inPlace_35 : decode b_Tellings_inPlace 35 = .ok (.iinc 4 1, 3) := by decide +kernel
theorem d_Tellings_inPlace_38 : decode b_Tellings_inPlace 38 = .ok (.goto (-35), 3) := by decide +kernel
theorem d_Tellings_inPlace_41 : decode b_Tellings_inPlace 41 = .ok (.iconst (-1), 1) := by decide +kernel
theorem d_Tellings_inPlace_42 : decode b_Tellings_inPlace 42 = .ok (.ireturn, 1) := by decide +kernel
theorem d_Tellings_countBefore_0 : decode b_Tellings_countBefore 0 = .ok (.iconst 0, 1) := by decide +kernel
theorem d_Tellings_countBefore_1 : decode b_Tellings_countBefore 1 = .ok (.istore 4, 2) := by decide +kernel
theorem d_Tellings_countBefore_3 : decode b_Tellings_countBefore 3 = .ok (.iconst 0, 1) := by decide +kernel
theorem d_Tellings_countBefore_4 : decode b_Tellings_countBefore 4 = .ok (.istore 5, 2) := by decide +kernel
theorem d_Tellings_countBefore_6 : decode b_Tellings_countBefore 6 = .ok (.iload 5, 2) := by decide +kernel
theorem d_Tellings_countBefore_8 : decode b_Tellings_countBefore 8 = .ok (.aload_n 0, 1) := by decide +kernel
theorem d_Tellings_countBefore_9 : decode b_Tellings_countBefore 9 = .ok (.getfield 34, 3) := by decide +kernel
theorem d_Tellings_countBefore_12 : decode b_Tellings_countBefore 12 = .ok (.if_icmp .ge 31, 3) := by decide +kernel
theorem d_Tellings_countBefore_15 : decode b_Tellings_countBefore 15 = .ok (.iload 5, 2) := by decide +kernel
theorem d_Tellings_countBefore_17 : decode b_Tellings_countBefore 17 = .ok (.lload_n 2, 1) := by decide +kernel
theorem d_Tellings_countBefore_18 : decode b_Tellings_countBefore 18 = .ok (.invokestatic 42, 3) := by decide +kernel
theorem d_Tellings_countBefore_21 : decode b_Tellings_countBefore 21 = .ok (.ifCond .eq 16, 3) := by decide +kernel
theorem d_Tellings_countBefore_24 : decode b_Tellings_countBefore 24 = .ok (.aload_n 0, 1) := by decide +kernel
theorem d_Tellings_countBefore_25 : decode b_Tellings_countBefore 25 = .ok (.iload 5, 2) := by decide +kernel
theorem d_Tellings_countBefore_27 : decode b_Tellings_countBefore 27 = .ok (.iload_n 1, 1) := by decide +kernel
theorem d_Tellings_countBefore_28 : decode b_Tellings_countBefore 28 = .ok (.invokevirtual 56, 3) := by decide +kernel
theorem d_Tellings_countBefore_31 : decode b_Tellings_countBefore 31 = .ok (.ifCond .eq 6, 3) := by decide +kernel
theorem d_Tellings_countBefore_34 : decode b_Tellings_countBefore 34 = .ok (.iinc 4 1, 3) := by decide +kernel
theorem d_Tellings_countBefore_37 : decode b_Tellings_countBefore 37 = .ok (.iinc 5 1, 3) := by decide +kernel
theorem d_Tellings_countBefore_40 : decode b_Tellings_countBefore 40 = .ok (.goto (-34), 3) := by decide +kernel
theorem d_Tellings_countBefore_43 : decode b_Tellings_countBefore 43 = .ok (.iload 4, 2) := by decide +kernel
theorem d_Tellings_countBefore_45 : decode b_Tellings_countBefore 45 = .ok (.ireturn, 1) := by decide +kernel
theorem d_Tellings_isBefore_0 : decode b_Tellings_isBefore 0 = .ok (.aload_n 0, 1) := by decide +kernel
theorem d_Tellings_isBefore_1 : decode b_Tellings_isBefore 1 = .ok (.getfield 9, 3) := by decide +kernel
theorem d_Tellings_isBefore_4 : decode b_Tellings_isBefore 4 = .ok (.iload_n 1, 1) := by decide +kernel
theorem d_Tellings_isBefore_5 : decode b_Tellings_isBefore 5 = .ok (.iaload, 1) := by decide +kernel
theorem d_Tellings_isBefore_6 : decode b_Tellings_isBefore 6 = .ok (.aload_n 0, 1) := by decide +kernel
theorem d_Tellings_isBefore_7 : decode b_Tellings_isBefore 7 = .ok (.getfield 9, 3) := by decide +kernel
theorem d_Tellings_isBefore_10 : decode b_Tellings_isBefore 10 = .ok (.iload_n 2, 1) := by decide +kernel
theorem d_Tellings_isBefore_11 : decode b_Tellings_isBefore 11 = .ok (.iaload, 1) := by decide +kernel
theorem d_Tellings_isBefore_12 : decode b_Tellings_isBefore 12 = .ok (.if_icmp .eq 24, 3) := by decide +kernel
theorem d_Tellings_isBefore_15 : decode b_Tellings_isBefore 15 = .ok (.aload_n 0, 1) := by decide +kernel
theorem d_Tellings_isBefore_16 : decode b_Tellings_isBefore 16 = .ok (.getfield 9, 3) := by decide +kernel
theorem d_Tellings_isBefore_19 : decode b_Tellings_isBefore 19 = .ok (.iload_n 1, 1) := by decide +kernel
theorem d_Tellings_isBefore_20 : decode b_Tellings_isBefore 20 = .ok (.iaload, 1) := by decide +kernel
theorem d_Tellings_isBefore_21 : decode b_Tellings_isBefore 21 = .ok (.aload_n 0, 1) := by decide +kernel
theorem d_Tellings_isBefore_22 : decode b_Tellings_isBefore 22 = .ok (.getfield 9, 3) := by decide +kernel
theorem d_Tellings_isBefore_25 : decode b_Tellings_isBefore 25 = .ok (.iload_n 2, 1) := by decide +kernel
theorem d_Tellings_isBefore_26 : decode b_Tellings_isBefore 26 = .ok (.iaload, 1) := by decide +kernel
theorem d_Tellings_isBefore_27 : decode b_Tellings_isBefore 27 = .ok (.if_icmp .ge 7, 3) := by decide +kernel
theorem d_Tellings_isBefore_30 : decode b_Tellings_isBefore 30 = .ok (.iconst 1, 1) := by decide +kernel
theorem d_Tellings_isBefore_31 : decode b_Tellings_isBefore 31 = .ok (.goto 4, 3) := by decide +kernel
theorem d_Tellings_isBefore_34 : decode b_Tellings_isBefore 34 = .ok (.iconst 0, 1) := by decide +kernel
theorem d_Tellings_isBefore_35 : decode b_Tellings_isBefore 35 = .ok (.ireturn, 1) := by decide +kernel
theorem d_Tellings_isBefore_36 : decode b_Tellings_isBefore 36 = .ok (.aload_n 0, 1) := by decide +kernel
theorem d_Tellings_isBefore_37 : decode b_Tellings_isBefore 37 = .ok (.getfield 15, 3) := by decide +kernel
theorem d_Tellings_isBefore_40 : decode b_Tellings_isBefore 40 = .ok (.iload_n 1, 1) := by decide +kernel
theorem d_Tellings_isBefore_41 : decode b_Tellings_isBefore 41 = .ok (.iaload, 1) := by decide +kernel
theorem d_Tellings_isBefore_42 : decode b_Tellings_isBefore 42 = .ok (.aload_n 0, 1) := by decide +kernel
theorem d_Tellings_isBefore_43 : decode b_Tellings_isBefore 43 = .ok (.getfield 15, 3) := by decide +kernel
theorem d_Tellings_isBefore_46 : decode b_Tellings_isBefore 46 = .ok (.iload_n 2, 1) := by decide +kernel
theorem d_Tellings_isBefore_47 : decode b_Tellings_isBefore 47 = .ok (.iaload, 1) := by decide +kernel
theorem d_Tellings_isBefore_48 : decode b_Tellings_isBefore 48 = .ok (.if_icmp .eq 24, 3) := by decide +kernel
theorem d_Tellings_isBefore_51 : decode b_Tellings_isBefore 51 = .ok (.aload_n 0, 1) := by decide +kernel
theorem d_Tellings_isBefore_52 : decode b_Tellings_isBefore 52 = .ok (.getfield 15, 3) := by decide +kernel
theorem d_Tellings_isBefore_55 : decode b_Tellings_isBefore 55 = .ok (.iload_n 1, 1) := by decide +kernel
theorem d_Tellings_isBefore_56 : decode b_Tellings_isBefore 56 = .ok (.iaload, 1) := by decide +kernel
theorem d_Tellings_isBefore_57 : decode b_Tellings_isBefore 57 = .ok (.aload_n 0, 1) := by decide +kernel
theorem d_Tellings_isBefore_58 : decode b_Tellings_isBefore 58 = .ok (.getfield 15, 3) := by decide +kernel
theorem d_Tellings_isBefore_61 : decode b_Tellings_isBefore 61 = .ok (.iload_n 2, 1) := by decide +kernel
theorem d_Tellings_isBefore_62 : decode b_Tellings_isBefore 62 = .ok (.iaload, 1) := by decide +kernel
theorem d_Tellings_isBefore_63 : decode b_Tellings_isBefore 63 = .ok (.if_icmp .ge 7, 3) := by decide +kernel
theorem d_Tellings_isBefore_66 : decode b_Tellings_isBefore 66 = .ok (.iconst 1, 1) := by decide +kernel
theorem d_Tellings_isBefore_67 : decode b_Tellings_isBefore 67 = .ok (.goto 4, 3) := by decide +kernel
theorem d_Tellings_isBefore_70 : decode b_Tellings_isBefore 70 = .ok (.iconst 0, 1) := by decide +kernel
theorem d_Tellings_isBefore_71 : decode b_Tellings_isBefore 71 = .ok (.ireturn, 1) := by decide +kernel
theorem d_Tellings_isBefore_72 : decode b_Tellings_isBefore 72 = .ok (.aload_n 0, 1) := by decide +kernel
theorem d_Tellings_isBefore_73 : decode b_Tellings_isBefore 73 = .ok (.getfield 18, 3) := by decide +kernel
theorem d_Tellings_isBefore_76 : decode b_Tellings_isBefore 76 = .ok (.iload_n 1, 1) := by decide +kernel
theorem d_Tellings_isBefore_77 : decode b_Tellings_isBefore 77 = .ok (.iaload, 1) := by decide +kernel
theorem d_Tellings_isBefore_78 : decode b_Tellings_isBefore 78 = .ok (.aload_n 0, 1) := by decide +kernel
theorem d_Tellings_isBefore_79 : decode b_Tellings_isBefore 79 = .ok (.getfield 18, 3) := by decide +kernel
theorem d_Tellings_isBefore_82 : decode b_Tellings_isBefore 82 = .ok (.iload_n 2, 1) := by decide +kernel
theorem d_Tellings_isBefore_83 : decode b_Tellings_isBefore 83 = .ok (.iaload, 1) := by decide +kernel
theorem d_Tellings_isBefore_84 : decode b_Tellings_isBefore 84 = .ok (.if_icmp .eq 24, 3) := by decide +kernel
theorem d_Tellings_isBefore_87 : decode b_Tellings_isBefore 87 = .ok (.aload_n 0, 1) := by decide +kernel
theorem d_Tellings_isBefore_88 : decode b_Tellings_isBefore 88 = .ok (.getfield 18, 3) := by decide +kernel
theorem d_Tellings_isBefore_91 : decode b_Tellings_isBefore 91 = .ok (.iload_n 1, 1) := by decide +kernel
theorem d_Tellings_isBefore_92 : decode b_Tellings_isBefore 92 = .ok (.iaload, 1) := by decide +kernel
theorem d_Tellings_isBefore_93 : decode b_Tellings_isBefore 93 = .ok (.aload_n 0, 1) := by decide +kernel
theorem d_Tellings_isBefore_94 : decode b_Tellings_isBefore 94 = .ok (.getfield 18, 3) := by decide +kernel
theorem d_Tellings_isBefore_97 : decode b_Tellings_isBefore 97 = .ok (.iload_n 2, 1) := by decide +kernel
theorem d_Tellings_isBefore_98 : decode b_Tellings_isBefore 98 = .ok (.iaload, 1) := by decide +kernel
theorem d_Tellings_isBefore_99 : decode b_Tellings_isBefore 99 = .ok (.if_icmp .ge 7, 3) := by decide +kernel
theorem d_Tellings_isBefore_102 : decode b_Tellings_isBefore 102 = .ok (.iconst 1, 1) := by decide +kernel
theorem d_Tellings_isBefore_103 : decode b_Tellings_isBefore 103 = .ok (.goto 4, 3) := by decide +kernel
theorem d_Tellings_isBefore_106 : decode b_Tellings_isBefore 106 = .ok (.iconst 0, 1) := by decide +kernel
theorem d_Tellings_isBefore_107 : decode b_Tellings_isBefore 107 = .ok (.ireturn, 1) := by decide +kernel
theorem d_Tellings_isBefore_108 : decode b_Tellings_isBefore 108 = .ok (.aload_n 0, 1) := by decide +kernel
theorem d_Tellings_isBefore_109 : decode b_Tellings_isBefore 109 = .ok (.getfield 21, 3) := by decide +kernel
theorem d_Tellings_isBefore_112 : decode b_Tellings_isBefore 112 = .ok (.iload_n 1, 1) := by decide +kernel
theorem d_Tellings_isBefore_113 : decode b_Tellings_isBefore 113 = .ok (.iaload, 1) := by decide +kernel
theorem d_Tellings_isBefore_114 : decode b_Tellings_isBefore 114 = .ok (.aload_n 0, 1) := by decide +kernel
theorem d_Tellings_isBefore_115 : decode b_Tellings_isBefore 115 = .ok (.getfield 21, 3) := by decide +kernel
theorem d_Tellings_isBefore_118 : decode b_Tellings_isBefore 118 = .ok (.iload_n 2, 1) := by decide +kernel
theorem d_Tellings_isBefore_119 : decode b_Tellings_isBefore 119 = .ok (.iaload, 1) := by decide +kernel
theorem d_Tellings_isBefore_120 : decode b_Tellings_isBefore 120 = .ok (.if_icmp .eq 24, 3) := by decide +kernel
theorem d_Tellings_isBefore_123 : decode b_Tellings_isBefore 123 = .ok (.aload_n 0, 1) := by decide +kernel
theorem d_Tellings_isBefore_124 : decode b_Tellings_isBefore 124 = .ok (.getfield 21, 3) := by decide +kernel
theorem d_Tellings_isBefore_127 : decode b_Tellings_isBefore 127 = .ok (.iload_n 1, 1) := by decide +kernel
theorem d_Tellings_isBefore_128 : decode b_Tellings_isBefore 128 = .ok (.iaload, 1) := by decide +kernel
theorem d_Tellings_isBefore_129 : decode b_Tellings_isBefore 129 = .ok (.aload_n 0, 1) := by decide +kernel
theorem d_Tellings_isBefore_130 : decode b_Tellings_isBefore 130 = .ok (.getfield 21, 3) := by decide +kernel
theorem d_Tellings_isBefore_133 : decode b_Tellings_isBefore 133 = .ok (.iload_n 2, 1) := by decide +kernel
theorem d_Tellings_isBefore_134 : decode b_Tellings_isBefore 134 = .ok (.iaload, 1) := by decide +kernel
theorem d_Tellings_isBefore_135 : decode b_Tellings_isBefore 135 = .ok (.if_icmp .ge 7, 3) := by decide +kernel
theorem d_Tellings_isBefore_138 : decode b_Tellings_isBefore 138 = .ok (.iconst 1, 1) := by decide +kernel
theorem d_Tellings_isBefore_139 : decode b_Tellings_isBefore 139 = .ok (.goto 4, 3) := by decide +kernel
theorem d_Tellings_isBefore_142 : decode b_Tellings_isBefore 142 = .ok (.iconst 0, 1) := by decide +kernel
theorem d_Tellings_isBefore_143 : decode b_Tellings_isBefore 143 = .ok (.ireturn, 1) := by decide +kernel
theorem d_Tellings_isBefore_144 : decode b_Tellings_isBefore 144 = .ok (.aload_n 0, 1) := by decide +kernel
theorem d_Tellings_isBefore_145 : decode b_Tellings_isBefore 145 = .ok (.getfield 24, 3) := by decide +kernel
theorem d_Tellings_isBefore_148 : decode b_Tellings_isBefore 148 = .ok (.iload_n 1, 1) := by decide +kernel
theorem d_Tellings_isBefore_149 : decode b_Tellings_isBefore 149 = .ok (.laload, 1) := by decide +kernel
theorem d_Tellings_isBefore_150 : decode b_Tellings_isBefore 150 = .ok (.aload_n 0, 1) := by decide +kernel
theorem d_Tellings_isBefore_151 : decode b_Tellings_isBefore 151 = .ok (.getfield 24, 3) := by decide +kernel
theorem d_Tellings_isBefore_154 : decode b_Tellings_isBefore 154 = .ok (.iload_n 2, 1) := by decide +kernel
theorem d_Tellings_isBefore_155 : decode b_Tellings_isBefore 155 = .ok (.laload, 1) := by decide +kernel
theorem d_Tellings_isBefore_156 : decode b_Tellings_isBefore 156 = .ok (.lcmp, 1) := by decide +kernel
theorem d_Tellings_isBefore_157 : decode b_Tellings_isBefore 157 = .ok (.ifCond .eq 25, 3) := by decide +kernel
theorem d_Tellings_isBefore_160 : decode b_Tellings_isBefore 160 = .ok (.aload_n 0, 1) := by decide +kernel
theorem d_Tellings_isBefore_161 : decode b_Tellings_isBefore 161 = .ok (.getfield 24, 3) := by decide +kernel
theorem d_Tellings_isBefore_164 : decode b_Tellings_isBefore 164 = .ok (.iload_n 1, 1) := by decide +kernel
theorem d_Tellings_isBefore_165 : decode b_Tellings_isBefore 165 = .ok (.laload, 1) := by decide +kernel
theorem d_Tellings_isBefore_166 : decode b_Tellings_isBefore 166 = .ok (.aload_n 0, 1) := by decide +kernel
theorem d_Tellings_isBefore_167 : decode b_Tellings_isBefore 167 = .ok (.getfield 24, 3) := by decide +kernel
theorem d_Tellings_isBefore_170 : decode b_Tellings_isBefore 170 = .ok (.iload_n 2, 1) := by decide +kernel
theorem d_Tellings_isBefore_171 : decode b_Tellings_isBefore 171 = .ok (.laload, 1) := by decide +kernel
theorem d_Tellings_isBefore_172 : decode b_Tellings_isBefore 172 = .ok (.lcmp, 1) := by decide +kernel
theorem d_Tellings_isBefore_173 : decode b_Tellings_isBefore 173 = .ok (.ifCond .ge 7, 3) := by decide +kernel
theorem d_Tellings_isBefore_176 : decode b_Tellings_isBefore 176 = .ok (.iconst 1, 1) := by decide +kernel
theorem d_Tellings_isBefore_177 : decode b_Tellings_isBefore 177 = .ok (.goto 4, 3) := by decide +kernel
theorem d_Tellings_isBefore_180 : decode b_Tellings_isBefore 180 = .ok (.iconst 0, 1) := by decide +kernel
theorem d_Tellings_isBefore_181 : decode b_Tellings_isBefore 181 = .ok (.ireturn, 1) := by decide +kernel
theorem d_Tellings_isBefore_182 : decode b_Tellings_isBefore 182 = .ok (.aload_n 0, 1) := by decide +kernel
theorem d_Tellings_isBefore_183 : decode b_Tellings_isBefore 183 = .ok (.getfield 28, 3) := by decide +kernel
theorem d_Tellings_isBefore_186 : decode b_Tellings_isBefore 186 = .ok (.iload_n 1, 1) := by decide +kernel
theorem d_Tellings_isBefore_187 : decode b_Tellings_isBefore 187 = .ok (.laload, 1) := by decide +kernel
theorem d_Tellings_isBefore_188 : decode b_Tellings_isBefore 188 = .ok (.aload_n 0, 1) := by decide +kernel
theorem d_Tellings_isBefore_189 : decode b_Tellings_isBefore 189 = .ok (.getfield 28, 3) := by decide +kernel
theorem d_Tellings_isBefore_192 : decode b_Tellings_isBefore 192 = .ok (.iload_n 2, 1) := by decide +kernel
theorem d_Tellings_isBefore_193 : decode b_Tellings_isBefore 193 = .ok (.laload, 1) := by decide +kernel
theorem d_Tellings_isBefore_194 : decode b_Tellings_isBefore 194 = .ok (.lcmp, 1) := by decide +kernel
theorem d_Tellings_isBefore_195 : decode b_Tellings_isBefore 195 = .ok (.ifCond .ge 7, 3) := by decide +kernel
theorem d_Tellings_isBefore_198 : decode b_Tellings_isBefore 198 = .ok (.iconst 1, 1) := by decide +kernel
theorem d_Tellings_isBefore_199 : decode b_Tellings_isBefore 199 = .ok (.goto 4, 3) := by decide +kernel
theorem d_Tellings_isBefore_202 : decode b_Tellings_isBefore 202 = .ok (.iconst 0, 1) := by decide +kernel
theorem d_Tellings_isBefore_203 : decode b_Tellings_isBefore 203 = .ok (.ireturn, 1) := by decide +kernel
theorem d_Tellings_latestNumbered_0 : decode b_Tellings_latestNumbered 0 = .ok (.iconst (-1), 1) := by decide +kernel
theorem d_Tellings_latestNumbered_1 : decode b_Tellings_latestNumbered 1 = .ok (.istore_n 3, 1) := by decide +kernel
theorem d_Tellings_latestNumbered_2 : decode b_Tellings_latestNumbered 2 = .ok (.iconst 0, 1) := by decide +kernel
theorem d_Tellings_latestNumbered_3 : decode b_Tellings_latestNumbered 3 = .ok (.istore 4, 2) := by decide +kernel
theorem d_Tellings_latestNumbered_5 : decode b_Tellings_latestNumbered 5 = .ok (.iload 4, 2) := by decide +kernel
theorem d_Tellings_latestNumbered_7 : decode b_Tellings_latestNumbered 7 = .ok (.aload_n 0, 1) := by decide +kernel
theorem d_Tellings_latestNumbered_8 : decode b_Tellings_latestNumbered 8 = .ok (.getfield 34, 3) := by decide +kernel
theorem d_Tellings_latestNumbered_11 : decode b_Tellings_latestNumbered 11 = .ok (.if_icmp .ge 36, 3) := by decide +kernel
theorem d_Tellings_latestNumbered_14 : decode b_Tellings_latestNumbered 14 = .ok (.iload 4, 2) := by decide +kernel
theorem d_Tellings_latestNumbered_16 : decode b_Tellings_latestNumbered 16 = .ok (.lload_n 1, 1) := by decide +kernel
theorem d_Tellings_latestNumbered_17 : decode b_Tellings_latestNumbered 17 = .ok (.invokestatic 42, 3) := by decide +kernel
theorem d_Tellings_latestNumbered_20 : decode b_Tellings_latestNumbered 20 = .ok (.ifCond .eq 21, 3) := by decide +kernel
theorem d_Tellings_latestNumbered_23 : decode b_Tellings_latestNumbered 23 = .ok (.iload_n 3, 1) := by decide +kernel
theorem d_Tellings_latestNumbered_24 : decode b_Tellings_latestNumbered 24 = .ok (.iconst (-1), 1) := by decide +kernel
theorem d_Tellings_latestNumbered_25 : decode b_Tellings_latestNumbered 25 = .ok (.if_icmp .eq 13, 3) := by decide +kernel
theorem d_Tellings_latestNumbered_28 : decode b_Tellings_latestNumbered 28 = .ok (.aload_n 0, 1) := by decide +kernel
theorem d_Tellings_latestNumbered_29 : decode b_Tellings_latestNumbered 29 = .ok (.iload_n 3, 1) := by decide +kernel
theorem d_Tellings_latestNumbered_30 : decode b_Tellings_latestNumbered 30 = .ok (.iload 4, 2) := by decide +kernel
theorem d_Tellings_latestNumbered_32 : decode b_Tellings_latestNumbered 32 = .ok (.invokevirtual 56, 3) := by decide +kernel
theorem d_Tellings_latestNumbered_35 : decode b_Tellings_latestNumbered 35 = .ok (.ifCond .eq 6, 3) := by decide +kernel
theorem d_Tellings_latestNumbered_38 : decode b_Tellings_latestNumbered 38 = .ok (.iload 4, 2) := by decide +kernel
theorem d_Tellings_latestNumbered_40 : decode b_Tellings_latestNumbered 40 = .ok (.istore_n 3, 1) := by decide +kernel
theorem d_Tellings_latestNumbered_41 : decode b_Tellings_latestNumbered 41 = .ok (.iinc 4 1, 3) := by decide +kernel
theorem d_Tellings_latestNumbered_44 : decode b_Tellings_latestNumbered 44 = .ok (.goto (-39), 3) := by decide +kernel
theorem d_Tellings_latestNumbered_47 : decode b_Tellings_latestNumbered 47 = .ok (.iload_n 3, 1) := by decide +kernel
theorem d_Tellings_latestNumbered_48 : decode b_Tellings_latestNumbered 48 = .ok (.ireturn, 1) := by decide +kernel
theorem d_Tellings_latestKnown_0 : decode b_Tellings_latestKnown 0 = .ok (.iconst (-1), 1) := by decide +kernel
theorem d_Tellings_latestKnown_1 : decode b_Tellings_latestKnown 1 = .ok (.istore 7, 2) := by decide +kernel
theorem d_Tellings_latestKnown_3 : decode b_Tellings_latestKnown 3 = .ok (.iconst 0, 1) := by decide +kernel
theorem d_Tellings_latestKnown_4 : decode b_Tellings_latestKnown 4 = .ok (.istore 8, 2) := by decide +kernel
theorem d_Tellings_latestKnown_6 : decode b_Tellings_latestKnown 6 = .ok (.iload 8, 2) := by decide +kernel
theorem d_Tellings_latestKnown_8 : decode b_Tellings_latestKnown 8 = .ok (.aload_n 0, 1) := by decide +kernel
theorem d_Tellings_latestKnown_9 : decode b_Tellings_latestKnown 9 = .ok (.getfield 34, 3) := by decide +kernel
theorem d_Tellings_latestKnown_12 : decode b_Tellings_latestKnown 12 = .ok (.if_icmp .ge 64, 3) := by decide +kernel
theorem d_Tellings_latestKnown_15 : decode b_Tellings_latestKnown 15 = .ok (.iload 8, 2) := by decide +kernel
theorem d_Tellings_latestKnown_17 : decode b_Tellings_latestKnown 17 = .ok (.lload_n 1, 1) := by decide +kernel
theorem d_Tellings_latestKnown_18 : decode b_Tellings_latestKnown 18 = .ok (.invokestatic 42, 3) := by decide +kernel
theorem d_Tellings_latestKnown_21 : decode b_Tellings_latestKnown 21 = .ok (.ifCond .eq 49, 3) := by decide +kernel
theorem d_Tellings_latestKnown_24 : decode b_Tellings_latestKnown 24 = .ok (.aload_n 0, 1) := by decide +kernel
theorem d_Tellings_latestKnown_25 : decode b_Tellings_latestKnown 25 = .ok (.getfield 24, 3) := by decide +kernel
theorem d_Tellings_latestKnown_28 : decode b_Tellings_latestKnown 28 = .ok (.iload 8, 2) := by decide +kernel
theorem d_Tellings_latestKnown_30 : decode b_Tellings_latestKnown 30 = .ok (.laload, 1) := by decide +kernel
theorem d_Tellings_latestKnown_31 : decode b_Tellings_latestKnown 31 = .ok (.lload_n 3, 1) := by decide +kernel
theorem d_Tellings_latestKnown_32 : decode b_Tellings_latestKnown 32 = .ok (.lcmp, 1) := by decide +kernel
theorem d_Tellings_latestKnown_33 : decode b_Tellings_latestKnown 33 = .ok (.ifCond .gt 37, 3) := by decide +kernel
theorem d_Tellings_latestKnown_36 : decode b_Tellings_latestKnown 36 = .ok (.aload_n 0, 1) := by decide +kernel
theorem d_Tellings_latestKnown_37 : decode b_Tellings_latestKnown 37 = .ok (.getfield 31, 3) := by decide +kernel
theorem d_Tellings_latestKnown_40 : decode b_Tellings_latestKnown 40 = .ok (.iload 8, 2) := by decide +kernel
theorem d_Tellings_latestKnown_42 : decode b_Tellings_latestKnown 42 = .ok (.laload, 1) := by decide +kernel
theorem d_Tellings_latestKnown_43 : decode b_Tellings_latestKnown 43 = .ok (.lload 5, 2) := by decide +kernel
theorem d_Tellings_latestKnown_45 : decode b_Tellings_latestKnown 45 = .ok (.lcmp, 1) := by decide +kernel
theorem d_Tellings_latestKnown_46 : decode b_Tellings_latestKnown 46 = .ok (.ifCond .gt 24, 3) := by decide +kernel
theorem d_Tellings_latestKnown_49 : decode b_Tellings_latestKnown 49 = .ok (.iload 7, 2) := by decide +kernel
theorem d_Tellings_latestKnown_51 : decode b_Tellings_latestKnown 51 = .ok (.iconst (-1), 1) := by decide +kernel
theorem d_Tellings_latestKnown_52 : decode b_Tellings_latestKnown 52 = .ok (.if_icmp .eq 14, 3) := by decide +kernel
theorem d_Tellings_latestKnown_55 : decode b_Tellings_latestKnown 55 = .ok (.aload_n 0, 1) := by decide +kernel
theorem d_Tellings_latestKnown_56 : decode b_Tellings_latestKnown 56 = .ok (.iload 8, 2) := by decide +kernel
theorem d_Tellings_latestKnown_58 : decode b_Tellings_latestKnown 58 = .ok (.iload 7, 2) := by decide +kernel
theorem d_Tellings_latestKnown_60 : decode b_Tellings_latestKnown 60 = .ok (.invokevirtual 64, 3) := by decide +kernel
theorem d_Tellings_latestKnown_63 : decode b_Tellings_latestKnown 63 = .ok (.ifCond .eq 7, 3) := by decide +kernel
theorem d_Tellings_latestKnown_66 : decode b_Tellings_latestKnown 66 = .ok (.iload 8, 2) := by decide +kernel
theorem d_Tellings_latestKnown_68 : decode b_Tellings_latestKnown 68 = .ok (.istore 7, 2) := by decide +kernel
theorem d_Tellings_latestKnown_70 : decode b_Tellings_latestKnown 70 = .ok (.iinc 8 1, 3) := by decide +kernel
theorem d_Tellings_latestKnown_73 : decode b_Tellings_latestKnown 73 = .ok (.goto (-67), 3) := by decide +kernel
theorem d_Tellings_latestKnown_76 : decode b_Tellings_latestKnown 76 = .ok (.iload 7, 2) := by decide +kernel
theorem d_Tellings_latestKnown_78 : decode b_Tellings_latestKnown 78 = .ok (.ireturn, 1) := by decide +kernel
theorem d_Tellings_isOfLater_0 : decode b_Tellings_isOfLater 0 = .ok (.aload_n 0, 1) := by decide +kernel
theorem d_Tellings_isOfLater_1 : decode b_Tellings_isOfLater 1 = .ok (.getfield 24, 3) := by decide +kernel
theorem d_Tellings_isOfLater_4 : decode b_Tellings_isOfLater 4 = .ok (.iload_n 1, 1) := by decide +kernel
theorem d_Tellings_isOfLater_5 : decode b_Tellings_isOfLater 5 = .ok (.laload, 1) := by decide +kernel
theorem d_Tellings_isOfLater_6 : decode b_Tellings_isOfLater 6 = .ok (.aload_n 0, 1) := by decide +kernel
theorem d_Tellings_isOfLater_7 : decode b_Tellings_isOfLater 7 = .ok (.getfield 24, 3) := by decide +kernel
theorem d_Tellings_isOfLater_10 : decode b_Tellings_isOfLater 10 = .ok (.iload_n 2, 1) := by decide +kernel
theorem d_Tellings_isOfLater_11 : decode b_Tellings_isOfLater 11 = .ok (.laload, 1) := by decide +kernel
theorem d_Tellings_isOfLater_12 : decode b_Tellings_isOfLater 12 = .ok (.lcmp, 1) := by decide +kernel
theorem d_Tellings_isOfLater_13 : decode b_Tellings_isOfLater 13 = .ok (.ifCond .eq 27, 3) := by decide +kernel
theorem d_Tellings_isOfLater_16 : decode b_Tellings_isOfLater 16 = .ok (.aload_n 0, 1) := by decide +kernel
theorem d_Tellings_isOfLater_17 : decode b_Tellings_isOfLater 17 = .ok (.getfield 24, 3) := by decide +kernel
theorem d_Tellings_isOfLater_20 : decode b_Tellings_isOfLater 20 = .ok (.iload_n 1, 1) := by decide +kernel
theorem d_Tellings_isOfLater_21 : decode b_Tellings_isOfLater 21 = .ok (.laload, 1) := by decide +kernel
theorem d_Tellings_isOfLater_22 : decode b_Tellings_isOfLater 22 = .ok (.aload_n 0, 1) := by decide +kernel
theorem d_Tellings_isOfLater_23 : decode b_Tellings_isOfLater 23 = .ok (.getfield 24, 3) := by decide +kernel
theorem d_Tellings_isOfLater_26 : decode b_Tellings_isOfLater 26 = .ok (.iload_n 2, 1) := by decide +kernel
theorem d_Tellings_isOfLater_27 : decode b_Tellings_isOfLater 27 = .ok (.laload, 1) := by decide +kernel
theorem d_Tellings_isOfLater_28 : decode b_Tellings_isOfLater 28 = .ok (.lcmp, 1) := by decide +kernel
theorem d_Tellings_isOfLater_29 : decode b_Tellings_isOfLater 29 = .ok (.ifCond .le 7, 3) := by decide +kernel
theorem d_Tellings_isOfLater_32 : decode b_Tellings_isOfLater 32 = .ok (.iconst 1, 1) := by decide +kernel
theorem d_Tellings_isOfLater_33 : decode b_Tellings_isOfLater 33 = .ok (.goto 13, 3) := by decide +kernel
theorem d_Tellings_isOfLater_36 : decode b_Tellings_isOfLater 36 = .ok (.iconst 0, 1) := by decide +kernel
theorem d_Tellings_isOfLater_37 : decode b_Tellings_isOfLater 37 = .ok (.goto 9, 3) := by decide +kernel
theorem d_Tellings_isOfLater_40 : decode b_Tellings_isOfLater 40 = .ok (.aload_n 0, 1) := by decide +kernel
theorem d_Tellings_isOfLater_41 : decode b_Tellings_isOfLater 41 = .ok (.iload_n 2, 1) := by decide +kernel
theorem d_Tellings_isOfLater_42 : decode b_Tellings_isOfLater 42 = .ok (.iload_n 1, 1) := by decide +kernel
theorem d_Tellings_isOfLater_43 : decode b_Tellings_isOfLater 43 = .ok (.invokevirtual 56, 3) := by decide +kernel
theorem d_Tellings_isOfLater_46 : decode b_Tellings_isOfLater 46 = .ok (.ireturn, 1) := by decide +kernel
theorem d_Tellings_missingNumber_0 : decode b_Tellings_missingNumber 0 = .ok (.aload_n 0, 1) := by decide +kernel
theorem d_Tellings_missingNumber_1 : decode b_Tellings_missingNumber 1 = .ok (.lload_n 1, 1) := by decide +kernel
theorem d_Tellings_missingNumber_2 : decode b_Tellings_missingNumber 2 = .ok (.invokevirtual 67, 3) := by decide +kernel
theorem d_Tellings_missingNumber_5 : decode b_Tellings_missingNumber 5 = .ok (.lstore 4, 2) := by decide +kernel
theorem d_Tellings_missingNumber_7 : decode b_Tellings_missingNumber 7 = .ok (.iload_n 3, 1) := by decide +kernel
theorem d_Tellings_missingNumber_8 : decode b_Tellings_missingNumber 8 = .ok (.istore 6, 2) := by decide +kernel
theorem d_Tellings_missingNumber_10 : decode b_Tellings_missingNumber 10 = .ok (.aload_n 0, 1) := by decide +kernel
theorem d_Tellings_missingNumber_11 : decode b_Tellings_missingNumber 11 = .ok (.lload 4, 2) := by decide +kernel
theorem d_Tellings_missingNumber_13 : decode b_Tellings_missingNumber 13 = .ok (.iconst (-1), 1) := by decide +kernel
theorem d_Tellings_missingNumber_14 : decode b_Tellings_missingNumber 14 = .ok (.invokevirtual 71, 3) := by decide +kernel
theorem d_Tellings_missingNumber_17 : decode b_Tellings_missingNumber 17 = .ok (.istore 7, 2) := by decide +kernel
theorem d_Tellings_missingNumber_19 : decode b_Tellings_missingNumber 19 = .ok (.iconst 0, 1) := by decide +kernel
theorem d_Tellings_missingNumber_20 : decode b_Tellings_missingNumber 20 = .ok (.istore 8, 2) := by decide +kernel
theorem d_Tellings_missingNumber_22 : decode b_Tellings_missingNumber 22 = .ok (.iload 8, 2) := by decide +kernel
theorem d_Tellings_missingNumber_24 : decode b_Tellings_missingNumber 24 = .ok (.aload_n 0, 1) := by decide +kernel
theorem d_Tellings_missingNumber_25 : decode b_Tellings_missingNumber 25 = .ok (.getfield 34, 3) := by decide +kernel
theorem d_Tellings_missingNumber_28 : decode b_Tellings_missingNumber 28 = .ok (.if_icmp .ge 68, 3) := by decide +kernel
theorem d_Tellings_missingNumber_31 : decode b_Tellings_missingNumber 31 = .ok (.iload 7, 2) := by decide +kernel
theorem d_Tellings_missingNumber_33 : decode b_Tellings_missingNumber 33 = .ok (.iconst (-1), 1) := by decide +kernel
theorem d_Tellings_missingNumber_34 : decode b_Tellings_missingNumber 34 = .ok (.if_icmp .eq 62, 3) := by decide +kernel
theorem d_Tellings_missingNumber_37 : decode b_Tellings_missingNumber 37 = .ok (.aload_n 0, 1) := by decide +kernel
theorem d_Tellings_missingNumber_38 : decode b_Tellings_missingNumber 38 = .ok (.lload 4, 2) := by decide +kernel
theorem d_Tellings_missingNumber_40 : decode b_Tellings_missingNumber 40 = .ok (.iload 7, 2) := by decide +kernel
theorem d_Tellings_missingNumber_42 : decode b_Tellings_missingNumber 42 = .ok (.invokevirtual 71, 3) := by decide +kernel
theorem d_Tellings_missingNumber_45 : decode b_Tellings_missingNumber 45 = .ok (.istore 9, 2) := by decide +kernel
theorem d_Tellings_missingNumber_47 : decode b_Tellings_missingNumber 47 = .ok (.iload 9, 2) := by decide +kernel
theorem d_Tellings_missingNumber_49 : decode b_Tellings_missingNumber 49 = .ok (.iconst (-1), 1) := by decide +kernel
theorem d_Tellings_missingNumber_50 : decode b_Tellings_missingNumber 50 = .ok (.if_icmp .ne 5, 3) := by decide +kernel
theorem d_Tellings_missingNumber_53 : decode b_Tellings_missingNumber 53 = .ok (.iconst (-1), 1) := by decide +kernel
theorem d_Tellings_missingNumber_54 : decode b_Tellings_missingNumber 54 = .ok (.ireturn, 1) := by decide +kernel
theorem d_Tellings_missingNumber_55 : decode b_Tellings_missingNumber 55 = .ok (.iload 9, 2) := by decide +kernel
theorem d_Tellings_missingNumber_57 : decode b_Tellings_missingNumber 57 = .ok (.iload 7, 2) := by decide +kernel
theorem d_Tellings_missingNumber_59 : decode b_Tellings_missingNumber 59 = .ok (.isub, 1) := by decide +kernel
theorem d_Tellings_missingNumber_60 : decode b_Tellings_missingNumber 60 = .ok (.iconst 1, 1) := by decide +kernel
theorem d_Tellings_missingNumber_61 : decode b_Tellings_missingNumber 61 = .ok (.isub, 1) := by decide +kernel
theorem d_Tellings_missingNumber_62 : decode b_Tellings_missingNumber 62 = .ok (.istore 10, 2) := by decide +kernel
theorem d_Tellings_missingNumber_64 : decode b_Tellings_missingNumber 64 = .ok (.iload 6, 2) := by decide +kernel
theorem d_Tellings_missingNumber_66 : decode b_Tellings_missingNumber 66 = .ok (.iload 10, 2) := by decide +kernel
theorem d_Tellings_missingNumber_68 : decode b_Tellings_missingNumber 68 = .ok (.if_icmp .ge 11, 3) := by decide +kernel
theorem d_Tellings_missingNumber_71 : decode b_Tellings_missingNumber 71 = .ok (.iload 7, 2) := by decide +kernel
theorem d_Tellings_missingNumber_73 : decode b_Tellings_missingNumber 73 = .ok (.iconst 1, 1) := by decide +kernel
theorem d_Tellings_missingNumber_74 : decode b_Tellings_missingNumber 74 = .ok (.iadd, 1) := by decide +kernel
theorem d_Tellings_missingNumber_75 : decode b_Tellings_missingNumber 75 = .ok (.iload 6, 2) := by decide +kernel
theorem d_Tellings_missingNumber_77 : decode b_Tellings_missingNumber 77 = .ok (.iadd, 1) := by decide +kernel
theorem d_Tellings_missingNumber_78 : decode b_Tellings_missingNumber 78 = .ok (.ireturn, 1) := by decide +kernel
theorem d_Tellings_missingNumber_79 : decode b_Tellings_missingNumber 79 = .ok (.iload 6, 2) := by decide +kernel
theorem d_Tellings_missingNumber_81 : decode b_Tellings_missingNumber 81 = .ok (.iload 10, 2) := by decide +kernel
theorem d_Tellings_missingNumber_83 : decode b_Tellings_missingNumber 83 = .ok (.isub, 1) := by decide +kernel
theorem d_Tellings_missingNumber_84 : decode b_Tellings_missingNumber 84 = .ok (.istore 6, 2) := by decide +kernel
theorem d_Tellings_missingNumber_86 : decode b_Tellings_missingNumber 86 = .ok (.iload 9, 2) := by decide +kernel
theorem d_Tellings_missingNumber_88 : decode b_Tellings_missingNumber 88 = .ok (.istore 7, 2) := by decide +kernel
theorem d_Tellings_missingNumber_90 : decode b_Tellings_missingNumber 90 = .ok (.iinc 8 1, 3) := by decide +kernel
theorem d_Tellings_missingNumber_93 : decode b_Tellings_missingNumber 93 = .ok (.goto (-71), 3) := by decide +kernel
theorem d_Tellings_missingNumber_96 : decode b_Tellings_missingNumber 96 = .ok (.iconst (-1), 1) := by decide +kernel
theorem d_Tellings_missingNumber_97 : decode b_Tellings_missingNumber 97 = .ok (.ireturn, 1) := by decide +kernel
theorem d_Tellings_ofGreatestLife_0 : decode b_Tellings_ofGreatestLife 0 = .ok (.iconst (-1), 1) := by decide +kernel
theorem d_Tellings_ofGreatestLife_1 : decode b_Tellings_ofGreatestLife 1 = .ok (.istore_n 3, 1) := by decide +kernel
theorem d_Tellings_ofGreatestLife_2 : decode b_Tellings_ofGreatestLife 2 = .ok (.lconst 0, 1) := by decide +kernel
theorem d_Tellings_ofGreatestLife_3 : decode b_Tellings_ofGreatestLife 3 = .ok (.lstore 4, 2) := by decide +kernel
theorem d_Tellings_ofGreatestLife_5 : decode b_Tellings_ofGreatestLife 5 = .ok (.iconst 0, 1) := by decide +kernel
theorem d_Tellings_ofGreatestLife_6 : decode b_Tellings_ofGreatestLife 6 = .ok (.istore 6, 2) := by decide +kernel
theorem d_Tellings_ofGreatestLife_8 : decode b_Tellings_ofGreatestLife 8 = .ok (.iload 6, 2) := by decide +kernel
theorem d_Tellings_ofGreatestLife_10 : decode b_Tellings_ofGreatestLife 10 = .ok (.aload_n 0, 1) := by decide +kernel
theorem d_Tellings_ofGreatestLife_11 : decode b_Tellings_ofGreatestLife 11 = .ok (.getfield 34, 3) := by decide +kernel
theorem d_Tellings_ofGreatestLife_14 : decode b_Tellings_ofGreatestLife 14 = .ok (.if_icmp .ge 70, 3) := by decide +kernel
theorem d_Tellings_ofGreatestLife_17 : decode b_Tellings_ofGreatestLife 17 = .ok (.iload 6, 2) := by decide +kernel
theorem d_Tellings_ofGreatestLife_19 : decode b_Tellings_ofGreatestLife 19 = .ok (.lload_n 1, 1) := by decide +kernel
theorem d_Tellings_ofGreatestLife_20 : decode b_Tellings_ofGreatestLife 20 = .ok (.invokestatic 42, 3) := by decide +kernel
theorem d_Tellings_ofGreatestLife_23 : decode b_Tellings_ofGreatestLife 23 = .ok (.ifCond .eq 25, 3) := by decide +kernel
theorem d_Tellings_ofGreatestLife_26 : decode b_Tellings_ofGreatestLife 26 = .ok (.aload_n 0, 1) := by decide +kernel
theorem d_Tellings_ofGreatestLife_27 : decode b_Tellings_ofGreatestLife 27 = .ok (.getfield 15, 3) := by decide +kernel
theorem d_Tellings_ofGreatestLife_30 : decode b_Tellings_ofGreatestLife 30 = .ok (.iload 6, 2) := by decide +kernel
theorem d_Tellings_ofGreatestLife_32 : decode b_Tellings_ofGreatestLife 32 = .ok (.iaload, 1) := by decide +kernel
theorem d_Tellings_ofGreatestLife_33 : decode b_Tellings_ofGreatestLife 33 = .ok (.iload_n 3, 1) := by decide +kernel
theorem d_Tellings_ofGreatestLife_34 : decode b_Tellings_ofGreatestLife 34 = .ok (.if_icmp .le 14, 3) := by decide +kernel
theorem d_Tellings_ofGreatestLife_37 : decode b_Tellings_ofGreatestLife 37 = .ok (.aload_n 0, 1) := by decide +kernel
theorem d_Tellings_ofGreatestLife_38 : decode b_Tellings_ofGreatestLife 38 = .ok (.getfield 15, 3) := by decide +kernel
theorem d_Tellings_ofGreatestLife_41 : decode b_Tellings_ofGreatestLife 41 = .ok (.iload 6, 2) := by decide +kernel
theorem d_Tellings_ofGreatestLife_43 : decode b_Tellings_ofGreatestLife 43 = .ok (.iaload, 1) := by decide +kernel
theorem d_Tellings_ofGreatestLife_44 : decode b_Tellings_ofGreatestLife 44 = .ok (.istore_n 3, 1) := by decide +kernel
theorem d_Tellings_ofGreatestLife_45 : decode b_Tellings_ofGreatestLife 45 = .ok (.lconst 0, 1) := by decide +kernel
theorem d_Tellings_ofGreatestLife_46 : decode b_Tellings_ofGreatestLife 46 = .ok (.lstore 4, 2) := by decide +kernel
theorem d_Tellings_ofGreatestLife_48 : decode b_Tellings_ofGreatestLife 48 = .ok (.iload 6, 2) := by decide +kernel
theorem d_Tellings_ofGreatestLife_50 : decode b_Tellings_ofGreatestLife 50 = .ok (.lload_n 1, 1) := by decide +kernel
theorem d_Tellings_ofGreatestLife_51 : decode b_Tellings_ofGreatestLife 51 = .ok (.invokestatic 42, 3) := by decide +kernel
theorem d_Tellings_ofGreatestLife_54 : decode b_Tellings_ofGreatestLife 54 = .ok (.ifCond .eq 24, 3) := by decide +kernel
theorem d_Tellings_ofGreatestLife_57 : decode b_Tellings_ofGreatestLife 57 = .ok (.aload_n 0, 1) := by decide +kernel
theorem d_Tellings_ofGreatestLife_58 : decode b_Tellings_ofGreatestLife 58 = .ok (.getfield 15, 3) := by decide +kernel
theorem d_Tellings_ofGreatestLife_61 : decode b_Tellings_ofGreatestLife 61 = .ok (.iload 6, 2) := by decide +kernel
theorem d_Tellings_ofGreatestLife_63 : decode b_Tellings_ofGreatestLife 63 = .ok (.iaload, 1) := by decide +kernel
theorem d_Tellings_ofGreatestLife_64 : decode b_Tellings_ofGreatestLife 64 = .ok (.iload_n 3, 1) := by decide +kernel
theorem d_Tellings_ofGreatestLife_65 : decode b_Tellings_ofGreatestLife 65 = .ok (.if_icmp .ne 13, 3) := by decide +kernel
theorem d_Tellings_ofGreatestLife_68 : decode b_Tellings_ofGreatestLife 68 = .ok (.lload 4, 2) := by decide +kernel
theorem d_Tellings_ofGreatestLife_70 : decode b_Tellings_ofGreatestLife 70 = .ok (.iload 6, 2) := by decide +kernel
theorem d_Tellings_ofGreatestLife_72 : decode b_Tellings_ofGreatestLife 72 = .ok (.invokestatic 38, 3) := by decide +kernel
theorem d_Tellings_ofGreatestLife_75 : decode b_Tellings_ofGreatestLife 75 = .ok (.lor, 1) := by decide +kernel
theorem d_Tellings_ofGreatestLife_76 : decode b_Tellings_ofGreatestLife 76 = .ok (.lstore 4, 2) := by decide +kernel
theorem d_Tellings_ofGreatestLife_78 : decode b_Tellings_ofGreatestLife 78 = .ok (.iinc 6 1, 3) := by decide +kernel
theorem d_Tellings_ofGreatestLife_81 : decode b_Tellings_ofGreatestLife 81 = .ok (.goto (-73), 3) := by decide +kernel
theorem d_Tellings_ofGreatestLife_84 : decode b_Tellings_ofGreatestLife 84 = .ok (.lload 4, 2) := by decide +kernel
theorem d_Tellings_ofGreatestLife_86 : decode b_Tellings_ofGreatestLife 86 = .ok (.lreturn, 1) := by decide +kernel
theorem d_Tellings_nextNumber_0 : decode b_Tellings_nextNumber 0 = .ok (.iconst (-1), 1) := by decide +kernel
theorem d_Tellings_nextNumber_1 : decode b_Tellings_nextNumber 1 = .ok (.istore 4, 2) := by decide +kernel
theorem d_Tellings_nextNumber_3 : decode b_Tellings_nextNumber 3 = .ok (.iconst 0, 1) := by decide +kernel
theorem d_Tellings_nextNumber_4 : decode b_Tellings_nextNumber 4 = .ok (.istore 5, 2) := by decide +kernel
theorem d_Tellings_nextNumber_6 : decode b_Tellings_nextNumber 6 = .ok (.iload 5, 2) := by decide +kernel
theorem d_Tellings_nextNumber_8 : decode b_Tellings_nextNumber 8 = .ok (.aload_n 0, 1) := by decide +kernel
theorem d_Tellings_nextNumber_9 : decode b_Tellings_nextNumber 9 = .ok (.getfield 34, 3) := by decide +kernel
theorem d_Tellings_nextNumber_12 : decode b_Tellings_nextNumber 12 = .ok (.if_icmp .ge 56, 3) := by decide +kernel
theorem d_Tellings_nextNumber_15 : decode b_Tellings_nextNumber 15 = .ok (.iload 5, 2) := by decide +kernel
theorem d_Tellings_nextNumber_17 : decode b_Tellings_nextNumber 17 = .ok (.lload_n 1, 1) := by decide +kernel
theorem d_Tellings_nextNumber_18 : decode b_Tellings_nextNumber 18 = .ok (.invokestatic 42, 3) := by decide +kernel
theorem d_Tellings_nextNumber_21 : decode b_Tellings_nextNumber 21 = .ok (.ifCond .eq 41, 3) := by decide +kernel
theorem d_Tellings_nextNumber_24 : decode b_Tellings_nextNumber 24 = .ok (.aload_n 0, 1) := by decide +kernel
theorem d_Tellings_nextNumber_25 : decode b_Tellings_nextNumber 25 = .ok (.getfield 18, 3) := by decide +kernel
theorem d_Tellings_nextNumber_28 : decode b_Tellings_nextNumber 28 = .ok (.iload 5, 2) := by decide +kernel
theorem d_Tellings_nextNumber_30 : decode b_Tellings_nextNumber 30 = .ok (.iaload, 1) := by decide +kernel
theorem d_Tellings_nextNumber_31 : decode b_Tellings_nextNumber 31 = .ok (.iload_n 3, 1) := by decide +kernel
theorem d_Tellings_nextNumber_32 : decode b_Tellings_nextNumber 32 = .ok (.if_icmp .le 30, 3) := by decide +kernel
theorem d_Tellings_nextNumber_35 : decode b_Tellings_nextNumber 35 = .ok (.iload 4, 2) := by decide +kernel
theorem d_Tellings_nextNumber_37 : decode b_Tellings_nextNumber 37 = .ok (.iconst (-1), 1) := by decide +kernel
theorem d_Tellings_nextNumber_38 : decode b_Tellings_nextNumber 38 = .ok (.if_icmp .eq 15, 3) := by decide +kernel
theorem d_Tellings_nextNumber_41 : decode b_Tellings_nextNumber 41 = .ok (.aload_n 0, 1) := by decide +kernel
theorem d_Tellings_nextNumber_42 : decode b_Tellings_nextNumber 42 = .ok (.getfield 18, 3) := by decide +kernel
theorem d_Tellings_nextNumber_45 : decode b_Tellings_nextNumber 45 = .ok (.iload 5, 2) := by decide +kernel
theorem d_Tellings_nextNumber_47 : decode b_Tellings_nextNumber 47 = .ok (.iaload, 1) := by decide +kernel
theorem d_Tellings_nextNumber_48 : decode b_Tellings_nextNumber 48 = .ok (.iload 4, 2) := by decide +kernel
theorem d_Tellings_nextNumber_50 : decode b_Tellings_nextNumber 50 = .ok (.if_icmp .ge 12, 3) := by decide +kernel
theorem d_Tellings_nextNumber_53 : decode b_Tellings_nextNumber 53 = .ok (.aload_n 0, 1) := by decide +kernel
theorem d_Tellings_nextNumber_54 : decode b_Tellings_nextNumber 54 = .ok (.getfield 18, 3) := by decide +kernel
theorem d_Tellings_nextNumber_57 : decode b_Tellings_nextNumber 57 = .ok (.iload 5, 2) := by decide +kernel
theorem d_Tellings_nextNumber_59 : decode b_Tellings_nextNumber 59 = .ok (.iaload, 1) := by decide +kernel
theorem d_Tellings_nextNumber_60 : decode b_Tellings_nextNumber 60 = .ok (.istore 4, 2) := by decide +kernel
theorem d_Tellings_nextNumber_62 : decode b_Tellings_nextNumber 62 = .ok (.iinc 5 1, 3) := by decide +kernel
theorem d_Tellings_nextNumber_65 : decode b_Tellings_nextNumber 65 = .ok (.goto (-59), 3) := by decide +kernel
theorem d_Tellings_nextNumber_68 : decode b_Tellings_nextNumber 68 = .ok (.iload 4, 2) := by decide +kernel
theorem d_Tellings_nextNumber_70 : decode b_Tellings_nextNumber 70 = .ok (.ireturn, 1) := by decide +kernel
theorem d_Tellings_keyPart_0 : decode b_Tellings_keyPart 0 = .ok (.iload_n 2, 1) := by decide +kernel
theorem d_Tellings_keyPart_1 : decode b_Tellings_keyPart 1 = .ok (.tableswitch 59 0 3 #[31, 38, 45, 52], 31) := by decide +kernel
theorem d_Tellings_keyPart_32 : decode b_Tellings_keyPart 32 = .ok (.aload_n 0, 1) := by decide +kernel
theorem d_Tellings_keyPart_33 : decode b_Tellings_keyPart 33 = .ok (.getfield 9, 3) := by decide +kernel
theorem d_Tellings_keyPart_36 : decode b_Tellings_keyPart 36 = .ok (.iload_n 1, 1) := by decide +kernel
theorem d_Tellings_keyPart_37 : decode b_Tellings_keyPart 37 = .ok (.iaload, 1) := by decide +kernel
theorem d_Tellings_keyPart_38 : decode b_Tellings_keyPart 38 = .ok (.ireturn, 1) := by decide +kernel
theorem d_Tellings_keyPart_39 : decode b_Tellings_keyPart 39 = .ok (.aload_n 0, 1) := by decide +kernel
theorem d_Tellings_keyPart_40 : decode b_Tellings_keyPart 40 = .ok (.getfield 15, 3) := by decide +kernel
theorem d_Tellings_keyPart_43 : decode b_Tellings_keyPart 43 = .ok (.iload_n 1, 1) := by decide +kernel
theorem d_Tellings_keyPart_44 : decode b_Tellings_keyPart 44 = .ok (.iaload, 1) := by decide +kernel
theorem d_Tellings_keyPart_45 : decode b_Tellings_keyPart 45 = .ok (.ireturn, 1) := by decide +kernel
theorem d_Tellings_keyPart_46 : decode b_Tellings_keyPart 46 = .ok (.aload_n 0, 1) := by decide +kernel
theorem d_Tellings_keyPart_47 : decode b_Tellings_keyPart 47 = .ok (.getfield 18, 3) := by decide +kernel
theorem d_Tellings_keyPart_50 : decode b_Tellings_keyPart 50 = .ok (.iload_n 1, 1) := by decide +kernel
theorem d_Tellings_keyPart_51 : decode b_Tellings_keyPart 51 = .ok (.iaload, 1) := by decide +kernel
theorem d_Tellings_keyPart_52 : decode b_Tellings_keyPart 52 = .ok (.ireturn, 1) := by decide +kernel
theorem d_Tellings_keyPart_53 : decode b_Tellings_keyPart 53 = .ok (.aload_n 0, 1) := by decide +kernel
theorem d_Tellings_keyPart_54 : decode b_Tellings_keyPart 54 = .ok (.getfield 21, 3) := by decide +kernel
theorem d_Tellings_keyPart_57 : decode b_Tellings_keyPart 57 = .ok (.iload_n 1, 1) := by decide +kernel
theorem d_Tellings_keyPart_58 : decode b_Tellings_keyPart 58 = .ok (.iaload, 1) := by decide +kernel
theorem d_Tellings_keyPart_59 : decode b_Tellings_keyPart 59 = .ok (.ireturn, 1) := by decide +kernel
theorem d_Tellings_keyPart_60 : decode b_Tellings_keyPart 60 = .ok (.iconst (-1), 1) := by decide +kernel
theorem d_Tellings_keyPart_61 : decode b_Tellings_keyPart 61 = .ok (.ireturn, 1) := by decide +kernel
theorem d_Tellings_sumOfKind_0 : decode b_Tellings_sumOfKind 0 = .ok (.lconst 0, 1) := by decide +kernel
theorem d_Tellings_sumOfKind_1 : decode b_Tellings_sumOfKind 1 = .ok (.lstore 4, 2) := by decide +kernel
theorem d_Tellings_sumOfKind_3 : decode b_Tellings_sumOfKind 3 = .ok (.iconst 0, 1) := by decide +kernel
theorem d_Tellings_sumOfKind_4 : decode b_Tellings_sumOfKind 4 = .ok (.istore 6, 2) := by decide +kernel
theorem d_Tellings_sumOfKind_6 : decode b_Tellings_sumOfKind 6 = .ok (.iload 6, 2) := by decide +kernel
theorem d_Tellings_sumOfKind_8 : decode b_Tellings_sumOfKind 8 = .ok (.aload_n 0, 1) := by decide +kernel
theorem d_Tellings_sumOfKind_9 : decode b_Tellings_sumOfKind 9 = .ok (.getfield 34, 3) := by decide +kernel
theorem d_Tellings_sumOfKind_12 : decode b_Tellings_sumOfKind 12 = .ok (.if_icmp .ge 41, 3) := by decide +kernel
theorem d_Tellings_sumOfKind_15 : decode b_Tellings_sumOfKind 15 = .ok (.iload 6, 2) := by decide +kernel
theorem d_Tellings_sumOfKind_17 : decode b_Tellings_sumOfKind 17 = .ok (.lload_n 1, 1) := by decide +kernel
theorem d_Tellings_sumOfKind_18 : decode b_Tellings_sumOfKind 18 = .ok (.invokestatic 42, 3) := by decide +kernel
theorem d_Tellings_sumOfKind_21 : decode b_Tellings_sumOfKind 21 = .ok (.ifCond .eq 26, 3) := by decide +kernel
theorem d_Tellings_sumOfKind_24 : decode b_Tellings_sumOfKind 24 = .ok (.aload_n 0, 1) := by decide +kernel
theorem d_Tellings_sumOfKind_25 : decode b_Tellings_sumOfKind 25 = .ok (.getfield 21, 3) := by decide +kernel
theorem d_Tellings_sumOfKind_28 : decode b_Tellings_sumOfKind 28 = .ok (.iload 6, 2) := by decide +kernel
theorem d_Tellings_sumOfKind_30 : decode b_Tellings_sumOfKind 30 = .ok (.iaload, 1) := by decide +kernel
theorem d_Tellings_sumOfKind_31 : decode b_Tellings_sumOfKind 31 = .ok (.iload_n 3, 1) := by decide +kernel
theorem d_Tellings_sumOfKind_32 : decode b_Tellings_sumOfKind 32 = .ok (.if_icmp .ne 15, 3) := by decide +kernel
theorem d_Tellings_sumOfKind_35 : decode b_Tellings_sumOfKind 35 = .ok (.lload 4, 2) := by decide +kernel
theorem d_Tellings_sumOfKind_37 : decode b_Tellings_sumOfKind 37 = .ok (.aload_n 0, 1) := by decide +kernel
theorem d_Tellings_sumOfKind_38 : decode b_Tellings_sumOfKind 38 = .ok (.getfield 28, 3) := by decide +kernel
theorem d_Tellings_sumOfKind_41 : decode b_Tellings_sumOfKind 41 = .ok (.iload 6, 2) := by decide +kernel
theorem d_Tellings_sumOfKind_43 : decode b_Tellings_sumOfKind 43 = .ok (.laload, 1) := by decide +kernel
theorem d_Tellings_sumOfKind_44 : decode b_Tellings_sumOfKind 44 = .ok (.ladd, 1) := by decide +kernel
theorem d_Tellings_sumOfKind_45 : decode b_Tellings_sumOfKind 45 = .ok (.lstore 4, 2) := by decide +kernel
theorem d_Tellings_sumOfKind_47 : decode b_Tellings_sumOfKind 47 = .ok (.iinc 6 1, 3) := by decide +kernel
theorem d_Tellings_sumOfKind_50 : decode b_Tellings_sumOfKind 50 = .ok (.goto (-44), 3) := by decide +kernel
theorem d_Tellings_sumOfKind_53 : decode b_Tellings_sumOfKind 53 = .ok (.lload 4, 2) := by decide +kernel
theorem d_Tellings_sumOfKind_55 : decode b_Tellings_sumOfKind 55 = .ok (.lreturn, 1) := by decide +kernel
theorem d_Corrections_init_0 : decode b_Corrections_init 0 = .ok (.aload_n 0, 1) := by decide +kernel
theorem d_Corrections_init_1 : decode b_Corrections_init 1 = .ok (.invokespecial 3, 3) := by decide +kernel
theorem d_Corrections_init_4 : decode b_Corrections_init 4 = .ok (.aload_n 0, 1) := by decide +kernel
theorem d_Corrections_init_5 : decode b_Corrections_init 5 = .ok (.bipush 20, 2) := by decide +kernel
theorem d_Corrections_init_7 : decode b_Corrections_init 7 = .ok (.newarray .int, 2) := by decide +kernel
theorem d_Corrections_init_9 : decode b_Corrections_init 9 = .ok (.putfield 9, 3) := by decide +kernel
theorem d_Corrections_init_12 : decode b_Corrections_init 12 = .ok (.aload_n 0, 1) := by decide +kernel
theorem d_Corrections_init_13 : decode b_Corrections_init 13 = .ok (.bipush 20, 2) := by decide +kernel
theorem d_Corrections_init_15 : decode b_Corrections_init 15 = .ok (.newarray .int, 2) := by decide +kernel
theorem d_Corrections_init_17 : decode b_Corrections_init 17 = .ok (.putfield 15, 3) := by decide +kernel
theorem d_Corrections_init_20 : decode b_Corrections_init 20 = .ok (.aload_n 0, 1) := by decide +kernel
theorem d_Corrections_init_21 : decode b_Corrections_init 21 = .ok (.bipush 20, 2) := by decide +kernel
theorem d_Corrections_init_23 : decode b_Corrections_init 23 = .ok (.newarray .long, 2) := by decide +kernel
theorem d_Corrections_init_25 : decode b_Corrections_init 25 = .ok (.putfield 18, 3) := by decide +kernel
theorem d_Corrections_init_28 : decode b_Corrections_init 28 = .ok (.aload_n 0, 1) := by decide +kernel
theorem d_Corrections_init_29 : decode b_Corrections_init 29 = .ok (.bipush 20, 2) := by decide +kernel
theorem d_Corrections_init_31 : decode b_Corrections_init 31 = .ok (.newarray .long, 2) := by decide +kernel
theorem d_Corrections_init_33 : decode b_Corrections_init 33 = .ok (.putfield 22, 3) := by decide +kernel
theorem d_Corrections_init_36 : decode b_Corrections_init 36 = .ok (.aload_n 0, 1) := by decide +kernel
theorem d_Corrections_init_37 : decode b_Corrections_init 37 = .ok (.bipush 20, 2) := by decide +kernel
theorem d_Corrections_init_39 : decode b_Corrections_init 39 = .ok (.newarray .long, 2) := by decide +kernel
theorem d_Corrections_init_41 : decode b_Corrections_init 41 = .ok (.putfield 25, 3) := by decide +kernel
theorem d_Corrections_init_44 : decode b_Corrections_init 44 = .ok (.return_, 1) := by decide +kernel
theorem d_Corrections_findOrAdd_0 : decode b_Corrections_findOrAdd 0 = .ok (.iconst 0, 1) := by decide +kernel
theorem d_Corrections_findOrAdd_1 : decode b_Corrections_findOrAdd 1 = .ok (.istore 9, 2) := by decide +kernel
theorem d_Corrections_findOrAdd_3 : decode b_Corrections_findOrAdd 3 = .ok (.iload 9, 2) := by decide +kernel
theorem d_Corrections_findOrAdd_5 : decode b_Corrections_findOrAdd 5 = .ok (.aload_n 0, 1) := by decide +kernel
theorem d_Corrections_findOrAdd_6 : decode b_Corrections_findOrAdd 6 = .ok (.getfield 28, 3) := by decide +kernel
theorem d_Corrections_findOrAdd_9 : decode b_Corrections_findOrAdd 9 = .ok (.if_icmp .ge 50, 3) := by decide +kernel
theorem d_Corrections_findOrAdd_12 : decode b_Corrections_findOrAdd 12 = .ok (.aload_n 0, 1) := by decide +kernel
theorem d_Corrections_findOrAdd_13 : decode b_Corrections_findOrAdd 13 = .ok (.iload 9, 2) := by decide +kernel
theorem d_Corrections_findOrAdd_15 : decode b_Corrections_findOrAdd 15 = .ok (.iload_n 1, 1) := by decide +kernel
theorem d_Corrections_findOrAdd_16 : decode b_Corrections_findOrAdd 16 = .ok (.iload_n 2, 1) := by decide +kernel
theorem d_Corrections_findOrAdd_17 : decode b_Corrections_findOrAdd 17 = .ok (.lload_n 3, 1) := by decide +kernel
theorem d_Corrections_findOrAdd_18 : decode b_Corrections_findOrAdd 18 = .ok (.invokevirtual 32, 3) := by decide +kernel
theorem d_Corrections_findOrAdd_21 : decode b_Corrections_findOrAdd 21 = .ok (.ifCond .eq 32, 3) := by decide +kernel
theorem d_Corrections_findOrAdd_24 : decode b_Corrections_findOrAdd 24 = .ok (.aload_n 0, 1) := by decide +kernel
theorem d_Corrections_findOrAdd_25 : decode b_Corrections_findOrAdd 25 = .ok (.getfield 22, 3) := by decide +kernel
theorem d_Corrections_findOrAdd_28 : decode b_Corrections_findOrAdd 28 = .ok (.iload 9, 2) := by decide +kernel
theorem d_Corrections_findOrAdd_30 : decode b_Corrections_findOrAdd 30 = .ok (.laload, 1) := by decide +kernel
theorem d_Corrections_findOrAdd_31 : decode b_Corrections_findOrAdd 31 = .ok (.lload 5, 2) := by decide +kernel
theorem d_Corrections_findOrAdd_33 : decode b_Corrections_findOrAdd 33 = .ok (.lcmp, 1) := by decide +kernel
theorem d_Corrections_findOrAdd_34 : decode b_Corrections_findOrAdd 34 = .ok (.ifCond .ne 19, 3) := by decide +kernel
theorem d_Corrections_findOrAdd_37 : decode b_Corrections_findOrAdd 37 = .ok (.aload_n 0, 1) := by decide +kernel
theorem d_Corrections_findOrAdd_38 : decode b_Corrections_findOrAdd 38 = .ok (.getfield 25, 3) := by decide +kernel
theorem d_Corrections_findOrAdd_41 : decode b_Corrections_findOrAdd 41 = .ok (.iload 9, 2) := by decide +kernel
theorem d_Corrections_findOrAdd_43 : decode b_Corrections_findOrAdd 43 = .ok (.laload, 1) := by decide +kernel
theorem d_Corrections_findOrAdd_44 : decode b_Corrections_findOrAdd 44 = .ok (.lload 7, 2) := by decide +kernel
theorem d_Corrections_findOrAdd_46 : decode b_Corrections_findOrAdd 46 = .ok (.lcmp, 1) := by decide +kernel
theorem d_Corrections_findOrAdd_47 : decode b_Corrections_findOrAdd 47 = .ok (.ifCond .ne 6, 3) := by decide +kernel
theorem d_Corrections_findOrAdd_50 : decode b_Corrections_findOrAdd 50 = .ok (.iload 9, 2) := by decide +kernel
theorem d_Corrections_findOrAdd_52 : decode b_Corrections_findOrAdd 52 = .ok (.ireturn, 1) := by decide +kernel
theorem d_Corrections_findOrAdd_53 : decode b_Corrections_findOrAdd 53 = .ok (.iinc 9 1, 3) := by decide +kernel
theorem d_Corrections_findOrAdd_56 : decode b_Corrections_findOrAdd 56 = .ok (.goto (-53), 3) := by decide +kernel
theorem d_Corrections_findOrAdd_59 : decode b_Corrections_findOrAdd 59 = .ok (.aload_n 0, 1) := by decide +kernel
theorem d_Corrections_findOrAdd_60 : decode b_Corrections_findOrAdd 60 = .ok (.getfield 28, 3) := by decide +kernel
theorem d_Corrections_findOrAdd_63 : decode b_Corrections_findOrAdd 63 = .ok (.bipush 20, 2) := by decide +kernel
theorem d_Corrections_findOrAdd_65 : decode b_Corrections_findOrAdd 65 = .ok (.if_icmp .lt 5, 3) := by decide +kernel
theorem d_Corrections_findOrAdd_68 : decode b_Corrections_findOrAdd 68 = .ok (.iconst (-1), 1) := by decide +kernel
theorem d_Corrections_findOrAdd_69 : decode b_Corrections_findOrAdd 69 = .ok (.ireturn, 1) := by decide +kernel
theorem d_Corrections_findOrAdd_70 : decode b_Corrections_findOrAdd 70 = .ok (.aload_n 0, 1) := by decide +kernel
theorem d_Corrections_findOrAdd_71 : decode b_Corrections_findOrAdd 71 = .ok (.getfield 9, 3) := by decide +kernel
theorem d_Corrections_findOrAdd_74 : decode b_Corrections_findOrAdd 74 = .ok (.aload_n 0, 1) := by decide +kernel
theorem d_Corrections_findOrAdd_75 : decode b_Corrections_findOrAdd 75 = .ok (.getfield 28, 3) := by decide +kernel
theorem d_Corrections_findOrAdd_78 : decode b_Corrections_findOrAdd 78 = .ok (.iload_n 1, 1) := by decide +kernel
theorem d_Corrections_findOrAdd_79 : decode b_Corrections_findOrAdd 79 = .ok (.iastore, 1) := by decide +kernel
theorem d_Corrections_findOrAdd_80 : decode b_Corrections_findOrAdd 80 = .ok (.aload_n 0, 1) := by decide +kernel
theorem d_Corrections_findOrAdd_81 : decode b_Corrections_findOrAdd 81 = .ok (.getfield 15, 3) := by decide +kernel
theorem d_Corrections_findOrAdd_84 : decode b_Corrections_findOrAdd 84 = .ok (.aload_n 0, 1) := by decide +kernel
theorem d_Corrections_findOrAdd_85 : decode b_Corrections_findOrAdd 85 = .ok (.getfield 28, 3) := by decide +kernel
theorem d_Corrections_findOrAdd_88 : decode b_Corrections_findOrAdd 88 = .ok (.iload_n 2, 1) := by decide +kernel
theorem d_Corrections_findOrAdd_89 : decode b_Corrections_findOrAdd 89 = .ok (.iastore, 1) := by decide +kernel
theorem d_Corrections_findOrAdd_90 : decode b_Corrections_findOrAdd 90 = .ok (.aload_n 0, 1) := by decide +kernel
theorem d_Corrections_findOrAdd_91 : decode b_Corrections_findOrAdd 91 = .ok (.getfield 18, 3) := by decide +kernel
theorem d_Corrections_findOrAdd_94 : decode b_Corrections_findOrAdd 94 = .ok (.aload_n 0, 1) := by decide +kernel
theorem d_Corrections_findOrAdd_95 : decode b_Corrections_findOrAdd 95 = .ok (.getfield 28, 3) := by decide +kernel
theorem d_Corrections_findOrAdd_98 : decode b_Corrections_findOrAdd 98 = .ok (.lload_n 3, 1) := by decide +kernel
theorem d_Corrections_findOrAdd_99 : decode b_Corrections_findOrAdd 99 = .ok (.lastore, 1) := by decide +kernel
theorem d_Corrections_findOrAdd_100 : decode b_Corrections_findOrAdd 100 = .ok (.aload_n 0, 1) := by decide +kernel
theorem d_Corrections_findOrAdd_101 : decode b_Corrections_findOrAdd 101 = .ok (.getfield 22, 3) := by decide +kernel
theorem d_Corrections_findOrAdd_104 : decode b_Corrections_findOrAdd 104 = .ok (.aload_n 0, 1) := by decide +kernel
theorem d_Corrections_findOrAdd_105 : decode b_Corrections_findOrAdd 105 = .ok (.getfield 28, 3) := by decide +kernel
theorem d_Corrections_findOrAdd_108 : decode b_Corrections_findOrAdd 108 = .ok (.lload 5, 2) := by decide +kernel
theorem d_Corrections_findOrAdd_110 : decode b_Corrections_findOrAdd 110 = .ok (.lastore, 1) := by decide +kernel
theorem d_Corrections_findOrAdd_111 : decode b_Corrections_findOrAdd 111 = .ok (.aload_n 0, 1) := by decide +kernel
theorem d_Corrections_findOrAdd_112 : decode b_Corrections_findOrAdd 112 = .ok (.getfield 25, 3) := by decide +kernel
theorem d_Corrections_findOrAdd_115 : decode b_Corrections_findOrAdd 115 = .ok (.aload_n 0, 1) := by decide +kernel
theorem d_Corrections_findOrAdd_116 : decode b_Corrections_findOrAdd 116 = .ok (.getfield 28, 3) := by decide +kernel
theorem d_Corrections_findOrAdd_119 : decode b_Corrections_findOrAdd 119 = .ok (.lload 7, 2) := by decide +kernel
theorem d_Corrections_findOrAdd_121 : decode b_Corrections_findOrAdd 121 = .ok (.lastore, 1) := by decide +kernel
theorem d_Corrections_findOrAdd_122 : decode b_Corrections_findOrAdd 122 = .ok (.aload_n 0, 1) := by decide +kernel
theorem d_Corrections_findOrAdd_123 : decode b_Corrections_findOrAdd 123 = .ok (.dup, 1) := by decide +kernel
theorem d_Corrections_findOrAdd_124 : decode b_Corrections_findOrAdd 124 = .ok (.getfield 28, 3) := by decide +kernel
theorem d_Corrections_findOrAdd_127 : decode b_Corrections_findOrAdd 127 = .ok (.iconst 1, 1) := by decide +kernel
theorem d_Corrections_findOrAdd_128 : decode b_Corrections_findOrAdd 128 = .ok (.iadd, 1) := by decide +kernel
theorem d_Corrections_findOrAdd_129 : decode b_Corrections_findOrAdd 129 = .ok (.putfield 28, 3) := by decide +kernel
theorem d_Corrections_findOrAdd_132 : decode b_Corrections_findOrAdd 132 = .ok (.aload_n 0, 1) := by decide +kernel
theorem d_Corrections_findOrAdd_133 : decode b_Corrections_findOrAdd 133 = .ok (.getfield 28, 3) := by decide +kernel
theorem d_Corrections_findOrAdd_136 : decode b_Corrections_findOrAdd 136 = .ok (.iconst 1, 1) := by decide +kernel
theorem d_Corrections_findOrAdd_137 : decode b_Corrections_findOrAdd 137 = .ok (.isub, 1) := by decide +kernel
theorem d_Corrections_findOrAdd_138 : decode b_Corrections_findOrAdd 138 = .ok (.ireturn, 1) := by decide +kernel
theorem d_Corrections_latest_0 : decode b_Corrections_latest 0 = .ok (.iconst (-1), 1) := by decide +kernel
theorem d_Corrections_latest_1 : decode b_Corrections_latest 1 = .ok (.istore 9, 2) := by decide +kernel
theorem d_Corrections_latest_3 : decode b_Corrections_latest 3 = .ok (.iconst 0, 1) := by decide +kernel
theorem d_Corrections_latest_4 : decode b_Corrections_latest 4 = .ok (.istore 10, 2) := by decide +kernel
theorem d_Corrections_latest_6 : decode b_Corrections_latest 6 = .ok (.iload 10, 2) := by decide +kernel
theorem d_Corrections_latest_8 : decode b_Corrections_latest 8 = .ok (.aload_n 0, 1) := by decide +kernel
theorem d_Corrections_latest_9 : decode b_Corrections_latest 9 = .ok (.getfield 28, 3) := by decide +kernel
theorem d_Corrections_latest_12 : decode b_Corrections_latest 12 = .ok (.if_icmp .ge 66, 3) := by decide +kernel
theorem d_Corrections_latest_15 : decode b_Corrections_latest 15 = .ok (.iload 10, 2) := by decide +kernel
theorem d_Corrections_latest_17 : decode b_Corrections_latest 17 = .ok (.lload_n 1, 1) := by decide +kernel
theorem d_Corrections_latest_18 : decode b_Corrections_latest 18 = .ok (.invokestatic 36, 3) := by decide +kernel
theorem d_Corrections_latest_21 : decode b_Corrections_latest 21 = .ok (.ifCond .eq 51, 3) := by decide +kernel
theorem d_Corrections_latest_24 : decode b_Corrections_latest 24 = .ok (.aload_n 0, 1) := by decide +kernel
theorem d_Corrections_latest_25 : decode b_Corrections_latest 25 = .ok (.iload 10, 2) := by decide +kernel
theorem d_Corrections_latest_27 : decode b_Corrections_latest 27 = .ok (.iload_n 3, 1) := by decide +kernel
theorem d_Corrections_latest_28 : decode b_Corrections_latest 28 = .ok (.iload 4, 2) := by decide +kernel
theorem d_Corrections_latest_30 : decode b_Corrections_latest 30 = .ok (.lload 5, 2) := by decide +kernel
theorem d_Corrections_latest_32 : decode b_Corrections_latest 32 = .ok (.invokevirtual 32, 3) := by decide +kernel
theorem d_Corrections_latest_35 : decode b_Corrections_latest 35 = .ok (.ifCond .eq 37, 3) := by decide +kernel
theorem d_Corrections_latest_38 : decode b_Corrections_latest 38 = .ok (.aload_n 0, 1) := by decide +kernel
theorem d_Corrections_latest_39 : decode b_Corrections_latest 39 = .ok (.getfield 25, 3) := by decide +kernel
theorem d_Corrections_latest_42 : decode b_Corrections_latest 42 = .ok (.iload 10, 2) := by decide +kernel
theorem d_Corrections_latest_44 : decode b_Corrections_latest 44 = .ok (.laload, 1) := by decide +kernel
theorem d_Corrections_latest_45 : decode b_Corrections_latest 45 = .ok (.lload 7, 2) := by decide +kernel
theorem d_Corrections_latest_47 : decode b_Corrections_latest 47 = .ok (.lcmp, 1) := by decide +kernel
theorem d_Corrections_latest_48 : decode b_Corrections_latest 48 = .ok (.ifCond .gt 24, 3) := by decide +kernel
theorem d_Corrections_latest_51 : decode b_Corrections_latest 51 = .ok (.iload 9, 2) := by decide +kernel
theorem d_Corrections_latest_53 : decode b_Corrections_latest 53 = .ok (.iconst (-1), 1) := by decide +kernel
theorem d_Corrections_latest_54 : decode b_Corrections_latest 54 = .ok (.if_icmp .eq 14, 3) := by decide +kernel
theorem d_Corrections_latest_57 : decode b_Corrections_latest 57 = .ok (.aload_n 0, 1) := by decide +kernel
theorem d_Corrections_latest_58 : decode b_Corrections_latest 58 = .ok (.iload 10, 2) := by decide +kernel
theorem d_Corrections_latest_60 : decode b_Corrections_latest 60 = .ok (.iload 9, 2) := by decide +kernel
theorem d_Corrections_latest_62 : decode b_Corrections_latest 62 = .ok (.invokevirtual 40, 3) := by decide +kernel
theorem d_Corrections_latest_65 : decode b_Corrections_latest 65 = .ok (.ifCond .eq 7, 3) := by decide +kernel
theorem d_Corrections_latest_68 : decode b_Corrections_latest 68 = .ok (.iload 10, 2) := by decide +kernel
theorem d_Corrections_latest_70 : decode b_Corrections_latest 70 = .ok (.istore 9, 2) := by decide +kernel
theorem d_Corrections_latest_72 : decode b_Corrections_latest 72 = .ok (.iinc 10 1, 3) := by decide +kernel
theorem d_Corrections_latest_75 : decode b_Corrections_latest 75 = .ok (.goto (-69), 3) := by decide +kernel
theorem d_Corrections_latest_78 : decode b_Corrections_latest 78 = .ok (.iload 9, 2) := by decide +kernel
theorem d_Corrections_latest_80 : decode b_Corrections_latest 80 = .ok (.ireturn, 1) := by decide +kernel
theorem d_Corrections_isFor_0 : decode b_Corrections_isFor 0 = .ok (.aload_n 0, 1) := by decide +kernel
theorem d_Corrections_isFor_1 : decode b_Corrections_isFor 1 = .ok (.getfield 9, 3) := by decide +kernel
theorem d_Corrections_isFor_4 : decode b_Corrections_isFor 4 = .ok (.iload_n 1, 1) := by decide +kernel
theorem d_Corrections_isFor_5 : decode b_Corrections_isFor 5 = .ok (.iaload, 1) := by decide +kernel
theorem d_Corrections_isFor_6 : decode b_Corrections_isFor 6 = .ok (.iload_n 2, 1) := by decide +kernel
theorem d_Corrections_isFor_7 : decode b_Corrections_isFor 7 = .ok (.if_icmp .ne 29, 3) := by decide +kernel
theorem d_Corrections_isFor_10 : decode b_Corrections_isFor 10 = .ok (.aload_n 0, 1) := by decide +kernel
theorem d_Corrections_isFor_11 : decode b_Corrections_isFor 11 = .ok (.getfield 15, 3) := by decide +kernel
theorem d_Corrections_isFor_14 : decode b_Corrections_isFor 14 = .ok (.iload_n 1, 1) := by decide +kernel
theorem d_Corrections_isFor_15 : decode b_Corrections_isFor 15 = .ok (.iaload, 1) := by decide +kernel
theorem d_Corrections_isFor_16 : decode b_Corrections_isFor 16 = .ok (.iload_n 3, 1) := by decide +kernel
theorem d_Corrections_isFor_17 : decode b_Corrections_isFor 17 = .ok (.if_icmp .ne 19, 3) := by decide +kernel
theorem d_Corrections_isFor_20 : decode b_Corrections_isFor 20 = .ok (.aload_n 0, 1) := by decide +kernel
theorem d_Corrections_isFor_21 : decode b_Corrections_isFor 21 = .ok (.getfield 18, 3) := by decide +kernel
theorem d_Corrections_isFor_24 : decode b_Corrections_isFor 24 = .ok (.iload_n 1, 1) := by decide +kernel
theorem d_Corrections_isFor_25 : decode b_Corrections_isFor 25 = .ok (.laload, 1) := by decide +kernel
theorem d_Corrections_isFor_26 : decode b_Corrections_isFor 26 = .ok (.lload 4, 2) := by decide +kernel
theorem d_Corrections_isFor_28 : decode b_Corrections_isFor 28 = .ok (.lcmp, 1) := by decide +kernel
theorem d_Corrections_isFor_29 : decode b_Corrections_isFor 29 = .ok (.ifCond .ne 7, 3) := by decide +kernel
theorem d_Corrections_isFor_32 : decode b_Corrections_isFor 32 = .ok (.iconst 1, 1) := by decide +kernel
theorem d_Corrections_isFor_33 : decode b_Corrections_isFor 33 = .ok (.goto 4, 3) := by decide +kernel
theorem d_Corrections_isFor_36 : decode b_Corrections_isFor 36 = .ok (.iconst 0, 1) := by decide +kernel
theorem d_Corrections_isFor_37 : decode b_Corrections_isFor 37 = .ok (.ireturn, 1) := by decide +kernel
theorem d_Corrections_isStronger_0 : decode b_Corrections_isStronger 0 = .ok (.aload_n 0, 1) := by decide +kernel
theorem d_Corrections_isStronger_1 : decode b_Corrections_isStronger 1 = .ok (.getfield 25, 3) := by decide +kernel
theorem d_Corrections_isStronger_4 : decode b_Corrections_isStronger 4 = .ok (.iload_n 1, 1) := by decide +kernel
theorem d_Corrections_isStronger_5 : decode b_Corrections_isStronger 5 = .ok (.laload, 1) := by decide +kernel
theorem d_Corrections_isStronger_6 : decode b_Corrections_isStronger 6 = .ok (.aload_n 0, 1) := by decide +kernel
theorem d_Corrections_isStronger_7 : decode b_Corrections_isStronger 7 = .ok (.getfield 25, 3) := by decide +kernel
theorem d_Corrections_isStronger_10 : decode b_Corrections_isStronger 10 = .ok (.iload_n 2, 1) := by decide +kernel
theorem d_Corrections_isStronger_11 : decode b_Corrections_isStronger 11 = .ok (.laload, 1) := by decide +kernel
theorem d_Corrections_isStronger_12 : decode b_Corrections_isStronger 12 = .ok (.lcmp, 1) := by decide +kernel
theorem d_Corrections_isStronger_13 : decode b_Corrections_isStronger 13 = .ok (.ifCond .eq 27, 3) := by decide +kernel
theorem d_Corrections_isStronger_16 : decode b_Corrections_isStronger 16 = .ok (.aload_n 0, 1) := by decide +kernel
theorem d_Corrections_isStronger_17 : decode b_Corrections_isStronger 17 = .ok (.getfield 25, 3) := by decide +kernel
theorem d_Corrections_isStronger_20 : decode b_Corrections_isStronger 20 = .ok (.iload_n 1, 1) := by decide +kernel
theorem d_Corrections_isStronger_21 : decode b_Corrections_isStronger 21 = .ok (.laload, 1) := by decide +kernel
theorem d_Corrections_isStronger_22 : decode b_Corrections_isStronger 22 = .ok (.aload_n 0, 1) := by decide +kernel
theorem d_Corrections_isStronger_23 : decode b_Corrections_isStronger 23 = .ok (.getfield 25, 3) := by decide +kernel
theorem d_Corrections_isStronger_26 : decode b_Corrections_isStronger 26 = .ok (.iload_n 2, 1) := by decide +kernel
theorem d_Corrections_isStronger_27 : decode b_Corrections_isStronger 27 = .ok (.laload, 1) := by decide +kernel
theorem d_Corrections_isStronger_28 : decode b_Corrections_isStronger 28 = .ok (.lcmp, 1) := by decide +kernel
theorem d_Corrections_isStronger_29 : decode b_Corrections_isStronger 29 = .ok (.ifCond .le 7, 3) := by decide +kernel
theorem d_Corrections_isStronger_32 : decode b_Corrections_isStronger 32 = .ok (.iconst 1, 1) := by decide +kernel
theorem d_Corrections_isStronger_33 : decode b_Corrections_isStronger 33 = .ok (.goto 28, 3) := by decide +kernel
theorem d_Corrections_isStronger_36 : decode b_Corrections_isStronger 36 = .ok (.iconst 0, 1) := by decide +kernel
theorem d_Corrections_isStronger_37 : decode b_Corrections_isStronger 37 = .ok (.goto 24, 3) := by decide +kernel
theorem d_Corrections_isStronger_40 : decode b_Corrections_isStronger 40 = .ok (.aload_n 0, 1) := by decide +kernel
theorem d_Corrections_isStronger_41 : decode b_Corrections_isStronger 41 = .ok (.getfield 22, 3) := by decide +kernel
theorem d_Corrections_isStronger_44 : decode b_Corrections_isStronger 44 = .ok (.iload_n 1, 1) := by decide +kernel
theorem d_Corrections_isStronger_45 : decode b_Corrections_isStronger 45 = .ok (.laload, 1) := by decide +kernel
theorem d_Corrections_isStronger_46 : decode b_Corrections_isStronger 46 = .ok (.aload_n 0, 1) := by decide +kernel
theorem d_Corrections_isStronger_47 : decode b_Corrections_isStronger 47 = .ok (.getfield 22, 3) := by decide +kernel
theorem d_Corrections_isStronger_50 : decode b_Corrections_isStronger 50 = .ok (.iload_n 2, 1) := by decide +kernel
theorem d_Corrections_isStronger_51 : decode b_Corrections_isStronger 51 = .ok (.laload, 1) := by decide +kernel
theorem d_Corrections_isStronger_52 : decode b_Corrections_isStronger 52 = .ok (.lcmp, 1) := by decide +kernel
theorem d_Corrections_isStronger_53 : decode b_Corrections_isStronger 53 = .ok (.ifCond .le 7, 3) := by decide +kernel
theorem d_Corrections_isStronger_56 : decode b_Corrections_isStronger 56 = .ok (.iconst 1, 1) := by decide +kernel
theorem d_Corrections_isStronger_57 : decode b_Corrections_isStronger 57 = .ok (.goto 4, 3) := by decide +kernel
theorem d_Corrections_isStronger_60 : decode b_Corrections_isStronger 60 = .ok (.iconst 0, 1) := by decide +kernel
theorem d_Corrections_isStronger_61 : decode b_Corrections_isStronger 61 = .ok (.ireturn, 1) := by decide +kernel
