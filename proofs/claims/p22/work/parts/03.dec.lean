theorem dX0_init_0 : decode cX0_init 0 = .ok (.aload_n 0, 1) := by decide +kernel
theorem dX0_init_1 : decode cX0_init 1 = .ok (.invokespecial 3, 3) := by decide +kernel
theorem dX0_init_4 : decode cX0_init 4 = .ok (.aload_n 0, 1) := by decide +kernel
theorem dX0_init_5 : decode cX0_init 5 = .ok (.ldc 9, 2) := by decide +kernel
theorem dX0_init_7 : decode cX0_init 7 = .ok (.newarray .int, 2) := by decide +kernel
theorem dX0_init_9 : decode cX0_init 9 = .ok (.putfield 10, 3) := by decide +kernel
theorem dX0_init_12 : decode cX0_init 12 = .ok (.aload_n 0, 1) := by decide +kernel
theorem dX0_init_13 : decode cX0_init 13 = .ok (.bipush 60, 2) := by decide +kernel
theorem dX0_init_15 : decode cX0_init 15 = .ok (.newarray .int, 2) := by decide +kernel
theorem dX0_init_17 : decode cX0_init 17 = .ok (.putfield 14, 3) := by decide +kernel
theorem dX0_init_20 : decode cX0_init 20 = .ok (.aload_n 0, 1) := by decide +kernel
theorem dX0_init_21 : decode cX0_init 21 = .ok (.bipush 60, 2) := by decide +kernel
theorem dX0_init_23 : decode cX0_init 23 = .ok (.newarray .int, 2) := by decide +kernel
theorem dX0_init_25 : decode cX0_init 25 = .ok (.putfield 17, 3) := by decide +kernel
theorem dX0_init_28 : decode cX0_init 28 = .ok (.iconst 0, 1) := by decide +kernel
theorem dX0_init_29 : decode cX0_init 29 = .ok (.istore_n 1, 1) := by decide +kernel
theorem dX0_init_30 : decode cX0_init 30 = .ok (.iload_n 1, 1) := by decide +kernel
theorem dX0_init_31 : decode cX0_init 31 = .ok (.sipush 960, 3) := by decide +kernel
theorem dX0_init_34 : decode cX0_init 34 = .ok (.if_icmp .ge 16, 3) := by decide +kernel
theorem dX0_init_37 : decode cX0_init 37 = .ok (.aload_n 0, 1) := by decide +kernel
theorem dX0_init_38 : decode cX0_init 38 = .ok (.getfield 10, 3) := by decide +kernel
theorem dX0_init_41 : decode cX0_init 41 = .ok (.iload_n 1, 1) := by decide +kernel
theorem dX0_init_42 : decode cX0_init 42 = .ok (.iconst (-1), 1) := by decide +kernel
theorem dX0_init_43 : decode cX0_init 43 = .ok (.iastore, 1) := by decide +kernel
theorem dX0_init_44 : decode cX0_init 44 = .ok (.iinc 1 1, 3) := by decide +kernel
theorem dX0_init_47 : decode cX0_init 47 = .ok (.goto (-17), 3) := by decide +kernel
theorem dX0_init_50 : decode cX0_init 50 = .ok (.return_, 1) := by decide +kernel
theorem dX0_put_0 : decode cX0_put 0 = .ok (.iload_n 1, 1) := by decide +kernel
theorem dX0_put_1 : decode cX0_put 1 = .ok (.iload_n 2, 1) := by decide +kernel
theorem dX0_put_2 : decode cX0_put 2 = .ok (.invokestatic 20, 3) := by decide +kernel
theorem dX0_put_5 : decode cX0_put 5 = .ok (.iload_n 3, 1) := by decide +kernel
theorem dX0_put_6 : decode cX0_put 6 = .ok (.iload_n 1, 1) := by decide +kernel
theorem dX0_put_7 : decode cX0_put 7 = .ok (.invokestatic 24, 3) := by decide +kernel
theorem dX0_put_10 : decode cX0_put 10 = .ok (.invokestatic 28, 3) := by decide +kernel
theorem dX0_put_13 : decode cX0_put 13 = .ok (.iload 4, 2) := by decide +kernel
theorem dX0_put_15 : decode cX0_put 15 = .ok (.iload 5, 2) := by decide +kernel
theorem dX0_put_17 : decode cX0_put 17 = .ok (.invokestatic 31, 3) := by decide +kernel
theorem dX0_put_20 : decode cX0_put 20 = .ok (.aload_n 0, 1) := by decide +kernel
theorem dX0_put_21 : decode cX0_put 21 = .ok (.iload_n 1, 1) := by decide +kernel
theorem dX0_put_22 : decode cX0_put 22 = .ok (.iload_n 2, 1) := by decide +kernel
theorem dX0_put_23 : decode cX0_put 23 = .ok (.invokestatic 34, 3) := by decide +kernel
theorem dX0_put_26 : decode cX0_put 26 = .ok (.iload 4, 2) := by decide +kernel
theorem dX0_put_28 : decode cX0_put 28 = .ok (.iload 5, 2) := by decide +kernel
theorem dX0_put_30 : decode cX0_put 30 = .ok (.iload_n 3, 1) := by decide +kernel
theorem dX0_put_31 : decode cX0_put 31 = .ok (.invokevirtual 38, 3) := by decide +kernel
theorem dX0_put_34 : decode cX0_put 34 = .ok (.aload_n 0, 1) := by decide +kernel
theorem dX0_put_35 : decode cX0_put 35 = .ok (.iload_n 1, 1) := by decide +kernel
theorem dX0_put_36 : decode cX0_put 36 = .ok (.iload_n 2, 1) := by decide +kernel
theorem dX0_put_37 : decode cX0_put 37 = .ok (.invokevirtual 42, 3) := by decide +kernel
theorem dX0_put_40 : decode cX0_put 40 = .ok (.ireturn, 1) := by decide +kernel
theorem dX0_erase_0 : decode cX0_erase 0 = .ok (.iload_n 1, 1) := by decide +kernel
theorem dX0_erase_1 : decode cX0_erase 1 = .ok (.iload_n 2, 1) := by decide +kernel
theorem dX0_erase_2 : decode cX0_erase 2 = .ok (.invokestatic 20, 3) := by decide +kernel
theorem dX0_erase_5 : decode cX0_erase 5 = .ok (.iload_n 3, 1) := by decide +kernel
theorem dX0_erase_6 : decode cX0_erase 6 = .ok (.iload 4, 2) := by decide +kernel
theorem dX0_erase_8 : decode cX0_erase 8 = .ok (.invokestatic 31, 3) := by decide +kernel
theorem dX0_erase_11 : decode cX0_erase 11 = .ok (.aload_n 0, 1) := by decide +kernel
theorem dX0_erase_12 : decode cX0_erase 12 = .ok (.iload_n 1, 1) := by decide +kernel
theorem dX0_erase_13 : decode cX0_erase 13 = .ok (.iload_n 2, 1) := by decide +kernel
theorem dX0_erase_14 : decode cX0_erase 14 = .ok (.invokestatic 34, 3) := by decide +kernel
theorem dX0_erase_17 : decode cX0_erase 17 = .ok (.iload_n 3, 1) := by decide +kernel
theorem dX0_erase_18 : decode cX0_erase 18 = .ok (.iload 4, 2) := by decide +kernel
theorem dX0_erase_20 : decode cX0_erase 20 = .ok (.iconst (-1), 1) := by decide +kernel
theorem dX0_erase_21 : decode cX0_erase 21 = .ok (.invokevirtual 38, 3) := by decide +kernel
theorem dX0_erase_24 : decode cX0_erase 24 = .ok (.aload_n 0, 1) := by decide +kernel
theorem dX0_erase_25 : decode cX0_erase 25 = .ok (.iload_n 1, 1) := by decide +kernel
theorem dX0_erase_26 : decode cX0_erase 26 = .ok (.iload_n 2, 1) := by decide +kernel
theorem dX0_erase_27 : decode cX0_erase 27 = .ok (.invokevirtual 42, 3) := by decide +kernel
theorem dX0_erase_30 : decode cX0_erase 30 = .ok (.ireturn, 1) := by decide +kernel
theorem dX0_eraseAll_0 : decode cX0_eraseAll 0 = .ok (.iload_n 1, 1) := by decide +kernel
theorem dX0_eraseAll_1 : decode cX0_eraseAll 1 = .ok (.bipush 8, 2) := by decide +kernel
theorem dX0_eraseAll_3 : decode cX0_eraseAll 3 = .ok (.invokestatic 28, 3) := by decide +kernel
theorem dX0_eraseAll_6 : decode cX0_eraseAll 6 = .ok (.iload_n 2, 1) := by decide +kernel
theorem dX0_eraseAll_7 : decode cX0_eraseAll 7 = .ok (.iload_n 3, 1) := by decide +kernel
theorem dX0_eraseAll_8 : decode cX0_eraseAll 8 = .ok (.invokestatic 31, 3) := by decide +kernel
theorem dX0_eraseAll_11 : decode cX0_eraseAll 11 = .ok (.iconst 0, 1) := by decide +kernel
theorem dX0_eraseAll_12 : decode cX0_eraseAll 12 = .ok (.istore 4, 2) := by decide +kernel
theorem dX0_eraseAll_14 : decode cX0_eraseAll 14 = .ok (.iload_n 2, 1) := by decide +kernel
theorem dX0_eraseAll_15 : decode cX0_eraseAll 15 = .ok (.istore 5, 2) := by decide +kernel
theorem dX0_eraseAll_17 : decode cX0_eraseAll 17 = .ok (.iload 5, 2) := by decide +kernel
theorem dX0_eraseAll_19 : decode cX0_eraseAll 19 = .ok (.iload_n 3, 1) := by decide +kernel
theorem dX0_eraseAll_20 : decode cX0_eraseAll 20 = .ok (.if_icmp .ge 21, 3) := by decide +kernel
theorem dX0_eraseAll_23 : decode cX0_eraseAll 23 = .ok (.iload 4, 2) := by decide +kernel
theorem dX0_eraseAll_25 : decode cX0_eraseAll 25 = .ok (.aload_n 0, 1) := by decide +kernel
theorem dX0_eraseAll_26 : decode cX0_eraseAll 26 = .ok (.iload_n 1, 1) := by decide +kernel
theorem dX0_eraseAll_27 : decode cX0_eraseAll 27 = .ok (.iload 5, 2) := by decide +kernel
theorem dX0_eraseAll_29 : decode cX0_eraseAll 29 = .ok (.invokevirtual 45, 3) := by decide +kernel
theorem dX0_eraseAll_32 : decode cX0_eraseAll 32 = .ok (.iadd, 1) := by decide +kernel
theorem dX0_eraseAll_33 : decode cX0_eraseAll 33 = .ok (.istore 4, 2) := by decide +kernel
theorem dX0_eraseAll_35 : decode cX0_eraseAll 35 = .ok (.iinc 5 1, 3) := by decide +kernel
theorem dX0_eraseAll_38 : decode cX0_eraseAll 38 = .ok (.goto (-21), 3) := by decide +kernel
theorem dX0_eraseAll_41 : decode cX0_eraseAll 41 = .ok (.iload 4, 2) := by decide +kernel
theorem dX0_eraseAll_43 : decode cX0_eraseAll 43 = .ok (.ireturn, 1) := by decide +kernel
theorem dX0_restore_0 : decode cX0_restore 0 = .ok (.iload_n 1, 1) := by decide +kernel
theorem dX0_restore_1 : decode cX0_restore 1 = .ok (.iload_n 2, 1) := by decide +kernel
theorem dX0_restore_2 : decode cX0_restore 2 = .ok (.invokestatic 20, 3) := by decide +kernel
theorem dX0_restore_5 : decode cX0_restore 5 = .ok (.aload_n 0, 1) := by decide +kernel
theorem dX0_restore_6 : decode cX0_restore 6 = .ok (.iload_n 3, 1) := by decide +kernel
theorem dX0_restore_7 : decode cX0_restore 7 = .ok (.invokevirtual 48, 3) := by decide +kernel
theorem dX0_restore_10 : decode cX0_restore 10 = .ok (.aload_n 0, 1) := by decide +kernel
theorem dX0_restore_11 : decode cX0_restore 11 = .ok (.iload_n 1, 1) := by decide +kernel
theorem dX0_restore_12 : decode cX0_restore 12 = .ok (.iload_n 2, 1) := by decide +kernel
theorem dX0_restore_13 : decode cX0_restore 13 = .ok (.invokestatic 34, 3) := by decide +kernel
theorem dX0_restore_16 : decode cX0_restore 16 = .ok (.iload_n 3, 1) := by decide +kernel
theorem dX0_restore_17 : decode cX0_restore 17 = .ok (.invokevirtual 52, 3) := by decide +kernel
theorem dX0_restore_20 : decode cX0_restore 20 = .ok (.aload_n 0, 1) := by decide +kernel
theorem dX0_restore_21 : decode cX0_restore 21 = .ok (.iload_n 1, 1) := by decide +kernel
theorem dX0_restore_22 : decode cX0_restore 22 = .ok (.iload_n 2, 1) := by decide +kernel
theorem dX0_restore_23 : decode cX0_restore 23 = .ok (.invokevirtual 42, 3) := by decide +kernel
theorem dX0_restore_26 : decode cX0_restore 26 = .ok (.ireturn, 1) := by decide +kernel
theorem dX0_pass_0 : decode cX0_pass 0 = .ok (.iload_n 1, 1) := by decide +kernel
theorem dX0_pass_1 : decode cX0_pass 1 = .ok (.iconst 1, 1) := by decide +kernel
theorem dX0_pass_2 : decode cX0_pass 2 = .ok (.if_icmp .lt 9, 3) := by decide +kernel
theorem dX0_pass_5 : decode cX0_pass 5 = .ok (.iload_n 1, 1) := by decide +kernel
theorem dX0_pass_6 : decode cX0_pass 6 = .ok (.bipush 60, 2) := by decide +kernel
theorem dX0_pass_8 : decode cX0_pass 8 = .ok (.if_icmp .lt 13, 3) := by decide +kernel
theorem dX0_pass_11 : decode cX0_pass 11 = .ok (.new 55, 3) := by decide +kernel
theorem dX0_pass_14 : decode cX0_pass 14 = .ok (.dup, 1) := by decide +kernel
theorem dX0_pass_15 : decode cX0_pass 15 = .ok (.ldc 57, 2) := by decide +kernel
theorem dX0_pass_17 : decode cX0_pass 17 = .ok (.invokespecial 59, 3) := by decide +kernel
theorem dX0_pass_20 : decode cX0_pass 20 = .ok (.athrow, 1) := by decide +kernel
theorem dX0_pass_21 : decode cX0_pass 21 = .ok (.aload_n 0, 1) := by decide +kernel
theorem dX0_pass_22 : decode cX0_pass 22 = .ok (.getfield 62, 3) := by decide +kernel
theorem dX0_pass_25 : decode cX0_pass 25 = .ok (.iload_n 1, 1) := by decide +kernel
theorem dX0_pass_26 : decode cX0_pass 26 = .ok (.iadd, 1) := by decide +kernel
theorem dX0_pass_27 : decode cX0_pass 27 = .ok (.bipush 60, 2) := by decide +kernel
theorem dX0_pass_29 : decode cX0_pass 29 = .ok (.if_icmp .lt 13, 3) := by decide +kernel
theorem dX0_pass_32 : decode cX0_pass 32 = .ok (.new 66, 3) := by decide +kernel
theorem dX0_pass_35 : decode cX0_pass 35 = .ok (.dup, 1) := by decide +kernel
theorem dX0_pass_36 : decode cX0_pass 36 = .ok (.ldc 68, 2) := by decide +kernel
theorem dX0_pass_38 : decode cX0_pass 38 = .ok (.invokespecial 70, 3) := by decide +kernel
theorem dX0_pass_41 : decode cX0_pass 41 = .ok (.athrow, 1) := by decide +kernel
theorem dX0_pass_42 : decode cX0_pass 42 = .ok (.aload_n 0, 1) := by decide +kernel
theorem dX0_pass_43 : decode cX0_pass 43 = .ok (.getfield 62, 3) := by decide +kernel
theorem dX0_pass_46 : decode cX0_pass 46 = .ok (.iload_n 1, 1) := by decide +kernel
theorem dX0_pass_47 : decode cX0_pass 47 = .ok (.iadd, 1) := by decide +kernel
theorem dX0_pass_48 : decode cX0_pass 48 = .ok (.istore_n 2, 1) := by decide +kernel
theorem dX0_pass_49 : decode cX0_pass 49 = .ok (.aload_n 0, 1) := by decide +kernel
theorem dX0_pass_50 : decode cX0_pass 50 = .ok (.getfield 62, 3) := by decide +kernel
theorem dX0_pass_53 : decode cX0_pass 53 = .ok (.iconst 1, 1) := by decide +kernel
theorem dX0_pass_54 : decode cX0_pass 54 = .ok (.iadd, 1) := by decide +kernel
theorem dX0_pass_55 : decode cX0_pass 55 = .ok (.istore_n 3, 1) := by decide +kernel
theorem dX0_pass_56 : decode cX0_pass 56 = .ok (.iload_n 3, 1) := by decide +kernel
theorem dX0_pass_57 : decode cX0_pass 57 = .ok (.iload_n 2, 1) := by decide +kernel
theorem dX0_pass_58 : decode cX0_pass 58 = .ok (.if_icmp .ge 18, 3) := by decide +kernel
theorem dX0_pass_61 : decode cX0_pass 61 = .ok (.aload_n 0, 1) := by decide +kernel
theorem dX0_pass_62 : decode cX0_pass 62 = .ok (.iload_n 3, 1) := by decide +kernel
theorem dX0_pass_63 : decode cX0_pass 63 = .ok (.aload_n 0, 1) := by decide +kernel
theorem dX0_pass_64 : decode cX0_pass 64 = .ok (.getfield 62, 3) := by decide +kernel
theorem dX0_pass_67 : decode cX0_pass 67 = .ok (.invokevirtual 71, 3) := by decide +kernel
theorem dX0_pass_70 : decode cX0_pass 70 = .ok (.iinc 3 1, 3) := by decide +kernel
theorem dX0_pass_73 : decode cX0_pass 73 = .ok (.goto (-17), 3) := by decide +kernel
theorem dX0_pass_76 : decode cX0_pass 76 = .ok (.aload_n 0, 1) := by decide +kernel
theorem dX0_pass_77 : decode cX0_pass 77 = .ok (.iload_n 2, 1) := by decide +kernel
theorem dX0_pass_78 : decode cX0_pass 78 = .ok (.iload_n 2, 1) := by decide +kernel
theorem dX0_pass_79 : decode cX0_pass 79 = .ok (.invokevirtual 71, 3) := by decide +kernel
theorem dX0_pass_82 : decode cX0_pass 82 = .ok (.aload_n 0, 1) := by decide +kernel
theorem dX0_pass_83 : decode cX0_pass 83 = .ok (.aload_n 0, 1) := by decide +kernel
theorem dX0_pass_84 : decode cX0_pass 84 = .ok (.getfield 62, 3) := by decide +kernel
theorem dX0_pass_87 : decode cX0_pass 87 = .ok (.iload_n 2, 1) := by decide +kernel
theorem dX0_pass_88 : decode cX0_pass 88 = .ok (.invokevirtual 74, 3) := by decide +kernel
theorem dX0_pass_91 : decode cX0_pass 91 = .ok (.aload_n 0, 1) := by decide +kernel
theorem dX0_pass_92 : decode cX0_pass 92 = .ok (.iload_n 2, 1) := by decide +kernel
theorem dX0_pass_93 : decode cX0_pass 93 = .ok (.putfield 62, 3) := by decide +kernel
theorem dX0_pass_96 : decode cX0_pass 96 = .ok (.aload_n 0, 1) := by decide +kernel
theorem dX0_pass_97 : decode cX0_pass 97 = .ok (.getfield 62, 3) := by decide +kernel
theorem dX0_pass_100 : decode cX0_pass 100 = .ok (.ireturn, 1) := by decide +kernel
theorem dX0_today_0 : decode cX0_today 0 = .ok (.aload_n 0, 1) := by decide +kernel
theorem dX0_today_1 : decode cX0_today 1 = .ok (.getfield 62, 3) := by decide +kernel
theorem dX0_today_4 : decode cX0_today 4 = .ok (.ireturn, 1) := by decide +kernel
theorem dX0_value_0 : decode cX0_value 0 = .ok (.iload_n 1, 1) := by decide +kernel
theorem dX0_value_1 : decode cX0_value 1 = .ok (.iload_n 2, 1) := by decide +kernel
theorem dX0_value_2 : decode cX0_value 2 = .ok (.invokestatic 20, 3) := by decide +kernel
theorem dX0_value_5 : decode cX0_value 5 = .ok (.iload_n 3, 1) := by decide +kernel
theorem dX0_value_6 : decode cX0_value 6 = .ok (.bipush 60, 2) := by decide +kernel
theorem dX0_value_8 : decode cX0_value 8 = .ok (.invokestatic 28, 3) := by decide +kernel
theorem dX0_value_11 : decode cX0_value 11 = .ok (.aload_n 0, 1) := by decide +kernel
theorem dX0_value_12 : decode cX0_value 12 = .ok (.iload 4, 2) := by decide +kernel
theorem dX0_value_14 : decode cX0_value 14 = .ok (.invokevirtual 48, 3) := by decide +kernel
theorem dX0_value_17 : decode cX0_value 17 = .ok (.aload_n 0, 1) := by decide +kernel
theorem dX0_value_18 : decode cX0_value 18 = .ok (.iload 4, 2) := by decide +kernel
theorem dX0_value_20 : decode cX0_value 20 = .ok (.iload_n 1, 1) := by decide +kernel
theorem dX0_value_21 : decode cX0_value 21 = .ok (.iload_n 2, 1) := by decide +kernel
theorem dX0_value_22 : decode cX0_value 22 = .ok (.invokestatic 34, 3) := by decide +kernel
theorem dX0_value_25 : decode cX0_value 25 = .ok (.iload_n 3, 1) := by decide +kernel
theorem dX0_value_26 : decode cX0_value 26 = .ok (.invokevirtual 77, 3) := by decide +kernel
theorem dX0_value_29 : decode cX0_value 29 = .ok (.ireturn, 1) := by decide +kernel
theorem dX0_keys_0 : decode cX0_keys 0 = .ok (.iload_n 1, 1) := by decide +kernel
theorem dX0_keys_1 : decode cX0_keys 1 = .ok (.iconst 2, 1) := by decide +kernel
theorem dX0_keys_2 : decode cX0_keys 2 = .ok (.invokestatic 28, 3) := by decide +kernel
theorem dX0_keys_5 : decode cX0_keys 5 = .ok (.iload_n 2, 1) := by decide +kernel
theorem dX0_keys_6 : decode cX0_keys 6 = .ok (.bipush 60, 2) := by decide +kernel
theorem dX0_keys_8 : decode cX0_keys 8 = .ok (.invokestatic 28, 3) := by decide +kernel
theorem dX0_keys_11 : decode cX0_keys 11 = .ok (.aload_n 0, 1) := by decide +kernel
theorem dX0_keys_12 : decode cX0_keys 12 = .ok (.iload_n 3, 1) := by decide +kernel
theorem dX0_keys_13 : decode cX0_keys 13 = .ok (.invokevirtual 48, 3) := by decide +kernel
theorem dX0_keys_16 : decode cX0_keys 16 = .ok (.iconst 0, 1) := by decide +kernel
theorem dX0_keys_17 : decode cX0_keys 17 = .ok (.istore 4, 2) := by decide +kernel
theorem dX0_keys_19 : decode cX0_keys 19 = .ok (.iconst 0, 1) := by decide +kernel
theorem dX0_keys_20 : decode cX0_keys 20 = .ok (.istore 5, 2) := by decide +kernel
theorem dX0_keys_22 : decode cX0_keys 22 = .ok (.iload 5, 2) := by decide +kernel
theorem dX0_keys_24 : decode cX0_keys 24 = .ok (.bipush 8, 2) := by decide +kernel
theorem dX0_keys_26 : decode cX0_keys 26 = .ok (.if_icmp .ge 34, 3) := by decide +kernel
theorem dX0_keys_29 : decode cX0_keys 29 = .ok (.aload_n 0, 1) := by decide +kernel
theorem dX0_keys_30 : decode cX0_keys 30 = .ok (.iload_n 3, 1) := by decide +kernel
theorem dX0_keys_31 : decode cX0_keys 31 = .ok (.iload_n 1, 1) := by decide +kernel
theorem dX0_keys_32 : decode cX0_keys 32 = .ok (.iload 5, 2) := by decide +kernel
theorem dX0_keys_34 : decode cX0_keys 34 = .ok (.invokestatic 34, 3) := by decide +kernel
theorem dX0_keys_37 : decode cX0_keys 37 = .ok (.iload_n 2, 1) := by decide +kernel
theorem dX0_keys_38 : decode cX0_keys 38 = .ok (.invokevirtual 77, 3) := by decide +kernel
theorem dX0_keys_41 : decode cX0_keys 41 = .ok (.iconst (-1), 1) := by decide +kernel
theorem dX0_keys_42 : decode cX0_keys 42 = .ok (.if_icmp .eq 12, 3) := by decide +kernel
theorem dX0_keys_45 : decode cX0_keys 45 = .ok (.iload 4, 2) := by decide +kernel
theorem dX0_keys_47 : decode cX0_keys 47 = .ok (.iconst 1, 1) := by decide +kernel
theorem dX0_keys_48 : decode cX0_keys 48 = .ok (.iload 5, 2) := by decide +kernel
theorem dX0_keys_50 : decode cX0_keys 50 = .ok (.ishl, 1) := by decide +kernel
theorem dX0_keys_51 : decode cX0_keys 51 = .ok (.ior, 1) := by decide +kernel
theorem dX0_keys_52 : decode cX0_keys 52 = .ok (.istore 4, 2) := by decide +kernel
theorem dX0_keys_54 : decode cX0_keys 54 = .ok (.iinc 5 1, 3) := by decide +kernel
theorem dX0_keys_57 : decode cX0_keys 57 = .ok (.goto (-35), 3) := by decide +kernel
theorem dX0_keys_60 : decode cX0_keys 60 = .ok (.iload 4, 2) := by decide +kernel
theorem dX0_keys_62 : decode cX0_keys 62 = .ok (.ireturn, 1) := by decide +kernel
theorem dX0_joined_0 : decode cX0_joined 0 = .ok (.iload_n 1, 1) := by decide +kernel
theorem dX0_joined_1 : decode cX0_joined 1 = .ok (.bipush 8, 2) := by decide +kernel
theorem dX0_joined_3 : decode cX0_joined 3 = .ok (.invokestatic 28, 3) := by decide +kernel
theorem dX0_joined_6 : decode cX0_joined 6 = .ok (.iload_n 2, 1) := by decide +kernel
theorem dX0_joined_7 : decode cX0_joined 7 = .ok (.bipush 60, 2) := by decide +kernel
theorem dX0_joined_9 : decode cX0_joined 9 = .ok (.invokestatic 28, 3) := by decide +kernel
theorem dX0_joined_12 : decode cX0_joined 12 = .ok (.aload_n 0, 1) := by decide +kernel
theorem dX0_joined_13 : decode cX0_joined 13 = .ok (.iload_n 3, 1) := by decide +kernel
theorem dX0_joined_14 : decode cX0_joined 14 = .ok (.invokevirtual 48, 3) := by decide +kernel
theorem dX0_joined_17 : decode cX0_joined 17 = .ok (.aload_n 0, 1) := by decide +kernel
theorem dX0_joined_18 : decode cX0_joined 18 = .ok (.iload_n 3, 1) := by decide +kernel
theorem dX0_joined_19 : decode cX0_joined 19 = .ok (.iload_n 1, 1) := by decide +kernel
theorem dX0_joined_20 : decode cX0_joined 20 = .ok (.iload_n 2, 1) := by decide +kernel
theorem dX0_joined_21 : decode cX0_joined 21 = .ok (.invokevirtual 81, 3) := by decide +kernel
theorem dX0_joined_24 : decode cX0_joined 24 = .ok (.ireturn, 1) := by decide +kernel
theorem dX0_runs_0 : decode cX0_runs 0 = .ok (.iload_n 1, 1) := by decide +kernel
theorem dX0_runs_1 : decode cX0_runs 1 = .ok (.iload_n 2, 1) := by decide +kernel
theorem dX0_runs_2 : decode cX0_runs 2 = .ok (.invokestatic 20, 3) := by decide +kernel
theorem dX0_runs_5 : decode cX0_runs 5 = .ok (.aload_n 0, 1) := by decide +kernel
theorem dX0_runs_6 : decode cX0_runs 6 = .ok (.iload_n 3, 1) := by decide +kernel
theorem dX0_runs_7 : decode cX0_runs 7 = .ok (.invokevirtual 48, 3) := by decide +kernel
theorem dX0_runs_10 : decode cX0_runs 10 = .ok (.iload_n 1, 1) := by decide +kernel
theorem dX0_runs_11 : decode cX0_runs 11 = .ok (.iload_n 2, 1) := by decide +kernel
theorem dX0_runs_12 : decode cX0_runs 12 = .ok (.invokestatic 34, 3) := by decide +kernel
theorem dX0_runs_15 : decode cX0_runs 15 = .ok (.istore 4, 2) := by decide +kernel
theorem dX0_runs_17 : decode cX0_runs 17 = .ok (.iconst 0, 1) := by decide +kernel
theorem dX0_runs_18 : decode cX0_runs 18 = .ok (.istore 5, 2) := by decide +kernel
theorem dX0_runs_20 : decode cX0_runs 20 = .ok (.iconst 0, 1) := by decide +kernel
theorem dX0_runs_21 : decode cX0_runs 21 = .ok (.istore 6, 2) := by decide +kernel
theorem dX0_runs_23 : decode cX0_runs 23 = .ok (.iload 6, 2) := by decide +kernel
theorem dX0_runs_25 : decode cX0_runs 25 = .ok (.bipush 60, 2) := by decide +kernel
theorem dX0_runs_27 : decode cX0_runs 27 = .ok (.if_icmp .ge 24, 3) := by decide +kernel
theorem dX0_runs_30 : decode cX0_runs 30 = .ok (.aload_n 0, 1) := by decide +kernel
theorem dX0_runs_31 : decode cX0_runs 31 = .ok (.iload_n 3, 1) := by decide +kernel
theorem dX0_runs_32 : decode cX0_runs 32 = .ok (.iload 4, 2) := by decide +kernel
theorem dX0_runs_34 : decode cX0_runs 34 = .ok (.iload 6, 2) := by decide +kernel
theorem dX0_runs_36 : decode cX0_runs 36 = .ok (.invokevirtual 84, 3) := by decide +kernel
theorem dX0_runs_39 : decode cX0_runs 39 = .ok (.ifCond .eq 6, 3) := by decide +kernel
theorem dX0_runs_42 : decode cX0_runs 42 = .ok (.iinc 5 1, 3) := by decide +kernel
theorem dX0_runs_45 : decode cX0_runs 45 = .ok (.iinc 6 1, 3) := by decide +kernel
theorem dX0_runs_48 : decode cX0_runs 48 = .ok (.goto (-25), 3) := by decide +kernel
theorem dX0_runs_51 : decode cX0_runs 51 = .ok (.iload 5, 2) := by decide +kernel
theorem dX0_runs_53 : decode cX0_runs 53 = .ok (.ireturn, 1) := by decide +kernel
theorem dX0_run_0 : decode cX0_run 0 = .ok (.iload_n 1, 1) := by decide +kernel
theorem dX0_run_1 : decode cX0_run 1 = .ok (.iload_n 2, 1) := by decide +kernel
theorem dX0_run_2 : decode cX0_run 2 = .ok (.invokestatic 20, 3) := by decide +kernel
theorem dX0_run_5 : decode cX0_run 5 = .ok (.aload_n 0, 1) := by decide +kernel
theorem dX0_run_6 : decode cX0_run 6 = .ok (.iload_n 3, 1) := by decide +kernel
theorem dX0_run_7 : decode cX0_run 7 = .ok (.invokevirtual 48, 3) := by decide +kernel
theorem dX0_run_10 : decode cX0_run 10 = .ok (.iload_n 1, 1) := by decide +kernel
theorem dX0_run_11 : decode cX0_run 11 = .ok (.iload_n 2, 1) := by decide +kernel
theorem dX0_run_12 : decode cX0_run 12 = .ok (.invokestatic 34, 3) := by decide +kernel
theorem dX0_run_15 : decode cX0_run 15 = .ok (.istore 5, 2) := by decide +kernel
theorem dX0_run_17 : decode cX0_run 17 = .ok (.aload_n 0, 1) := by decide +kernel
theorem dX0_run_18 : decode cX0_run 18 = .ok (.iload_n 3, 1) := by decide +kernel
theorem dX0_run_19 : decode cX0_run 19 = .ok (.iload 5, 2) := by decide +kernel
theorem dX0_run_21 : decode cX0_run 21 = .ok (.iload 4, 2) := by decide +kernel
theorem dX0_run_23 : decode cX0_run 23 = .ok (.invokevirtual 88, 3) := by decide +kernel
theorem dX0_run_26 : decode cX0_run 26 = .ok (.istore 6, 2) := by decide +kernel
theorem dX0_run_28 : decode cX0_run 28 = .ok (.iload 6, 2) := by decide +kernel
theorem dX0_run_30 : decode cX0_run 30 = .ok (.iconst (-1), 1) := by decide +kernel
theorem dX0_run_31 : decode cX0_run 31 = .ok (.if_icmp .ne 13, 3) := by decide +kernel
theorem dX0_run_34 : decode cX0_run 34 = .ok (.new 91, 3) := by decide +kernel
theorem dX0_run_37 : decode cX0_run 37 = .ok (.dup, 1) := by decide +kernel
theorem dX0_run_38 : decode cX0_run 38 = .ok (.ldc 93, 2) := by decide +kernel
theorem dX0_run_40 : decode cX0_run 40 = .ok (.invokespecial 95, 3) := by decide +kernel
theorem dX0_run_43 : decode cX0_run 43 = .ok (.athrow, 1) := by decide +kernel
theorem dX0_run_44 : decode cX0_run 44 = .ok (.aload_n 0, 1) := by decide +kernel
theorem dX0_run_45 : decode cX0_run 45 = .ok (.iload_n 3, 1) := by decide +kernel
theorem dX0_run_46 : decode cX0_run 46 = .ok (.iload 5, 2) := by decide +kernel
theorem dX0_run_48 : decode cX0_run 48 = .ok (.iload 6, 2) := by decide +kernel
theorem dX0_run_50 : decode cX0_run 50 = .ok (.invokevirtual 96, 3) := by decide +kernel
theorem dX0_run_53 : decode cX0_run 53 = .ok (.ireturn, 1) := by decide +kernel
theorem dX0_joinedRuns_0 : decode cX0_joinedRuns 0 = .ok (.iload_n 1, 1) := by decide +kernel
theorem dX0_joinedRuns_1 : decode cX0_joinedRuns 1 = .ok (.bipush 8, 2) := by decide +kernel
theorem dX0_joinedRuns_3 : decode cX0_joinedRuns 3 = .ok (.invokestatic 28, 3) := by decide +kernel
theorem dX0_joinedRuns_6 : decode cX0_joinedRuns 6 = .ok (.aload_n 0, 1) := by decide +kernel
theorem dX0_joinedRuns_7 : decode cX0_joinedRuns 7 = .ok (.iload_n 2, 1) := by decide +kernel
theorem dX0_joinedRuns_8 : decode cX0_joinedRuns 8 = .ok (.invokevirtual 48, 3) := by decide +kernel
theorem dX0_joinedRuns_11 : decode cX0_joinedRuns 11 = .ok (.iconst 0, 1) := by decide +kernel
theorem dX0_joinedRuns_12 : decode cX0_joinedRuns 12 = .ok (.istore_n 3, 1) := by decide +kernel
theorem dX0_joinedRuns_13 : decode cX0_joinedRuns 13 = .ok (.iconst 0, 1) := by decide +kernel
theorem dX0_joinedRuns_14 : decode cX0_joinedRuns 14 = .ok (.istore 4, 2) := by decide +kernel
theorem dX0_joinedRuns_16 : decode cX0_joinedRuns 16 = .ok (.iload 4, 2) := by decide +kernel
theorem dX0_joinedRuns_18 : decode cX0_joinedRuns 18 = .ok (.bipush 60, 2) := by decide +kernel
theorem dX0_joinedRuns_20 : decode cX0_joinedRuns 20 = .ok (.if_icmp .ge 23, 3) := by decide +kernel
theorem dX0_joinedRuns_23 : decode cX0_joinedRuns 23 = .ok (.aload_n 0, 1) := by decide +kernel
theorem dX0_joinedRuns_24 : decode cX0_joinedRuns 24 = .ok (.iload_n 2, 1) := by decide +kernel
theorem dX0_joinedRuns_25 : decode cX0_joinedRuns 25 = .ok (.iload_n 1, 1) := by decide +kernel
theorem dX0_joinedRuns_26 : decode cX0_joinedRuns 26 = .ok (.iload 4, 2) := by decide +kernel
theorem dX0_joinedRuns_28 : decode cX0_joinedRuns 28 = .ok (.invokevirtual 99, 3) := by decide +kernel
theorem dX0_joinedRuns_31 : decode cX0_joinedRuns 31 = .ok (.ifCond .eq 6, 3) := by decide +kernel
theorem dX0_joinedRuns_34 : decode cX0_joinedRuns 34 = .ok (.iinc 3 1, 3) := by decide +kernel
theorem dX0_joinedRuns_37 : decode cX0_joinedRuns 37 = .ok (.iinc 4 1, 3) := by decide +kernel
theorem dX0_joinedRuns_40 : decode cX0_joinedRuns 40 = .ok (.goto (-24), 3) := by decide +kernel
theorem dX0_joinedRuns_43 : decode cX0_joinedRuns 43 = .ok (.iload_n 3, 1) := by decide +kernel
theorem dX0_joinedRuns_44 : decode cX0_joinedRuns 44 = .ok (.ireturn, 1) := by decide +kernel
theorem dX0_rows_0 : decode cX0_rows 0 = .ok (.iload_n 1, 1) := by decide +kernel
theorem dX0_rows_1 : decode cX0_rows 1 = .ok (.iload_n 2, 1) := by decide +kernel
theorem dX0_rows_2 : decode cX0_rows 2 = .ok (.invokestatic 20, 3) := by decide +kernel
theorem dX0_rows_5 : decode cX0_rows 5 = .ok (.iload_n 1, 1) := by decide +kernel
theorem dX0_rows_6 : decode cX0_rows 6 = .ok (.iload_n 2, 1) := by decide +kernel
theorem dX0_rows_7 : decode cX0_rows 7 = .ok (.invokestatic 34, 3) := by decide +kernel
theorem dX0_rows_10 : decode cX0_rows 10 = .ok (.istore_n 3, 1) := by decide +kernel
theorem dX0_rows_11 : decode cX0_rows 11 = .ok (.iconst 0, 1) := by decide +kernel
theorem dX0_rows_12 : decode cX0_rows 12 = .ok (.istore 4, 2) := by decide +kernel
theorem dX0_rows_14 : decode cX0_rows 14 = .ok (.iconst 0, 1) := by decide +kernel
theorem dX0_rows_15 : decode cX0_rows 15 = .ok (.istore 5, 2) := by decide +kernel
theorem dX0_rows_17 : decode cX0_rows 17 = .ok (.iload 5, 2) := by decide +kernel
theorem dX0_rows_19 : decode cX0_rows 19 = .ok (.aload_n 0, 1) := by decide +kernel
theorem dX0_rows_20 : decode cX0_rows 20 = .ok (.getfield 62, 3) := by decide +kernel
theorem dX0_rows_23 : decode cX0_rows 23 = .ok (.if_icmp .gt 49, 3) := by decide +kernel
theorem dX0_rows_26 : decode cX0_rows 26 = .ok (.iconst 0, 1) := by decide +kernel
theorem dX0_rows_27 : decode cX0_rows 27 = .ok (.istore 6, 2) := by decide +kernel
theorem dX0_rows_29 : decode cX0_rows 29 = .ok (.iload 6, 2) := by decide +kernel
theorem dX0_rows_31 : decode cX0_rows 31 = .ok (.bipush 60, 2) := by decide +kernel
theorem dX0_rows_33 : decode cX0_rows 33 = .ok (.if_icmp .ge 33, 3) := by decide +kernel
theorem dX0_rows_36 : decode cX0_rows 36 = .ok (.aload_n 0, 1) := by decide +kernel
theorem dX0_rows_37 : decode cX0_rows 37 = .ok (.iload 5, 2) := by decide +kernel
theorem dX0_rows_39 : decode cX0_rows 39 = .ok (.invokevirtual 102, 3) := by decide +kernel
theorem dX0_rows_42 : decode cX0_rows 42 = .ok (.ifCond .eq 24, 3) := by decide +kernel
theorem dX0_rows_45 : decode cX0_rows 45 = .ok (.aload_n 0, 1) := by decide +kernel
theorem dX0_rows_46 : decode cX0_rows 46 = .ok (.iload 5, 2) := by decide +kernel
theorem dX0_rows_48 : decode cX0_rows 48 = .ok (.iload_n 3, 1) := by decide +kernel
theorem dX0_rows_49 : decode cX0_rows 49 = .ok (.iload 6, 2) := by decide +kernel
theorem dX0_rows_51 : decode cX0_rows 51 = .ok (.invokevirtual 106, 3) := by decide +kernel
theorem dX0_rows_54 : decode cX0_rows 54 = .ok (.ifCond .eq 6, 3) := by decide +kernel
theorem dX0_rows_57 : decode cX0_rows 57 = .ok (.iinc 4 1, 3) := by decide +kernel
theorem dX0_rows_60 : decode cX0_rows 60 = .ok (.iinc 6 1, 3) := by decide +kernel
theorem dX0_rows_63 : decode cX0_rows 63 = .ok (.goto (-34), 3) := by decide +kernel
theorem dX0_rows_66 : decode cX0_rows 66 = .ok (.iinc 5 1, 3) := by decide +kernel
theorem dX0_rows_69 : decode cX0_rows 69 = .ok (.goto (-52), 3) := by decide +kernel
theorem dX0_rows_72 : decode cX0_rows 72 = .ok (.iload 4, 2) := by decide +kernel
theorem dX0_rows_74 : decode cX0_rows 74 = .ok (.ireturn, 1) := by decide +kernel
theorem dX0_rowRun_0 : decode cX0_rowRun 0 = .ok (.iload_n 1, 1) := by decide +kernel
theorem dX0_rowRun_1 : decode cX0_rowRun 1 = .ok (.iload_n 2, 1) := by decide +kernel
theorem dX0_rowRun_2 : decode cX0_rowRun 2 = .ok (.invokestatic 20, 3) := by decide +kernel
theorem dX0_rowRun_5 : decode cX0_rowRun 5 = .ok (.iload_n 1, 1) := by decide +kernel
theorem dX0_rowRun_6 : decode cX0_rowRun 6 = .ok (.iload_n 2, 1) := by decide +kernel
theorem dX0_rowRun_7 : decode cX0_rowRun 7 = .ok (.invokestatic 34, 3) := by decide +kernel
theorem dX0_rowRun_10 : decode cX0_rowRun 10 = .ok (.istore 4, 2) := by decide +kernel
theorem dX0_rowRun_12 : decode cX0_rowRun 12 = .ok (.aload_n 0, 1) := by decide +kernel
theorem dX0_rowRun_13 : decode cX0_rowRun 13 = .ok (.iload 4, 2) := by decide +kernel
theorem dX0_rowRun_15 : decode cX0_rowRun 15 = .ok (.iload_n 3, 1) := by decide +kernel
theorem dX0_rowRun_16 : decode cX0_rowRun 16 = .ok (.invokevirtual 109, 3) := by decide +kernel
theorem dX0_rowRun_19 : decode cX0_rowRun 19 = .ok (.istore 5, 2) := by decide +kernel
theorem dX0_rowRun_21 : decode cX0_rowRun 21 = .ok (.aload_n 0, 1) := by decide +kernel
theorem dX0_rowRun_22 : decode cX0_rowRun 22 = .ok (.iload 5, 2) := by decide +kernel
theorem dX0_rowRun_24 : decode cX0_rowRun 24 = .ok (.invokestatic 112, 3) := by decide +kernel
theorem dX0_rowRun_27 : decode cX0_rowRun 27 = .ok (.iload 4, 2) := by decide +kernel
theorem dX0_rowRun_29 : decode cX0_rowRun 29 = .ok (.iload 5, 2) := by decide +kernel
theorem dX0_rowRun_31 : decode cX0_rowRun 31 = .ok (.invokestatic 115, 3) := by decide +kernel
theorem dX0_rowRun_34 : decode cX0_rowRun 34 = .ok (.invokevirtual 96, 3) := by decide +kernel
theorem dX0_rowRun_37 : decode cX0_rowRun 37 = .ok (.ireturn, 1) := by decide +kernel
theorem dX0_rowFrom_0 : decode cX0_rowFrom 0 = .ok (.iload_n 1, 1) := by decide +kernel
theorem dX0_rowFrom_1 : decode cX0_rowFrom 1 = .ok (.iload_n 2, 1) := by decide +kernel
theorem dX0_rowFrom_2 : decode cX0_rowFrom 2 = .ok (.invokestatic 20, 3) := by decide +kernel
theorem dX0_rowFrom_5 : decode cX0_rowFrom 5 = .ok (.aload_n 0, 1) := by decide +kernel
theorem dX0_rowFrom_6 : decode cX0_rowFrom 6 = .ok (.iload_n 1, 1) := by decide +kernel
theorem dX0_rowFrom_7 : decode cX0_rowFrom 7 = .ok (.iload_n 2, 1) := by decide +kernel
theorem dX0_rowFrom_8 : decode cX0_rowFrom 8 = .ok (.invokestatic 34, 3) := by decide +kernel
theorem dX0_rowFrom_11 : decode cX0_rowFrom 11 = .ok (.iload_n 3, 1) := by decide +kernel
theorem dX0_rowFrom_12 : decode cX0_rowFrom 12 = .ok (.invokevirtual 109, 3) := by decide +kernel
theorem dX0_rowFrom_15 : decode cX0_rowFrom 15 = .ok (.invokestatic 112, 3) := by decide +kernel
theorem dX0_rowFrom_18 : decode cX0_rowFrom 18 = .ok (.ireturn, 1) := by decide +kernel
theorem dX0_rowTo_0 : decode cX0_rowTo 0 = .ok (.iload_n 1, 1) := by decide +kernel
theorem dX0_rowTo_1 : decode cX0_rowTo 1 = .ok (.iload_n 2, 1) := by decide +kernel
theorem dX0_rowTo_2 : decode cX0_rowTo 2 = .ok (.invokestatic 20, 3) := by decide +kernel
theorem dX0_rowTo_5 : decode cX0_rowTo 5 = .ok (.iload_n 1, 1) := by decide +kernel
theorem dX0_rowTo_6 : decode cX0_rowTo 6 = .ok (.iload_n 2, 1) := by decide +kernel
theorem dX0_rowTo_7 : decode cX0_rowTo 7 = .ok (.invokestatic 34, 3) := by decide +kernel
theorem dX0_rowTo_10 : decode cX0_rowTo 10 = .ok (.istore 4, 2) := by decide +kernel
theorem dX0_rowTo_12 : decode cX0_rowTo 12 = .ok (.aload_n 0, 1) := by decide +kernel
theorem dX0_rowTo_13 : decode cX0_rowTo 13 = .ok (.iload 4, 2) := by decide +kernel
theorem dX0_rowTo_15 : decode cX0_rowTo 15 = .ok (.iload_n 3, 1) := by decide +kernel
theorem dX0_rowTo_16 : decode cX0_rowTo 16 = .ok (.invokevirtual 109, 3) := by decide +kernel
theorem dX0_rowTo_19 : decode cX0_rowTo 19 = .ok (.istore 5, 2) := by decide +kernel
theorem dX0_rowTo_21 : decode cX0_rowTo 21 = .ok (.iload 5, 2) := by decide +kernel
theorem dX0_rowTo_23 : decode cX0_rowTo 23 = .ok (.invokestatic 112, 3) := by decide +kernel
theorem dX0_rowTo_26 : decode cX0_rowTo 26 = .ok (.istore 6, 2) := by decide +kernel
theorem dX0_rowTo_28 : decode cX0_rowTo 28 = .ok (.iload 5, 2) := by decide +kernel
theorem dX0_rowTo_30 : decode cX0_rowTo 30 = .ok (.invokestatic 115, 3) := by decide +kernel
theorem dX0_rowTo_33 : decode cX0_rowTo 33 = .ok (.istore 7, 2) := by decide +kernel
theorem dX0_rowTo_35 : decode cX0_rowTo 35 = .ok (.iload 6, 2) := by decide +kernel
theorem dX0_rowTo_37 : decode cX0_rowTo 37 = .ok (.iconst 1, 1) := by decide +kernel
theorem dX0_rowTo_38 : decode cX0_rowTo 38 = .ok (.iadd, 1) := by decide +kernel
theorem dX0_rowTo_39 : decode cX0_rowTo 39 = .ok (.istore 8, 2) := by decide +kernel
theorem dX0_rowTo_41 : decode cX0_rowTo 41 = .ok (.iload 8, 2) := by decide +kernel
theorem dX0_rowTo_43 : decode cX0_rowTo 43 = .ok (.aload_n 0, 1) := by decide +kernel
theorem dX0_rowTo_44 : decode cX0_rowTo 44 = .ok (.getfield 62, 3) := by decide +kernel
theorem dX0_rowTo_47 : decode cX0_rowTo 47 = .ok (.if_icmp .gt 27, 3) := by decide +kernel
theorem dX0_rowTo_50 : decode cX0_rowTo 50 = .ok (.aload_n 0, 1) := by decide +kernel
theorem dX0_rowTo_51 : decode cX0_rowTo 51 = .ok (.iload 6, 2) := by decide +kernel
theorem dX0_rowTo_53 : decode cX0_rowTo 53 = .ok (.iload 8, 2) := by decide +kernel
theorem dX0_rowTo_55 : decode cX0_rowTo 55 = .ok (.iload 4, 2) := by decide +kernel
theorem dX0_rowTo_57 : decode cX0_rowTo 57 = .ok (.iload 7, 2) := by decide +kernel
theorem dX0_rowTo_59 : decode cX0_rowTo 59 = .ok (.invokevirtual 118, 3) := by decide +kernel
theorem dX0_rowTo_62 : decode cX0_rowTo 62 = .ok (.ifCond .ne 6, 3) := by decide +kernel
theorem dX0_rowTo_65 : decode cX0_rowTo 65 = .ok (.iload 8, 2) := by decide +kernel
theorem dX0_rowTo_67 : decode cX0_rowTo 67 = .ok (.ireturn, 1) := by decide +kernel
theorem dX0_rowTo_68 : decode cX0_rowTo 68 = .ok (.iinc 8 1, 3) := by decide +kernel
theorem dX0_rowTo_71 : decode cX0_rowTo 71 = .ok (.goto (-30), 3) := by decide +kernel
theorem dX0_rowTo_74 : decode cX0_rowTo 74 = .ok (.iconst (-1), 1) := by decide +kernel
theorem dX0_rowTo_75 : decode cX0_rowTo 75 = .ok (.ireturn, 1) := by decide +kernel
theorem dX0_longest_0 : decode cX0_longest 0 = .ok (.iload_n 1, 1) := by decide +kernel
theorem dX0_longest_1 : decode cX0_longest 1 = .ok (.iload_n 2, 1) := by decide +kernel
theorem dX0_longest_2 : decode cX0_longest 2 = .ok (.invokestatic 20, 3) := by decide +kernel
theorem dX0_longest_5 : decode cX0_longest 5 = .ok (.aload_n 0, 1) := by decide +kernel
theorem dX0_longest_6 : decode cX0_longest 6 = .ok (.iload_n 3, 1) := by decide +kernel
theorem dX0_longest_7 : decode cX0_longest 7 = .ok (.invokevirtual 48, 3) := by decide +kernel
theorem dX0_longest_10 : decode cX0_longest 10 = .ok (.iload_n 1, 1) := by decide +kernel
theorem dX0_longest_11 : decode cX0_longest 11 = .ok (.iload_n 2, 1) := by decide +kernel
theorem dX0_longest_12 : decode cX0_longest 12 = .ok (.invokestatic 34, 3) := by decide +kernel
theorem dX0_longest_15 : decode cX0_longest 15 = .ok (.istore 4, 2) := by decide +kernel
theorem dX0_longest_17 : decode cX0_longest 17 = .ok (.iconst 0, 1) := by decide +kernel
theorem dX0_longest_18 : decode cX0_longest 18 = .ok (.istore 5, 2) := by decide +kernel
theorem dX0_longest_20 : decode cX0_longest 20 = .ok (.iconst 0, 1) := by decide +kernel
theorem dX0_longest_21 : decode cX0_longest 21 = .ok (.istore 6, 2) := by decide +kernel
theorem dX0_longest_23 : decode cX0_longest 23 = .ok (.iload 6, 2) := by decide +kernel
theorem dX0_longest_25 : decode cX0_longest 25 = .ok (.bipush 60, 2) := by decide +kernel
theorem dX0_longest_27 : decode cX0_longest 27 = .ok (.if_icmp .ge 40, 3) := by decide +kernel
theorem dX0_longest_30 : decode cX0_longest 30 = .ok (.aload_n 0, 1) := by decide +kernel
theorem dX0_longest_31 : decode cX0_longest 31 = .ok (.iload_n 3, 1) := by decide +kernel
theorem dX0_longest_32 : decode cX0_longest 32 = .ok (.iload 4, 2) := by decide +kernel
theorem dX0_longest_34 : decode cX0_longest 34 = .ok (.iload 6, 2) := by decide +kernel
theorem dX0_longest_36 : decode cX0_longest 36 = .ok (.invokevirtual 84, 3) := by decide +kernel
theorem dX0_longest_39 : decode cX0_longest 39 = .ok (.ifCond .eq 22, 3) := by decide +kernel
theorem dX0_longest_42 : decode cX0_longest 42 = .ok (.iload 5, 2) := by decide +kernel
theorem dX0_longest_44 : decode cX0_longest 44 = .ok (.aload_n 0, 1) := by decide +kernel
theorem dX0_longest_45 : decode cX0_longest 45 = .ok (.iload_n 3, 1) := by decide +kernel
theorem dX0_longest_46 : decode cX0_longest 46 = .ok (.iload 4, 2) := by decide +kernel
theorem dX0_longest_48 : decode cX0_longest 48 = .ok (.iload 6, 2) := by decide +kernel
theorem dX0_longest_50 : decode cX0_longest 50 = .ok (.invokevirtual 124, 3) := by decide +kernel
theorem dX0_longest_53 : decode cX0_longest 53 = .ok (.iload 6, 2) := by decide +kernel
theorem dX0_longest_55 : decode cX0_longest 55 = .ok (.isub, 1) := by decide +kernel
theorem dX0_longest_56 : decode cX0_longest 56 = .ok (.invokestatic 127, 3) := by decide +kernel
theorem dX0_longest_59 : decode cX0_longest 59 = .ok (.istore 5, 2) := by decide +kernel
theorem dX0_longest_61 : decode cX0_longest 61 = .ok (.iinc 6 1, 3) := by decide +kernel
theorem dX0_longest_64 : decode cX0_longest 64 = .ok (.goto (-41), 3) := by decide +kernel
theorem dX0_longest_67 : decode cX0_longest 67 = .ok (.iload 5, 2) := by decide +kernel
theorem dX0_longest_69 : decode cX0_longest 69 = .ok (.ireturn, 1) := by decide +kernel
theorem dX0_average_0 : decode cX0_average 0 = .ok (.iload_n 1, 1) := by decide +kernel
theorem dX0_average_1 : decode cX0_average 1 = .ok (.bipush 8, 2) := by decide +kernel
theorem dX0_average_3 : decode cX0_average 3 = .ok (.invokestatic 28, 3) := by decide +kernel
theorem dX0_average_6 : decode cX0_average 6 = .ok (.aload_n 0, 1) := by decide +kernel
theorem dX0_average_7 : decode cX0_average 7 = .ok (.iload_n 2, 1) := by decide +kernel
theorem dX0_average_8 : decode cX0_average 8 = .ok (.invokevirtual 48, 3) := by decide +kernel
theorem dX0_average_11 : decode cX0_average 11 = .ok (.iconst 0, 1) := by decide +kernel
theorem dX0_average_12 : decode cX0_average 12 = .ok (.istore_n 3, 1) := by decide +kernel
theorem dX0_average_13 : decode cX0_average 13 = .ok (.iconst 0, 1) := by decide +kernel
theorem dX0_average_14 : decode cX0_average 14 = .ok (.istore 4, 2) := by decide +kernel
theorem dX0_average_16 : decode cX0_average 16 = .ok (.iconst 0, 1) := by decide +kernel
theorem dX0_average_17 : decode cX0_average 17 = .ok (.istore 5, 2) := by decide +kernel
theorem dX0_average_19 : decode cX0_average 19 = .ok (.iload 5, 2) := by decide +kernel
theorem dX0_average_21 : decode cX0_average 21 = .ok (.bipush 60, 2) := by decide +kernel
theorem dX0_average_23 : decode cX0_average 23 = .ok (.if_icmp .ge 37, 3) := by decide +kernel
theorem dX0_average_26 : decode cX0_average 26 = .ok (.aload_n 0, 1) := by decide +kernel
theorem dX0_average_27 : decode cX0_average 27 = .ok (.iload_n 2, 1) := by decide +kernel
theorem dX0_average_28 : decode cX0_average 28 = .ok (.iconst 0, 1) := by decide +kernel
theorem dX0_average_29 : decode cX0_average 29 = .ok (.iload_n 1, 1) := by decide +kernel
theorem dX0_average_30 : decode cX0_average 30 = .ok (.invokestatic 34, 3) := by decide +kernel
theorem dX0_average_33 : decode cX0_average 33 = .ok (.iload 5, 2) := by decide +kernel
theorem dX0_average_35 : decode cX0_average 35 = .ok (.invokevirtual 77, 3) := by decide +kernel
theorem dX0_average_38 : decode cX0_average 38 = .ok (.istore 6, 2) := by decide +kernel
theorem dX0_average_40 : decode cX0_average 40 = .ok (.iload 6, 2) := by decide +kernel
theorem dX0_average_42 : decode cX0_average 42 = .ok (.iconst (-1), 1) := by decide +kernel
theorem dX0_average_43 : decode cX0_average 43 = .ok (.if_icmp .eq 11, 3) := by decide +kernel
theorem dX0_average_46 : decode cX0_average 46 = .ok (.iload_n 3, 1) := by decide +kernel
theorem dX0_average_47 : decode cX0_average 47 = .ok (.iload 6, 2) := by decide +kernel
theorem dX0_average_49 : decode cX0_average 49 = .ok (.iadd, 1) := by decide +kernel
theorem dX0_average_50 : decode cX0_average 50 = .ok (.istore_n 3, 1) := by decide +kernel
theorem dX0_average_51 : decode cX0_average 51 = .ok (.iinc 4 1, 3) := by decide +kernel
theorem dX0_average_54 : decode cX0_average 54 = .ok (.iinc 5 1, 3) := by decide +kernel
theorem dX0_average_57 : decode cX0_average 57 = .ok (.goto (-38), 3) := by decide +kernel
theorem dX0_average_60 : decode cX0_average 60 = .ok (.iload 4, 2) := by decide +kernel
theorem dX0_average_62 : decode cX0_average 62 = .ok (.ifCond .ne 13, 3) := by decide +kernel
theorem dX0_average_65 : decode cX0_average 65 = .ok (.new 66, 3) := by decide +kernel
theorem dX0_average_68 : decode cX0_average 68 = .ok (.dup, 1) := by decide +kernel
theorem dX0_average_69 : decode cX0_average 69 = .ok (.ldc 132, 2) := by decide +kernel
theorem dX0_average_71 : decode cX0_average 71 = .ok (.invokespecial 70, 3) := by decide +kernel
theorem dX0_average_74 : decode cX0_average 74 = .ok (.athrow, 1) := by decide +kernel
theorem dX0_average_75 : decode cX0_average 75 = .ok (.iload_n 3, 1) := by decide +kernel
theorem dX0_average_76 : decode cX0_average 76 = .ok (.i2f, 1) := by decide +kernel
theorem dX0_average_77 : decode cX0_average 77 = .ok (.iload 4, 2) := by decide +kernel
theorem dX0_average_79 : decode cX0_average 79 = .ok (.i2f, 1) := by decide +kernel
theorem dX0_average_80 : decode cX0_average 80 = .ok (.fdiv, 1) := by decide +kernel
theorem dX0_average_81 : decode cX0_average 81 = .ok (.freturn, 1) := by decide +kernel
theorem dX0_needRange_0 : decode cX0_needRange 0 = .ok (.iload_n 0, 1) := by decide +kernel
theorem dX0_needRange_1 : decode cX0_needRange 1 = .ok (.ifCond .lt 8, 3) := by decide +kernel
theorem dX0_needRange_4 : decode cX0_needRange 4 = .ok (.iload_n 0, 1) := by decide +kernel
theorem dX0_needRange_5 : decode cX0_needRange 5 = .ok (.iload_n 1, 1) := by decide +kernel
theorem dX0_needRange_6 : decode cX0_needRange 6 = .ok (.if_icmp .lt 13, 3) := by decide +kernel
theorem dX0_needRange_9 : decode cX0_needRange 9 = .ok (.new 55, 3) := by decide +kernel
theorem dX0_needRange_12 : decode cX0_needRange 12 = .ok (.dup, 1) := by decide +kernel
theorem dX0_needRange_13 : decode cX0_needRange 13 = .ok (.ldc 134, 2) := by decide +kernel
theorem dX0_needRange_15 : decode cX0_needRange 15 = .ok (.invokespecial 59, 3) := by decide +kernel
theorem dX0_needRange_18 : decode cX0_needRange 18 = .ok (.athrow, 1) := by decide +kernel
theorem dX0_needRange_19 : decode cX0_needRange 19 = .ok (.return_, 1) := by decide +kernel
theorem dX0_needTableAndKey_0 : decode cX0_needTableAndKey 0 = .ok (.iload_n 0, 1) := by decide +kernel
theorem dX0_needTableAndKey_1 : decode cX0_needTableAndKey 1 = .ok (.iconst 2, 1) := by decide +kernel
theorem dX0_needTableAndKey_2 : decode cX0_needTableAndKey 2 = .ok (.invokestatic 28, 3) := by decide +kernel
theorem dX0_needTableAndKey_5 : decode cX0_needTableAndKey 5 = .ok (.iload_n 1, 1) := by decide +kernel
theorem dX0_needTableAndKey_6 : decode cX0_needTableAndKey 6 = .ok (.bipush 8, 2) := by decide +kernel
theorem dX0_needTableAndKey_8 : decode cX0_needTableAndKey 8 = .ok (.invokestatic 28, 3) := by decide +kernel
theorem dX0_needTableAndKey_11 : decode cX0_needTableAndKey 11 = .ok (.return_, 1) := by decide +kernel
theorem dX0_needSpan_0 : decode cX0_needSpan 0 = .ok (.iload_n 0, 1) := by decide +kernel
theorem dX0_needSpan_1 : decode cX0_needSpan 1 = .ok (.bipush 60, 2) := by decide +kernel
theorem dX0_needSpan_3 : decode cX0_needSpan 3 = .ok (.invokestatic 28, 3) := by decide +kernel
theorem dX0_needSpan_6 : decode cX0_needSpan 6 = .ok (.iload_n 1, 1) := by decide +kernel
theorem dX0_needSpan_7 : decode cX0_needSpan 7 = .ok (.iload_n 0, 1) := by decide +kernel
theorem dX0_needSpan_8 : decode cX0_needSpan 8 = .ok (.if_icmp .le 9, 3) := by decide +kernel
theorem dX0_needSpan_11 : decode cX0_needSpan 11 = .ok (.iload_n 1, 1) := by decide +kernel
theorem dX0_needSpan_12 : decode cX0_needSpan 12 = .ok (.bipush 60, 2) := by decide +kernel
theorem dX0_needSpan_14 : decode cX0_needSpan 14 = .ok (.if_icmp .le 13, 3) := by decide +kernel
theorem dX0_needSpan_17 : decode cX0_needSpan 17 = .ok (.new 55, 3) := by decide +kernel
theorem dX0_needSpan_20 : decode cX0_needSpan 20 = .ok (.dup, 1) := by decide +kernel
theorem dX0_needSpan_21 : decode cX0_needSpan 21 = .ok (.ldc 136, 2) := by decide +kernel
theorem dX0_needSpan_23 : decode cX0_needSpan 23 = .ok (.invokespecial 59, 3) := by decide +kernel
theorem dX0_needSpan_26 : decode cX0_needSpan 26 = .ok (.athrow, 1) := by decide +kernel
theorem dX0_needSpan_27 : decode cX0_needSpan 27 = .ok (.return_, 1) := by decide +kernel
theorem dX0_needRecord_0 : decode cX0_needRecord 0 = .ok (.iload_n 1, 1) := by decide +kernel
theorem dX0_needRecord_1 : decode cX0_needRecord 1 = .ok (.bipush 60, 2) := by decide +kernel
theorem dX0_needRecord_3 : decode cX0_needRecord 3 = .ok (.invokestatic 28, 3) := by decide +kernel
theorem dX0_needRecord_6 : decode cX0_needRecord 6 = .ok (.iload_n 1, 1) := by decide +kernel
theorem dX0_needRecord_7 : decode cX0_needRecord 7 = .ok (.aload_n 0, 1) := by decide +kernel
theorem dX0_needRecord_8 : decode cX0_needRecord 8 = .ok (.getfield 62, 3) := by decide +kernel
theorem dX0_needRecord_11 : decode cX0_needRecord 11 = .ok (.if_icmp .le 13, 3) := by decide +kernel
theorem dX0_needRecord_14 : decode cX0_needRecord 14 = .ok (.new 91, 3) := by decide +kernel
theorem dX0_needRecord_17 : decode cX0_needRecord 17 = .ok (.dup, 1) := by decide +kernel
theorem dX0_needRecord_18 : decode cX0_needRecord 18 = .ok (.ldc 138, 2) := by decide +kernel
theorem dX0_needRecord_20 : decode cX0_needRecord 20 = .ok (.invokespecial 95, 3) := by decide +kernel
theorem dX0_needRecord_23 : decode cX0_needRecord 23 = .ok (.athrow, 1) := by decide +kernel
theorem dX0_needRecord_24 : decode cX0_needRecord 24 = .ok (.return_, 1) := by decide +kernel
theorem dX0_valuesOf_0 : decode cX0_valuesOf 0 = .ok (.iload_n 0, 1) := by decide +kernel
theorem dX0_valuesOf_1 : decode cX0_valuesOf 1 = .ok (.ifCond .ne 8, 3) := by decide +kernel
theorem dX0_valuesOf_4 : decode cX0_valuesOf 4 = .ok (.bipush 100, 2) := by decide +kernel
theorem dX0_valuesOf_6 : decode cX0_valuesOf 6 = .ok (.goto 5, 3) := by decide +kernel
theorem dX0_valuesOf_9 : decode cX0_valuesOf 9 = .ok (.bipush 8, 2) := by decide +kernel
theorem dX0_valuesOf_11 : decode cX0_valuesOf 11 = .ok (.ireturn, 1) := by decide +kernel
theorem dX0_line_0 : decode cX0_line 0 = .ok (.iload_n 0, 1) := by decide +kernel
theorem dX0_line_1 : decode cX0_line 1 = .ok (.bipush 8, 2) := by decide +kernel
theorem dX0_line_3 : decode cX0_line 3 = .ok (.imul, 1) := by decide +kernel
theorem dX0_line_4 : decode cX0_line 4 = .ok (.iload_n 1, 1) := by decide +kernel
theorem dX0_line_5 : decode cX0_line 5 = .ok (.iadd, 1) := by decide +kernel
theorem dX0_line_6 : decode cX0_line 6 = .ok (.ireturn, 1) := by decide +kernel
theorem dX0_knownOn_0 : decode cX0_knownOn 0 = .ok (.iload_n 1, 1) := by decide +kernel
theorem dX0_knownOn_1 : decode cX0_knownOn 1 = .ok (.ifCond .lt 9, 3) := by decide +kernel
theorem dX0_knownOn_4 : decode cX0_knownOn 4 = .ok (.iload_n 1, 1) := by decide +kernel
theorem dX0_knownOn_5 : decode cX0_knownOn 5 = .ok (.bipush 60, 2) := by decide +kernel
theorem dX0_knownOn_7 : decode cX0_knownOn 7 = .ok (.if_icmp .lt 5, 3) := by decide +kernel
theorem dX0_knownOn_10 : decode cX0_knownOn 10 = .ok (.iconst (-1), 1) := by decide +kernel
theorem dX0_knownOn_11 : decode cX0_knownOn 11 = .ok (.ireturn, 1) := by decide +kernel
theorem dX0_knownOn_12 : decode cX0_knownOn 12 = .ok (.aload_n 0, 1) := by decide +kernel
theorem dX0_knownOn_13 : decode cX0_knownOn 13 = .ok (.getfield 14, 3) := by decide +kernel
theorem dX0_knownOn_16 : decode cX0_knownOn 16 = .ok (.iload_n 1, 1) := by decide +kernel
theorem dX0_knownOn_17 : decode cX0_knownOn 17 = .ok (.iaload, 1) := by decide +kernel
theorem dX0_knownOn_18 : decode cX0_knownOn 18 = .ok (.iload_n 2, 1) := by decide +kernel
theorem dX0_knownOn_19 : decode cX0_knownOn 19 = .ok (.iload_n 3, 1) := by decide +kernel
theorem dX0_knownOn_20 : decode cX0_knownOn 20 = .ok (.invokestatic 140, 3) := by decide +kernel
theorem dX0_knownOn_23 : decode cX0_knownOn 23 = .ok (.istore 4, 2) := by decide +kernel
theorem dX0_knownOn_25 : decode cX0_knownOn 25 = .ok (.iload 4, 2) := by decide +kernel
theorem dX0_knownOn_27 : decode cX0_knownOn 27 = .ok (.ifCond .lt 13, 3) := by decide +kernel
theorem dX0_knownOn_30 : decode cX0_knownOn 30 = .ok (.iload 4, 2) := by decide +kernel
theorem dX0_knownOn_32 : decode cX0_knownOn 32 = .ok (.aload_n 0, 1) := by decide +kernel
theorem dX0_knownOn_33 : decode cX0_knownOn 33 = .ok (.getfield 10, 3) := by decide +kernel
theorem dX0_knownOn_36 : decode cX0_knownOn 36 = .ok (.arraylength, 1) := by decide +kernel
theorem dX0_knownOn_37 : decode cX0_knownOn 37 = .ok (.if_icmp .lt 7, 3) := by decide +kernel
theorem dX0_knownOn_40 : decode cX0_knownOn 40 = .ok (.iconst (-1), 1) := by decide +kernel
theorem dX0_knownOn_41 : decode cX0_knownOn 41 = .ok (.goto 10, 3) := by decide +kernel
theorem dX0_knownOn_44 : decode cX0_knownOn 44 = .ok (.aload_n 0, 1) := by decide +kernel
theorem dX0_knownOn_45 : decode cX0_knownOn 45 = .ok (.getfield 10, 3) := by decide +kernel
theorem dX0_knownOn_48 : decode cX0_knownOn 48 = .ok (.iload 4, 2) := by decide +kernel
theorem dX0_knownOn_50 : decode cX0_knownOn 50 = .ok (.iaload, 1) := by decide +kernel
theorem dX0_knownOn_51 : decode cX0_knownOn 51 = .ok (.ireturn, 1) := by decide +kernel
theorem dX0_recordToday_0 : decode cX0_recordToday 0 = .ok (.aload_n 0, 1) := by decide +kernel
theorem dX0_recordToday_1 : decode cX0_recordToday 1 = .ok (.getfield 62, 3) := by decide +kernel
theorem dX0_recordToday_4 : decode cX0_recordToday 4 = .ok (.iload_n 1, 1) := by decide +kernel
theorem dX0_recordToday_5 : decode cX0_recordToday 5 = .ok (.iload_n 2, 1) := by decide +kernel
theorem dX0_recordToday_6 : decode cX0_recordToday 6 = .ok (.invokestatic 140, 3) := by decide +kernel
theorem dX0_recordToday_9 : decode cX0_recordToday 9 = .ok (.istore 4, 2) := by decide +kernel
theorem dX0_recordToday_11 : decode cX0_recordToday 11 = .ok (.iload 4, 2) := by decide +kernel
theorem dX0_recordToday_13 : decode cX0_recordToday 13 = .ok (.ifCond .lt 21, 3) := by decide +kernel
theorem dX0_recordToday_16 : decode cX0_recordToday 16 = .ok (.iload 4, 2) := by decide +kernel
theorem dX0_recordToday_18 : decode cX0_recordToday 18 = .ok (.aload_n 0, 1) := by decide +kernel
theorem dX0_recordToday_19 : decode cX0_recordToday 19 = .ok (.getfield 10, 3) := by decide +kernel
theorem dX0_recordToday_22 : decode cX0_recordToday 22 = .ok (.arraylength, 1) := by decide +kernel
theorem dX0_recordToday_23 : decode cX0_recordToday 23 = .ok (.if_icmp .ge 11, 3) := by decide +kernel
theorem dX0_recordToday_26 : decode cX0_recordToday 26 = .ok (.aload_n 0, 1) := by decide +kernel
theorem dX0_recordToday_27 : decode cX0_recordToday 27 = .ok (.getfield 10, 3) := by decide +kernel
theorem dX0_recordToday_30 : decode cX0_recordToday 30 = .ok (.iload 4, 2) := by decide +kernel
theorem dX0_recordToday_32 : decode cX0_recordToday 32 = .ok (.iload_n 3, 1) := by decide +kernel
theorem dX0_recordToday_33 : decode cX0_recordToday 33 = .ok (.iastore, 1) := by decide +kernel
theorem dX0_recordToday_34 : decode cX0_recordToday 34 = .ok (.return_, 1) := by decide +kernel
theorem dX0_index_0 : decode cX0_index 0 = .ok (.iload_n 0, 1) := by decide +kernel
theorem dX0_index_1 : decode cX0_index 1 = .ok (.bipush 16, 2) := by decide +kernel
theorem dX0_index_3 : decode cX0_index 3 = .ok (.imul, 1) := by decide +kernel
theorem dX0_index_4 : decode cX0_index 4 = .ok (.iload_n 1, 1) := by decide +kernel
theorem dX0_index_5 : decode cX0_index 5 = .ok (.iadd, 1) := by decide +kernel
theorem dX0_index_6 : decode cX0_index 6 = .ok (.bipush 60, 2) := by decide +kernel
theorem dX0_index_8 : decode cX0_index 8 = .ok (.imul, 1) := by decide +kernel
theorem dX0_index_9 : decode cX0_index 9 = .ok (.iload_n 2, 1) := by decide +kernel
theorem dX0_index_10 : decode cX0_index 10 = .ok (.iadd, 1) := by decide +kernel
theorem dX0_index_11 : decode cX0_index 11 = .ok (.ireturn, 1) := by decide +kernel
theorem dX0_keepOn_0 : decode cX0_keepOn 0 = .ok (.iload_n 1, 1) := by decide +kernel
theorem dX0_keepOn_1 : decode cX0_keepOn 1 = .ok (.ifCond .lt 16, 3) := by decide +kernel
theorem dX0_keepOn_4 : decode cX0_keepOn 4 = .ok (.iload_n 1, 1) := by decide +kernel
theorem dX0_keepOn_5 : decode cX0_keepOn 5 = .ok (.bipush 60, 2) := by decide +kernel
theorem dX0_keepOn_7 : decode cX0_keepOn 7 = .ok (.if_icmp .ge 10, 3) := by decide +kernel
theorem dX0_keepOn_10 : decode cX0_keepOn 10 = .ok (.aload_n 0, 1) := by decide +kernel
theorem dX0_keepOn_11 : decode cX0_keepOn 11 = .ok (.getfield 14, 3) := by decide +kernel
theorem dX0_keepOn_14 : decode cX0_keepOn 14 = .ok (.iload_n 1, 1) := by decide +kernel
theorem dX0_keepOn_15 : decode cX0_keepOn 15 = .ok (.iload_n 2, 1) := by decide +kernel
theorem dX0_keepOn_16 : decode cX0_keepOn 16 = .ok (.iastore, 1) := by decide +kernel
theorem dX0_keepOn_17 : decode cX0_keepOn 17 = .ok (.return_, 1) := by decide +kernel
theorem dX0_copyDay_0 : decode cX0_copyDay 0 = .ok (.iload_n 1, 1) := by decide +kernel
theorem dX0_copyDay_1 : decode cX0_copyDay 1 = .ok (.ifCond .lt 45, 3) := by decide +kernel
theorem dX0_copyDay_4 : decode cX0_copyDay 4 = .ok (.iload_n 1, 1) := by decide +kernel
theorem dX0_copyDay_5 : decode cX0_copyDay 5 = .ok (.bipush 60, 2) := by decide +kernel
theorem dX0_copyDay_7 : decode cX0_copyDay 7 = .ok (.if_icmp .ge 39, 3) := by decide +kernel
theorem dX0_copyDay_10 : decode cX0_copyDay 10 = .ok (.iload_n 2, 1) := by decide +kernel
theorem dX0_copyDay_11 : decode cX0_copyDay 11 = .ok (.ifCond .lt 35, 3) := by decide +kernel
theorem dX0_copyDay_14 : decode cX0_copyDay 14 = .ok (.iload_n 2, 1) := by decide +kernel
theorem dX0_copyDay_15 : decode cX0_copyDay 15 = .ok (.bipush 60, 2) := by decide +kernel
theorem dX0_copyDay_17 : decode cX0_copyDay 17 = .ok (.if_icmp .ge 29, 3) := by decide +kernel
theorem dX0_copyDay_20 : decode cX0_copyDay 20 = .ok (.aload_n 0, 1) := by decide +kernel
theorem dX0_copyDay_21 : decode cX0_copyDay 21 = .ok (.getfield 10, 3) := by decide +kernel
theorem dX0_copyDay_24 : decode cX0_copyDay 24 = .ok (.iload_n 1, 1) := by decide +kernel
theorem dX0_copyDay_25 : decode cX0_copyDay 25 = .ok (.iconst 0, 1) := by decide +kernel
theorem dX0_copyDay_26 : decode cX0_copyDay 26 = .ok (.iconst 0, 1) := by decide +kernel
theorem dX0_copyDay_27 : decode cX0_copyDay 27 = .ok (.invokestatic 140, 3) := by decide +kernel
theorem dX0_copyDay_30 : decode cX0_copyDay 30 = .ok (.aload_n 0, 1) := by decide +kernel
theorem dX0_copyDay_31 : decode cX0_copyDay 31 = .ok (.getfield 10, 3) := by decide +kernel
theorem dX0_copyDay_34 : decode cX0_copyDay 34 = .ok (.iload_n 2, 1) := by decide +kernel
theorem dX0_copyDay_35 : decode cX0_copyDay 35 = .ok (.iconst 0, 1) := by decide +kernel
theorem dX0_copyDay_36 : decode cX0_copyDay 36 = .ok (.iconst 0, 1) := by decide +kernel
theorem dX0_copyDay_37 : decode cX0_copyDay 37 = .ok (.invokestatic 140, 3) := by decide +kernel
theorem dX0_copyDay_40 : decode cX0_copyDay 40 = .ok (.sipush 960, 3) := by decide +kernel
theorem dX0_copyDay_43 : decode cX0_copyDay 43 = .ok (.invokestatic 143, 3) := by decide +kernel
theorem dX0_copyDay_46 : decode cX0_copyDay 46 = .ok (.return_, 1) := by decide +kernel
theorem dX0_draftSpan_0 : decode cX0_draftSpan 0 = .ok (.iconst 0, 1) := by decide +kernel
theorem dX0_draftSpan_1 : decode cX0_draftSpan 1 = .ok (.istore 5, 2) := by decide +kernel
theorem dX0_draftSpan_3 : decode cX0_draftSpan 3 = .ok (.iload 5, 2) := by decide +kernel
theorem dX0_draftSpan_5 : decode cX0_draftSpan 5 = .ok (.bipush 60, 2) := by decide +kernel
theorem dX0_draftSpan_7 : decode cX0_draftSpan 7 = .ok (.if_icmp .ge 44, 3) := by decide +kernel
theorem dX0_draftSpan_10 : decode cX0_draftSpan 10 = .ok (.aload_n 0, 1) := by decide +kernel
theorem dX0_draftSpan_11 : decode cX0_draftSpan 11 = .ok (.getfield 17, 3) := by decide +kernel
theorem dX0_draftSpan_14 : decode cX0_draftSpan 14 = .ok (.iload 5, 2) := by decide +kernel
theorem dX0_draftSpan_16 : decode cX0_draftSpan 16 = .ok (.iload 5, 2) := by decide +kernel
theorem dX0_draftSpan_18 : decode cX0_draftSpan 18 = .ok (.iload_n 2, 1) := by decide +kernel
theorem dX0_draftSpan_19 : decode cX0_draftSpan 19 = .ok (.if_icmp .lt 14, 3) := by decide +kernel
theorem dX0_draftSpan_22 : decode cX0_draftSpan 22 = .ok (.iload 5, 2) := by decide +kernel
theorem dX0_draftSpan_24 : decode cX0_draftSpan 24 = .ok (.iload_n 3, 1) := by decide +kernel
theorem dX0_draftSpan_25 : decode cX0_draftSpan 25 = .ok (.if_icmp .ge 8, 3) := by decide +kernel
theorem dX0_draftSpan_28 : decode cX0_draftSpan 28 = .ok (.iload 4, 2) := by decide +kernel
theorem dX0_draftSpan_30 : decode cX0_draftSpan 30 = .ok (.goto 14, 3) := by decide +kernel
theorem dX0_draftSpan_33 : decode cX0_draftSpan 33 = .ok (.aload_n 0, 1) := by decide +kernel
theorem dX0_draftSpan_34 : decode cX0_draftSpan 34 = .ok (.aload_n 0, 1) := by decide +kernel
theorem dX0_draftSpan_35 : decode cX0_draftSpan 35 = .ok (.getfield 62, 3) := by decide +kernel
theorem dX0_draftSpan_38 : decode cX0_draftSpan 38 = .ok (.iload_n 1, 1) := by decide +kernel
theorem dX0_draftSpan_39 : decode cX0_draftSpan 39 = .ok (.iload 5, 2) := by decide +kernel
theorem dX0_draftSpan_41 : decode cX0_draftSpan 41 = .ok (.invokevirtual 77, 3) := by decide +kernel
theorem dX0_draftSpan_44 : decode cX0_draftSpan 44 = .ok (.iastore, 1) := by decide +kernel
theorem dX0_draftSpan_45 : decode cX0_draftSpan 45 = .ok (.iinc 5 1, 3) := by decide +kernel
theorem dX0_draftSpan_48 : decode cX0_draftSpan 48 = .ok (.goto (-45), 3) := by decide +kernel
theorem dX0_draftSpan_51 : decode cX0_draftSpan 51 = .ok (.return_, 1) := by decide +kernel
theorem dX0_draftRecord_0 : decode cX0_draftRecord 0 = .ok (.iconst 0, 1) := by decide +kernel
theorem dX0_draftRecord_1 : decode cX0_draftRecord 1 = .ok (.istore_n 3, 1) := by decide +kernel
theorem dX0_draftRecord_2 : decode cX0_draftRecord 2 = .ok (.iload_n 3, 1) := by decide +kernel
theorem dX0_draftRecord_3 : decode cX0_draftRecord 3 = .ok (.bipush 60, 2) := by decide +kernel
theorem dX0_draftRecord_5 : decode cX0_draftRecord 5 = .ok (.if_icmp .ge 22, 3) := by decide +kernel
theorem dX0_draftRecord_8 : decode cX0_draftRecord 8 = .ok (.aload_n 0, 1) := by decide +kernel
theorem dX0_draftRecord_9 : decode cX0_draftRecord 9 = .ok (.getfield 17, 3) := by decide +kernel
theorem dX0_draftRecord_12 : decode cX0_draftRecord 12 = .ok (.iload_n 3, 1) := by decide +kernel
theorem dX0_draftRecord_13 : decode cX0_draftRecord 13 = .ok (.aload_n 0, 1) := by decide +kernel
theorem dX0_draftRecord_14 : decode cX0_draftRecord 14 = .ok (.iload_n 2, 1) := by decide +kernel
theorem dX0_draftRecord_15 : decode cX0_draftRecord 15 = .ok (.iload_n 1, 1) := by decide +kernel
theorem dX0_draftRecord_16 : decode cX0_draftRecord 16 = .ok (.iload_n 3, 1) := by decide +kernel
theorem dX0_draftRecord_17 : decode cX0_draftRecord 17 = .ok (.invokevirtual 77, 3) := by decide +kernel
theorem dX0_draftRecord_20 : decode cX0_draftRecord 20 = .ok (.iastore, 1) := by decide +kernel
theorem dX0_draftRecord_21 : decode cX0_draftRecord 21 = .ok (.iinc 3 1, 3) := by decide +kernel
theorem dX0_draftRecord_24 : decode cX0_draftRecord 24 = .ok (.goto (-22), 3) := by decide +kernel
theorem dX0_draftRecord_27 : decode cX0_draftRecord 27 = .ok (.return_, 1) := by decide +kernel
theorem dX0_recordDraft_0 : decode cX0_recordDraft 0 = .ok (.aload_n 0, 1) := by decide +kernel
theorem dX0_recordDraft_1 : decode cX0_recordDraft 1 = .ok (.iload_n 1, 1) := by decide +kernel
theorem dX0_recordDraft_2 : decode cX0_recordDraft 2 = .ok (.iload_n 2, 1) := by decide +kernel
theorem dX0_recordDraft_3 : decode cX0_recordDraft 3 = .ok (.invokevirtual 149, 3) := by decide +kernel
theorem dX0_recordDraft_6 : decode cX0_recordDraft 6 = .ok (.ifCond .ne 13, 3) := by decide +kernel
theorem dX0_recordDraft_9 : decode cX0_recordDraft 9 = .ok (.new 66, 3) := by decide +kernel
theorem dX0_recordDraft_12 : decode cX0_recordDraft 12 = .ok (.dup, 1) := by decide +kernel
theorem dX0_recordDraft_13 : decode cX0_recordDraft 13 = .ok (.ldc 153, 2) := by decide +kernel
theorem dX0_recordDraft_15 : decode cX0_recordDraft 15 = .ok (.invokespecial 70, 3) := by decide +kernel
theorem dX0_recordDraft_18 : decode cX0_recordDraft 18 = .ok (.athrow, 1) := by decide +kernel
theorem dX0_recordDraft_19 : decode cX0_recordDraft 19 = .ok (.iload_n 1, 1) := by decide +kernel
theorem dX0_recordDraft_20 : decode cX0_recordDraft 20 = .ok (.iload_n 2, 1) := by decide +kernel
theorem dX0_recordDraft_21 : decode cX0_recordDraft 21 = .ok (.invokestatic 34, 3) := by decide +kernel
theorem dX0_recordDraft_24 : decode cX0_recordDraft 24 = .ok (.istore_n 3, 1) := by decide +kernel
theorem dX0_recordDraft_25 : decode cX0_recordDraft 25 = .ok (.iconst 0, 1) := by decide +kernel
theorem dX0_recordDraft_26 : decode cX0_recordDraft 26 = .ok (.istore 4, 2) := by decide +kernel
theorem dX0_recordDraft_28 : decode cX0_recordDraft 28 = .ok (.iconst 0, 1) := by decide +kernel
theorem dX0_recordDraft_29 : decode cX0_recordDraft 29 = .ok (.istore 5, 2) := by decide +kernel
theorem dX0_recordDraft_31 : decode cX0_recordDraft 31 = .ok (.iload 5, 2) := by decide +kernel
theorem dX0_recordDraft_33 : decode cX0_recordDraft 33 = .ok (.bipush 60, 2) := by decide +kernel
theorem dX0_recordDraft_35 : decode cX0_recordDraft 35 = .ok (.if_icmp .ge 47, 3) := by decide +kernel
theorem dX0_recordDraft_38 : decode cX0_recordDraft 38 = .ok (.aload_n 0, 1) := by decide +kernel
theorem dX0_recordDraft_39 : decode cX0_recordDraft 39 = .ok (.aload_n 0, 1) := by decide +kernel
theorem dX0_recordDraft_40 : decode cX0_recordDraft 40 = .ok (.getfield 62, 3) := by decide +kernel
theorem dX0_recordDraft_43 : decode cX0_recordDraft 43 = .ok (.iload_n 3, 1) := by decide +kernel
theorem dX0_recordDraft_44 : decode cX0_recordDraft 44 = .ok (.iload 5, 2) := by decide +kernel
theorem dX0_recordDraft_46 : decode cX0_recordDraft 46 = .ok (.invokevirtual 77, 3) := by decide +kernel
theorem dX0_recordDraft_49 : decode cX0_recordDraft 49 = .ok (.aload_n 0, 1) := by decide +kernel
theorem dX0_recordDraft_50 : decode cX0_recordDraft 50 = .ok (.getfield 17, 3) := by decide +kernel
theorem dX0_recordDraft_53 : decode cX0_recordDraft 53 = .ok (.iload 5, 2) := by decide +kernel
theorem dX0_recordDraft_55 : decode cX0_recordDraft 55 = .ok (.iaload, 1) := by decide +kernel
theorem dX0_recordDraft_56 : decode cX0_recordDraft 56 = .ok (.if_icmp .eq 20, 3) := by decide +kernel
theorem dX0_recordDraft_59 : decode cX0_recordDraft 59 = .ok (.aload_n 0, 1) := by decide +kernel
theorem dX0_recordDraft_60 : decode cX0_recordDraft 60 = .ok (.iload_n 3, 1) := by decide +kernel
theorem dX0_recordDraft_61 : decode cX0_recordDraft 61 = .ok (.iload 5, 2) := by decide +kernel
theorem dX0_recordDraft_63 : decode cX0_recordDraft 63 = .ok (.aload_n 0, 1) := by decide +kernel
theorem dX0_recordDraft_64 : decode cX0_recordDraft 64 = .ok (.getfield 17, 3) := by decide +kernel
theorem dX0_recordDraft_67 : decode cX0_recordDraft 67 = .ok (.iload 5, 2) := by decide +kernel
theorem dX0_recordDraft_69 : decode cX0_recordDraft 69 = .ok (.iaload, 1) := by decide +kernel
theorem dX0_recordDraft_70 : decode cX0_recordDraft 70 = .ok (.invokevirtual 155, 3) := by decide +kernel
theorem dX0_recordDraft_73 : decode cX0_recordDraft 73 = .ok (.iinc 4 1, 3) := by decide +kernel
theorem dX0_recordDraft_76 : decode cX0_recordDraft 76 = .ok (.iinc 5 1, 3) := by decide +kernel
theorem dX0_recordDraft_79 : decode cX0_recordDraft 79 = .ok (.goto (-48), 3) := by decide +kernel
theorem dX0_recordDraft_82 : decode cX0_recordDraft 82 = .ok (.iload 4, 2) := by decide +kernel
theorem dX0_recordDraft_84 : decode cX0_recordDraft 84 = .ok (.ireturn, 1) := by decide +kernel
theorem dX0_draftKeepsReferences_0 : decode cX0_draftKeepsReferences 0 = .ok (.iconst 0, 1) := by decide +kernel
theorem dX0_draftKeepsReferences_1 : decode cX0_draftKeepsReferences 1 = .ok (.istore_n 3, 1) := by decide +kernel
theorem dX0_draftKeepsReferences_2 : decode cX0_draftKeepsReferences 2 = .ok (.iload_n 3, 1) := by decide +kernel
theorem dX0_draftKeepsReferences_3 : decode cX0_draftKeepsReferences 3 = .ok (.bipush 60, 2) := by decide +kernel
theorem dX0_draftKeepsReferences_5 : decode cX0_draftKeepsReferences 5 = .ok (.if_icmp .ge 70, 3) := by decide +kernel
theorem dX0_draftKeepsReferences_8 : decode cX0_draftKeepsReferences 8 = .ok (.aload_n 0, 1) := by decide +kernel
theorem dX0_draftKeepsReferences_9 : decode cX0_draftKeepsReferences 9 = .ok (.getfield 17, 3) := by decide +kernel
theorem dX0_draftKeepsReferences_12 : decode cX0_draftKeepsReferences 12 = .ok (.iload_n 3, 1) := by decide +kernel
theorem dX0_draftKeepsReferences_13 : decode cX0_draftKeepsReferences 13 = .ok (.iaload, 1) := by decide +kernel
theorem dX0_draftKeepsReferences_14 : decode cX0_draftKeepsReferences 14 = .ok (.istore 4, 2) := by decide +kernel
theorem dX0_draftKeepsReferences_16 : decode cX0_draftKeepsReferences 16 = .ok (.iload_n 1, 1) := by decide +kernel
theorem dX0_draftKeepsReferences_17 : decode cX0_draftKeepsReferences 17 = .ok (.ifCond .ne 20, 3) := by decide +kernel
theorem dX0_draftKeepsReferences_20 : decode cX0_draftKeepsReferences 20 = .ok (.iload 4, 2) := by decide +kernel
theorem dX0_draftKeepsReferences_22 : decode cX0_draftKeepsReferences 22 = .ok (.iconst (-1), 1) := by decide +kernel
theorem dX0_draftKeepsReferences_23 : decode cX0_draftKeepsReferences 23 = .ok (.if_icmp .ne 14, 3) := by decide +kernel
theorem dX0_draftKeepsReferences_26 : decode cX0_draftKeepsReferences 26 = .ok (.aload_n 0, 1) := by decide +kernel
theorem dX0_draftKeepsReferences_27 : decode cX0_draftKeepsReferences 27 = .ok (.iload_n 2, 1) := by decide +kernel
theorem dX0_draftKeepsReferences_28 : decode cX0_draftKeepsReferences 28 = .ok (.iload_n 3, 1) := by decide +kernel
theorem dX0_draftKeepsReferences_29 : decode cX0_draftKeepsReferences 29 = .ok (.invokevirtual 159, 3) := by decide +kernel
theorem dX0_draftKeepsReferences_32 : decode cX0_draftKeepsReferences 32 = .ok (.ifCond .eq 5, 3) := by decide +kernel
theorem dX0_draftKeepsReferences_35 : decode cX0_draftKeepsReferences 35 = .ok (.iconst 0, 1) := by decide +kernel
theorem dX0_draftKeepsReferences_36 : decode cX0_draftKeepsReferences 36 = .ok (.ireturn, 1) := by decide +kernel
theorem dX0_draftKeepsReferences_37 : decode cX0_draftKeepsReferences 37 = .ok (.iload_n 1, 1) := by decide +kernel
theorem dX0_draftKeepsReferences_38 : decode cX0_draftKeepsReferences 38 = .ok (.iconst 1, 1) := by decide +kernel
theorem dX0_draftKeepsReferences_39 : decode cX0_draftKeepsReferences 39 = .ok (.if_icmp .ne 30, 3) := by decide +kernel
theorem dX0_draftKeepsReferences_42 : decode cX0_draftKeepsReferences 42 = .ok (.iload 4, 2) := by decide +kernel
theorem dX0_draftKeepsReferences_44 : decode cX0_draftKeepsReferences 44 = .ok (.iconst (-1), 1) := by decide +kernel
theorem dX0_draftKeepsReferences_45 : decode cX0_draftKeepsReferences 45 = .ok (.if_icmp .eq 24, 3) := by decide +kernel
theorem dX0_draftKeepsReferences_48 : decode cX0_draftKeepsReferences 48 = .ok (.aload_n 0, 1) := by decide +kernel
theorem dX0_draftKeepsReferences_49 : decode cX0_draftKeepsReferences 49 = .ok (.aload_n 0, 1) := by decide +kernel
theorem dX0_draftKeepsReferences_50 : decode cX0_draftKeepsReferences 50 = .ok (.getfield 62, 3) := by decide +kernel
theorem dX0_draftKeepsReferences_53 : decode cX0_draftKeepsReferences 53 = .ok (.iconst 0, 1) := by decide +kernel
theorem dX0_draftKeepsReferences_54 : decode cX0_draftKeepsReferences 54 = .ok (.iload 4, 2) := by decide +kernel
theorem dX0_draftKeepsReferences_56 : decode cX0_draftKeepsReferences 56 = .ok (.invokestatic 34, 3) := by decide +kernel
theorem dX0_draftKeepsReferences_59 : decode cX0_draftKeepsReferences 59 = .ok (.iload_n 3, 1) := by decide +kernel
theorem dX0_draftKeepsReferences_60 : decode cX0_draftKeepsReferences 60 = .ok (.invokevirtual 77, 3) := by decide +kernel
theorem dX0_draftKeepsReferences_63 : decode cX0_draftKeepsReferences 63 = .ok (.iconst (-1), 1) := by decide +kernel
theorem dX0_draftKeepsReferences_64 : decode cX0_draftKeepsReferences 64 = .ok (.if_icmp .ne 5, 3) := by decide +kernel
theorem dX0_draftKeepsReferences_67 : decode cX0_draftKeepsReferences 67 = .ok (.iconst 0, 1) := by decide +kernel
theorem dX0_draftKeepsReferences_68 : decode cX0_draftKeepsReferences 68 = .ok (.ireturn, 1) := by decide +kernel
theorem dX0_draftKeepsReferences_69 : decode cX0_draftKeepsReferences 69 = .ok (.iinc 3 1, 3) := by decide +kernel
theorem dX0_draftKeepsReferences_72 : decode cX0_draftKeepsReferences 72 = .ok (.goto (-70), 3) := by decide +kernel
theorem dX0_draftKeepsReferences_75 : decode cX0_draftKeepsReferences 75 = .ok (.iconst 1, 1) := by decide +kernel
theorem dX0_draftKeepsReferences_76 : decode cX0_draftKeepsReferences 76 = .ok (.ireturn, 1) := by decide +kernel
theorem dX0_isReferredTo_0 : decode cX0_isReferredTo 0 = .ok (.iconst 0, 1) := by decide +kernel
theorem dX0_isReferredTo_1 : decode cX0_isReferredTo 1 = .ok (.istore_n 3, 1) := by decide +kernel
theorem dX0_isReferredTo_2 : decode cX0_isReferredTo 2 = .ok (.iload_n 3, 1) := by decide +kernel
theorem dX0_isReferredTo_3 : decode cX0_isReferredTo 3 = .ok (.bipush 8, 2) := by decide +kernel
theorem dX0_isReferredTo_5 : decode cX0_isReferredTo 5 = .ok (.if_icmp .ge 29, 3) := by decide +kernel
theorem dX0_isReferredTo_8 : decode cX0_isReferredTo 8 = .ok (.aload_n 0, 1) := by decide +kernel
theorem dX0_isReferredTo_9 : decode cX0_isReferredTo 9 = .ok (.aload_n 0, 1) := by decide +kernel
theorem dX0_isReferredTo_10 : decode cX0_isReferredTo 10 = .ok (.getfield 62, 3) := by decide +kernel
theorem dX0_isReferredTo_13 : decode cX0_isReferredTo 13 = .ok (.iconst 1, 1) := by decide +kernel
theorem dX0_isReferredTo_14 : decode cX0_isReferredTo 14 = .ok (.iload_n 3, 1) := by decide +kernel
theorem dX0_isReferredTo_15 : decode cX0_isReferredTo 15 = .ok (.invokestatic 34, 3) := by decide +kernel
theorem dX0_isReferredTo_18 : decode cX0_isReferredTo 18 = .ok (.iload_n 2, 1) := by decide +kernel
theorem dX0_isReferredTo_19 : decode cX0_isReferredTo 19 = .ok (.invokevirtual 77, 3) := by decide +kernel
theorem dX0_isReferredTo_22 : decode cX0_isReferredTo 22 = .ok (.iload_n 1, 1) := by decide +kernel
theorem dX0_isReferredTo_23 : decode cX0_isReferredTo 23 = .ok (.if_icmp .ne 5, 3) := by decide +kernel
theorem dX0_isReferredTo_26 : decode cX0_isReferredTo 26 = .ok (.iconst 1, 1) := by decide +kernel
theorem dX0_isReferredTo_27 : decode cX0_isReferredTo 27 = .ok (.ireturn, 1) := by decide +kernel
theorem dX0_isReferredTo_28 : decode cX0_isReferredTo 28 = .ok (.iinc 3 1, 3) := by decide +kernel
theorem dX0_isReferredTo_31 : decode cX0_isReferredTo 31 = .ok (.goto (-29), 3) := by decide +kernel
theorem dX0_isReferredTo_34 : decode cX0_isReferredTo 34 = .ok (.iconst 0, 1) := by decide +kernel
theorem dX0_isReferredTo_35 : decode cX0_isReferredTo 35 = .ok (.ireturn, 1) := by decide +kernel
theorem dX0_loseWithReferences_0 : decode cX0_loseWithReferences 0 = .ok (.aload_n 0, 1) := by decide +kernel
theorem dX0_loseWithReferences_1 : decode cX0_loseWithReferences 1 = .ok (.iconst 0, 1) := by decide +kernel
theorem dX0_loseWithReferences_2 : decode cX0_loseWithReferences 2 = .ok (.iload_n 1, 1) := by decide +kernel
theorem dX0_loseWithReferences_3 : decode cX0_loseWithReferences 3 = .ok (.invokestatic 34, 3) := by decide +kernel
theorem dX0_loseWithReferences_6 : decode cX0_loseWithReferences 6 = .ok (.iload_n 2, 1) := by decide +kernel
theorem dX0_loseWithReferences_7 : decode cX0_loseWithReferences 7 = .ok (.invokevirtual 162, 3) := by decide +kernel
theorem dX0_loseWithReferences_10 : decode cX0_loseWithReferences 10 = .ok (.istore_n 3, 1) := by decide +kernel
theorem dX0_loseWithReferences_11 : decode cX0_loseWithReferences 11 = .ok (.iconst 0, 1) := by decide +kernel
theorem dX0_loseWithReferences_12 : decode cX0_loseWithReferences 12 = .ok (.istore 4, 2) := by decide +kernel
theorem dX0_loseWithReferences_14 : decode cX0_loseWithReferences 14 = .ok (.iload 4, 2) := by decide +kernel
theorem dX0_loseWithReferences_16 : decode cX0_loseWithReferences 16 = .ok (.bipush 8, 2) := by decide +kernel
theorem dX0_loseWithReferences_18 : decode cX0_loseWithReferences 18 = .ok (.if_icmp .ge 42, 3) := by decide +kernel
theorem dX0_loseWithReferences_21 : decode cX0_loseWithReferences 21 = .ok (.aload_n 0, 1) := by decide +kernel
theorem dX0_loseWithReferences_22 : decode cX0_loseWithReferences 22 = .ok (.aload_n 0, 1) := by decide +kernel
theorem dX0_loseWithReferences_23 : decode cX0_loseWithReferences 23 = .ok (.getfield 62, 3) := by decide +kernel
theorem dX0_loseWithReferences_26 : decode cX0_loseWithReferences 26 = .ok (.iconst 1, 1) := by decide +kernel
theorem dX0_loseWithReferences_27 : decode cX0_loseWithReferences 27 = .ok (.iload 4, 2) := by decide +kernel
theorem dX0_loseWithReferences_29 : decode cX0_loseWithReferences 29 = .ok (.invokestatic 34, 3) := by decide +kernel
theorem dX0_loseWithReferences_32 : decode cX0_loseWithReferences 32 = .ok (.iload_n 2, 1) := by decide +kernel
theorem dX0_loseWithReferences_33 : decode cX0_loseWithReferences 33 = .ok (.invokevirtual 77, 3) := by decide +kernel
theorem dX0_loseWithReferences_36 : decode cX0_loseWithReferences 36 = .ok (.iload_n 1, 1) := by decide +kernel
theorem dX0_loseWithReferences_37 : decode cX0_loseWithReferences 37 = .ok (.if_icmp .ne 17, 3) := by decide +kernel
theorem dX0_loseWithReferences_40 : decode cX0_loseWithReferences 40 = .ok (.iload_n 3, 1) := by decide +kernel
theorem dX0_loseWithReferences_41 : decode cX0_loseWithReferences 41 = .ok (.aload_n 0, 1) := by decide +kernel
theorem dX0_loseWithReferences_42 : decode cX0_loseWithReferences 42 = .ok (.iconst 1, 1) := by decide +kernel
theorem dX0_loseWithReferences_43 : decode cX0_loseWithReferences 43 = .ok (.iload 4, 2) := by decide +kernel
theorem dX0_loseWithReferences_45 : decode cX0_loseWithReferences 45 = .ok (.invokestatic 34, 3) := by decide +kernel
theorem dX0_loseWithReferences_48 : decode cX0_loseWithReferences 48 = .ok (.iload_n 2, 1) := by decide +kernel
theorem dX0_loseWithReferences_49 : decode cX0_loseWithReferences 49 = .ok (.invokevirtual 162, 3) := by decide +kernel
theorem dX0_loseWithReferences_52 : decode cX0_loseWithReferences 52 = .ok (.iadd, 1) := by decide +kernel
theorem dX0_loseWithReferences_53 : decode cX0_loseWithReferences 53 = .ok (.istore_n 3, 1) := by decide +kernel
theorem dX0_loseWithReferences_54 : decode cX0_loseWithReferences 54 = .ok (.iinc 4 1, 3) := by decide +kernel
theorem dX0_loseWithReferences_57 : decode cX0_loseWithReferences 57 = .ok (.goto (-43), 3) := by decide +kernel
theorem dX0_loseWithReferences_60 : decode cX0_loseWithReferences 60 = .ok (.iload_n 3, 1) := by decide +kernel
theorem dX0_loseWithReferences_61 : decode cX0_loseWithReferences 61 = .ok (.ireturn, 1) := by decide +kernel
theorem dX0_lose_0 : decode cX0_lose 0 = .ok (.aload_n 0, 1) := by decide +kernel
theorem dX0_lose_1 : decode cX0_lose 1 = .ok (.aload_n 0, 1) := by decide +kernel
theorem dX0_lose_2 : decode cX0_lose 2 = .ok (.getfield 62, 3) := by decide +kernel
theorem dX0_lose_5 : decode cX0_lose 5 = .ok (.iload_n 1, 1) := by decide +kernel
theorem dX0_lose_6 : decode cX0_lose 6 = .ok (.iload_n 2, 1) := by decide +kernel
theorem dX0_lose_7 : decode cX0_lose 7 = .ok (.invokevirtual 77, 3) := by decide +kernel
theorem dX0_lose_10 : decode cX0_lose 10 = .ok (.iconst (-1), 1) := by decide +kernel
theorem dX0_lose_11 : decode cX0_lose 11 = .ok (.if_icmp .ne 5, 3) := by decide +kernel
theorem dX0_lose_14 : decode cX0_lose 14 = .ok (.iconst 0, 1) := by decide +kernel
theorem dX0_lose_15 : decode cX0_lose 15 = .ok (.ireturn, 1) := by decide +kernel
theorem dX0_lose_16 : decode cX0_lose 16 = .ok (.aload_n 0, 1) := by decide +kernel
theorem dX0_lose_17 : decode cX0_lose 17 = .ok (.iload_n 1, 1) := by decide +kernel
theorem dX0_lose_18 : decode cX0_lose 18 = .ok (.iload_n 2, 1) := by decide +kernel
theorem dX0_lose_19 : decode cX0_lose 19 = .ok (.iconst (-1), 1) := by decide +kernel
theorem dX0_lose_20 : decode cX0_lose 20 = .ok (.invokevirtual 155, 3) := by decide +kernel
theorem dX0_lose_23 : decode cX0_lose 23 = .ok (.iconst 1, 1) := by decide +kernel
theorem dX0_lose_24 : decode cX0_lose 24 = .ok (.ireturn, 1) := by decide +kernel
theorem dX0_startsRun_0 : decode cX0_startsRun 0 = .ok (.aload_n 0, 1) := by decide +kernel
theorem dX0_startsRun_1 : decode cX0_startsRun 1 = .ok (.iload_n 1, 1) := by decide +kernel
theorem dX0_startsRun_2 : decode cX0_startsRun 2 = .ok (.iload_n 2, 1) := by decide +kernel
theorem dX0_startsRun_3 : decode cX0_startsRun 3 = .ok (.iload_n 3, 1) := by decide +kernel
theorem dX0_startsRun_4 : decode cX0_startsRun 4 = .ok (.invokevirtual 77, 3) := by decide +kernel
theorem dX0_startsRun_7 : decode cX0_startsRun 7 = .ok (.istore 4, 2) := by decide +kernel
theorem dX0_startsRun_9 : decode cX0_startsRun 9 = .ok (.iload 4, 2) := by decide +kernel
theorem dX0_startsRun_11 : decode cX0_startsRun 11 = .ok (.iconst (-1), 1) := by decide +kernel
theorem dX0_startsRun_12 : decode cX0_startsRun 12 = .ok (.if_icmp .eq 25, 3) := by decide +kernel
theorem dX0_startsRun_15 : decode cX0_startsRun 15 = .ok (.iload_n 3, 1) := by decide +kernel
theorem dX0_startsRun_16 : decode cX0_startsRun 16 = .ok (.ifCond .eq 17, 3) := by decide +kernel
theorem dX0_startsRun_19 : decode cX0_startsRun 19 = .ok (.aload_n 0, 1) := by decide +kernel
theorem dX0_startsRun_20 : decode cX0_startsRun 20 = .ok (.iload_n 1, 1) := by decide +kernel
theorem dX0_startsRun_21 : decode cX0_startsRun 21 = .ok (.iload_n 2, 1) := by decide +kernel
theorem dX0_startsRun_22 : decode cX0_startsRun 22 = .ok (.iload_n 3, 1) := by decide +kernel
theorem dX0_startsRun_23 : decode cX0_startsRun 23 = .ok (.iconst 1, 1) := by decide +kernel
theorem dX0_startsRun_24 : decode cX0_startsRun 24 = .ok (.isub, 1) := by decide +kernel
theorem dX0_startsRun_25 : decode cX0_startsRun 25 = .ok (.invokevirtual 77, 3) := by decide +kernel
theorem dX0_startsRun_28 : decode cX0_startsRun 28 = .ok (.iload 4, 2) := by decide +kernel
theorem dX0_startsRun_30 : decode cX0_startsRun 30 = .ok (.if_icmp .eq 7, 3) := by decide +kernel
theorem dX0_startsRun_33 : decode cX0_startsRun 33 = .ok (.iconst 1, 1) := by decide +kernel
theorem dX0_startsRun_34 : decode cX0_startsRun 34 = .ok (.goto 4, 3) := by decide +kernel
theorem dX0_startsRun_37 : decode cX0_startsRun 37 = .ok (.iconst 0, 1) := by decide +kernel
theorem dX0_startsRun_38 : decode cX0_startsRun 38 = .ok (.ireturn, 1) := by decide +kernel
theorem dX0_endOfRun_0 : decode cX0_endOfRun 0 = .ok (.aload_n 0, 1) := by decide +kernel
theorem dX0_endOfRun_1 : decode cX0_endOfRun 1 = .ok (.iload_n 1, 1) := by decide +kernel
theorem dX0_endOfRun_2 : decode cX0_endOfRun 2 = .ok (.iload_n 2, 1) := by decide +kernel
theorem dX0_endOfRun_3 : decode cX0_endOfRun 3 = .ok (.iload_n 3, 1) := by decide +kernel
theorem dX0_endOfRun_4 : decode cX0_endOfRun 4 = .ok (.invokevirtual 77, 3) := by decide +kernel
theorem dX0_endOfRun_7 : decode cX0_endOfRun 7 = .ok (.istore 4, 2) := by decide +kernel
theorem dX0_endOfRun_9 : decode cX0_endOfRun 9 = .ok (.iload_n 3, 1) := by decide +kernel
theorem dX0_endOfRun_10 : decode cX0_endOfRun 10 = .ok (.iconst 1, 1) := by decide +kernel
theorem dX0_endOfRun_11 : decode cX0_endOfRun 11 = .ok (.iadd, 1) := by decide +kernel
theorem dX0_endOfRun_12 : decode cX0_endOfRun 12 = .ok (.istore 5, 2) := by decide +kernel
theorem dX0_endOfRun_14 : decode cX0_endOfRun 14 = .ok (.iload 5, 2) := by decide +kernel
theorem dX0_endOfRun_16 : decode cX0_endOfRun 16 = .ok (.bipush 60, 2) := by decide +kernel
theorem dX0_endOfRun_18 : decode cX0_endOfRun 18 = .ok (.if_icmp .ge 22, 3) := by decide +kernel
theorem dX0_endOfRun_21 : decode cX0_endOfRun 21 = .ok (.aload_n 0, 1) := by decide +kernel
theorem dX0_endOfRun_22 : decode cX0_endOfRun 22 = .ok (.iload_n 1, 1) := by decide +kernel
theorem dX0_endOfRun_23 : decode cX0_endOfRun 23 = .ok (.iload_n 2, 1) := by decide +kernel
theorem dX0_endOfRun_24 : decode cX0_endOfRun 24 = .ok (.iload 5, 2) := by decide +kernel
theorem dX0_endOfRun_26 : decode cX0_endOfRun 26 = .ok (.invokevirtual 77, 3) := by decide +kernel
theorem dX0_endOfRun_29 : decode cX0_endOfRun 29 = .ok (.iload 4, 2) := by decide +kernel
theorem dX0_endOfRun_31 : decode cX0_endOfRun 31 = .ok (.if_icmp .ne 9, 3) := by decide +kernel
theorem dX0_endOfRun_34 : decode cX0_endOfRun 34 = .ok (.iinc 5 1, 3) := by decide +kernel
theorem dX0_endOfRun_37 : decode cX0_endOfRun 37 = .ok (.goto (-23), 3) := by decide +kernel
theorem dX0_endOfRun_40 : decode cX0_endOfRun 40 = .ok (.iload 5, 2) := by decide +kernel
theorem dX0_endOfRun_42 : decode cX0_endOfRun 42 = .ok (.ireturn, 1) := by decide +kernel
theorem dX0_firstDayOfRun_0 : decode cX0_firstDayOfRun 0 = .ok (.iconst 0, 1) := by decide +kernel
theorem dX0_firstDayOfRun_1 : decode cX0_firstDayOfRun 1 = .ok (.istore 4, 2) := by decide +kernel
theorem dX0_firstDayOfRun_3 : decode cX0_firstDayOfRun 3 = .ok (.iconst 0, 1) := by decide +kernel
theorem dX0_firstDayOfRun_4 : decode cX0_firstDayOfRun 4 = .ok (.istore 5, 2) := by decide +kernel
theorem dX0_firstDayOfRun_6 : decode cX0_firstDayOfRun 6 = .ok (.iload 5, 2) := by decide +kernel
theorem dX0_firstDayOfRun_8 : decode cX0_firstDayOfRun 8 = .ok (.bipush 60, 2) := by decide +kernel
theorem dX0_firstDayOfRun_10 : decode cX0_firstDayOfRun 10 = .ok (.if_icmp .ge 32, 3) := by decide +kernel
theorem dX0_firstDayOfRun_13 : decode cX0_firstDayOfRun 13 = .ok (.aload_n 0, 1) := by decide +kernel
theorem dX0_firstDayOfRun_14 : decode cX0_firstDayOfRun 14 = .ok (.iload_n 1, 1) := by decide +kernel
theorem dX0_firstDayOfRun_15 : decode cX0_firstDayOfRun 15 = .ok (.iload_n 2, 1) := by decide +kernel
theorem dX0_firstDayOfRun_16 : decode cX0_firstDayOfRun 16 = .ok (.iload 5, 2) := by decide +kernel
theorem dX0_firstDayOfRun_18 : decode cX0_firstDayOfRun 18 = .ok (.invokevirtual 84, 3) := by decide +kernel
theorem dX0_firstDayOfRun_21 : decode cX0_firstDayOfRun 21 = .ok (.ifCond .eq 15, 3) := by decide +kernel
theorem dX0_firstDayOfRun_24 : decode cX0_firstDayOfRun 24 = .ok (.iload 4, 2) := by decide +kernel
theorem dX0_firstDayOfRun_26 : decode cX0_firstDayOfRun 26 = .ok (.iload_n 3, 1) := by decide +kernel
theorem dX0_firstDayOfRun_27 : decode cX0_firstDayOfRun 27 = .ok (.if_icmp .ne 6, 3) := by decide +kernel
theorem dX0_firstDayOfRun_30 : decode cX0_firstDayOfRun 30 = .ok (.iload 5, 2) := by decide +kernel
theorem dX0_firstDayOfRun_32 : decode cX0_firstDayOfRun 32 = .ok (.ireturn, 1) := by decide +kernel
theorem dX0_firstDayOfRun_33 : decode cX0_firstDayOfRun 33 = .ok (.iinc 4 1, 3) := by decide +kernel
theorem dX0_firstDayOfRun_36 : decode cX0_firstDayOfRun 36 = .ok (.iinc 5 1, 3) := by decide +kernel
theorem dX0_firstDayOfRun_39 : decode cX0_firstDayOfRun 39 = .ok (.goto (-33), 3) := by decide +kernel
theorem dX0_firstDayOfRun_42 : decode cX0_firstDayOfRun 42 = .ok (.iconst (-1), 1) := by decide +kernel
theorem dX0_firstDayOfRun_43 : decode cX0_firstDayOfRun 43 = .ok (.ireturn, 1) := by decide +kernel
theorem dX0_runNumber_0 : decode cX0_runNumber 0 = .ok (.sipush 10000, 3) := by decide +kernel
theorem dX0_runNumber_3 : decode cX0_runNumber 3 = .ok (.iload_n 3, 1) := by decide +kernel
theorem dX0_runNumber_4 : decode cX0_runNumber 4 = .ok (.imul, 1) := by decide +kernel
theorem dX0_runNumber_5 : decode cX0_runNumber 5 = .ok (.bipush 100, 2) := by decide +kernel
theorem dX0_runNumber_7 : decode cX0_runNumber 7 = .ok (.aload_n 0, 1) := by decide +kernel
theorem dX0_runNumber_8 : decode cX0_runNumber 8 = .ok (.iload_n 1, 1) := by decide +kernel
theorem dX0_runNumber_9 : decode cX0_runNumber 9 = .ok (.iload_n 2, 1) := by decide +kernel
theorem dX0_runNumber_10 : decode cX0_runNumber 10 = .ok (.iload_n 3, 1) := by decide +kernel
theorem dX0_runNumber_11 : decode cX0_runNumber 11 = .ok (.invokevirtual 124, 3) := by decide +kernel
theorem dX0_runNumber_14 : decode cX0_runNumber 14 = .ok (.imul, 1) := by decide +kernel
theorem dX0_runNumber_15 : decode cX0_runNumber 15 = .ok (.iadd, 1) := by decide +kernel
theorem dX0_runNumber_16 : decode cX0_runNumber 16 = .ok (.aload_n 0, 1) := by decide +kernel
theorem dX0_runNumber_17 : decode cX0_runNumber 17 = .ok (.iload_n 1, 1) := by decide +kernel
theorem dX0_runNumber_18 : decode cX0_runNumber 18 = .ok (.iload_n 2, 1) := by decide +kernel
theorem dX0_runNumber_19 : decode cX0_runNumber 19 = .ok (.iload_n 3, 1) := by decide +kernel
theorem dX0_runNumber_20 : decode cX0_runNumber 20 = .ok (.invokevirtual 77, 3) := by decide +kernel
theorem dX0_runNumber_23 : decode cX0_runNumber 23 = .ok (.iadd, 1) := by decide +kernel
theorem dX0_runNumber_24 : decode cX0_runNumber 24 = .ok (.ireturn, 1) := by decide +kernel
theorem dX0_joinedOn_0 : decode cX0_joinedOn 0 = .ok (.aload_n 0, 1) := by decide +kernel
theorem dX0_joinedOn_1 : decode cX0_joinedOn 1 = .ok (.iload_n 1, 1) := by decide +kernel
theorem dX0_joinedOn_2 : decode cX0_joinedOn 2 = .ok (.iconst 1, 1) := by decide +kernel
theorem dX0_joinedOn_3 : decode cX0_joinedOn 3 = .ok (.iload_n 2, 1) := by decide +kernel
theorem dX0_joinedOn_4 : decode cX0_joinedOn 4 = .ok (.invokestatic 34, 3) := by decide +kernel
theorem dX0_joinedOn_7 : decode cX0_joinedOn 7 = .ok (.iload_n 3, 1) := by decide +kernel
theorem dX0_joinedOn_8 : decode cX0_joinedOn 8 = .ok (.invokevirtual 77, 3) := by decide +kernel
theorem dX0_joinedOn_11 : decode cX0_joinedOn 11 = .ok (.istore 4, 2) := by decide +kernel
theorem dX0_joinedOn_13 : decode cX0_joinedOn 13 = .ok (.iload 4, 2) := by decide +kernel
theorem dX0_joinedOn_15 : decode cX0_joinedOn 15 = .ok (.iconst (-1), 1) := by decide +kernel
theorem dX0_joinedOn_16 : decode cX0_joinedOn 16 = .ok (.if_icmp .ne 7, 3) := by decide +kernel
theorem dX0_joinedOn_19 : decode cX0_joinedOn 19 = .ok (.iconst (-1), 1) := by decide +kernel
theorem dX0_joinedOn_20 : decode cX0_joinedOn 20 = .ok (.goto 15, 3) := by decide +kernel
theorem dX0_joinedOn_23 : decode cX0_joinedOn 23 = .ok (.aload_n 0, 1) := by decide +kernel
theorem dX0_joinedOn_24 : decode cX0_joinedOn 24 = .ok (.iload_n 1, 1) := by decide +kernel
theorem dX0_joinedOn_25 : decode cX0_joinedOn 25 = .ok (.iconst 0, 1) := by decide +kernel
theorem dX0_joinedOn_26 : decode cX0_joinedOn 26 = .ok (.iload 4, 2) := by decide +kernel
theorem dX0_joinedOn_28 : decode cX0_joinedOn 28 = .ok (.invokestatic 34, 3) := by decide +kernel
theorem dX0_joinedOn_31 : decode cX0_joinedOn 31 = .ok (.iload_n 3, 1) := by decide +kernel
theorem dX0_joinedOn_32 : decode cX0_joinedOn 32 = .ok (.invokevirtual 77, 3) := by decide +kernel
theorem dX0_joinedOn_35 : decode cX0_joinedOn 35 = .ok (.ireturn, 1) := by decide +kernel
theorem dX0_startsJoinedRun_0 : decode cX0_startsJoinedRun 0 = .ok (.aload_n 0, 1) := by decide +kernel
theorem dX0_startsJoinedRun_1 : decode cX0_startsJoinedRun 1 = .ok (.iload_n 1, 1) := by decide +kernel
theorem dX0_startsJoinedRun_2 : decode cX0_startsJoinedRun 2 = .ok (.iconst 1, 1) := by decide +kernel
theorem dX0_startsJoinedRun_3 : decode cX0_startsJoinedRun 3 = .ok (.iload_n 2, 1) := by decide +kernel
theorem dX0_startsJoinedRun_4 : decode cX0_startsJoinedRun 4 = .ok (.invokestatic 34, 3) := by decide +kernel
theorem dX0_startsJoinedRun_7 : decode cX0_startsJoinedRun 7 = .ok (.iload_n 3, 1) := by decide +kernel
theorem dX0_startsJoinedRun_8 : decode cX0_startsJoinedRun 8 = .ok (.invokevirtual 77, 3) := by decide +kernel
theorem dX0_startsJoinedRun_11 : decode cX0_startsJoinedRun 11 = .ok (.iconst (-1), 1) := by decide +kernel
theorem dX0_startsJoinedRun_12 : decode cX0_startsJoinedRun 12 = .ok (.if_icmp .ne 5, 3) := by decide +kernel
theorem dX0_startsJoinedRun_15 : decode cX0_startsJoinedRun 15 = .ok (.iconst 0, 1) := by decide +kernel
theorem dX0_startsJoinedRun_16 : decode cX0_startsJoinedRun 16 = .ok (.ireturn, 1) := by decide +kernel
theorem dX0_startsJoinedRun_17 : decode cX0_startsJoinedRun 17 = .ok (.aload_n 0, 1) := by decide +kernel
theorem dX0_startsJoinedRun_18 : decode cX0_startsJoinedRun 18 = .ok (.iload_n 1, 1) := by decide +kernel
theorem dX0_startsJoinedRun_19 : decode cX0_startsJoinedRun 19 = .ok (.iconst 1, 1) := by decide +kernel
theorem dX0_startsJoinedRun_20 : decode cX0_startsJoinedRun 20 = .ok (.iload_n 2, 1) := by decide +kernel
theorem dX0_startsJoinedRun_21 : decode cX0_startsJoinedRun 21 = .ok (.invokestatic 34, 3) := by decide +kernel
theorem dX0_startsJoinedRun_24 : decode cX0_startsJoinedRun 24 = .ok (.iload_n 3, 1) := by decide +kernel
theorem dX0_startsJoinedRun_25 : decode cX0_startsJoinedRun 25 = .ok (.invokevirtual 84, 3) := by decide +kernel
theorem dX0_startsJoinedRun_28 : decode cX0_startsJoinedRun 28 = .ok (.ifCond .ne 22, 3) := by decide +kernel
theorem dX0_startsJoinedRun_31 : decode cX0_startsJoinedRun 31 = .ok (.aload_n 0, 1) := by decide +kernel
theorem dX0_startsJoinedRun_32 : decode cX0_startsJoinedRun 32 = .ok (.iload_n 1, 1) := by decide +kernel
theorem dX0_startsJoinedRun_33 : decode cX0_startsJoinedRun 33 = .ok (.iload_n 2, 1) := by decide +kernel
theorem dX0_startsJoinedRun_34 : decode cX0_startsJoinedRun 34 = .ok (.iload_n 3, 1) := by decide +kernel
theorem dX0_startsJoinedRun_35 : decode cX0_startsJoinedRun 35 = .ok (.invokevirtual 81, 3) := by decide +kernel
theorem dX0_startsJoinedRun_38 : decode cX0_startsJoinedRun 38 = .ok (.aload_n 0, 1) := by decide +kernel
theorem dX0_startsJoinedRun_39 : decode cX0_startsJoinedRun 39 = .ok (.iload_n 1, 1) := by decide +kernel
theorem dX0_startsJoinedRun_40 : decode cX0_startsJoinedRun 40 = .ok (.iload_n 2, 1) := by decide +kernel
theorem dX0_startsJoinedRun_41 : decode cX0_startsJoinedRun 41 = .ok (.iload_n 3, 1) := by decide +kernel
theorem dX0_startsJoinedRun_42 : decode cX0_startsJoinedRun 42 = .ok (.iconst 1, 1) := by decide +kernel
theorem dX0_startsJoinedRun_43 : decode cX0_startsJoinedRun 43 = .ok (.isub, 1) := by decide +kernel
theorem dX0_startsJoinedRun_44 : decode cX0_startsJoinedRun 44 = .ok (.invokevirtual 81, 3) := by decide +kernel
theorem dX0_startsJoinedRun_47 : decode cX0_startsJoinedRun 47 = .ok (.if_icmp .eq 7, 3) := by decide +kernel
theorem dX0_startsJoinedRun_50 : decode cX0_startsJoinedRun 50 = .ok (.iconst 1, 1) := by decide +kernel
theorem dX0_startsJoinedRun_51 : decode cX0_startsJoinedRun 51 = .ok (.goto 4, 3) := by decide +kernel
theorem dX0_startsJoinedRun_54 : decode cX0_startsJoinedRun 54 = .ok (.iconst 0, 1) := by decide +kernel
theorem dX0_startsJoinedRun_55 : decode cX0_startsJoinedRun 55 = .ok (.ireturn, 1) := by decide +kernel
theorem dX0_recordOfStart_0 : decode cX0_recordOfStart 0 = .ok (.iload_n 0, 1) := by decide +kernel
theorem dX0_recordOfStart_1 : decode cX0_recordOfStart 1 = .ok (.bipush 60, 2) := by decide +kernel
theorem dX0_recordOfStart_3 : decode cX0_recordOfStart 3 = .ok (.idiv, 1) := by decide +kernel
theorem dX0_recordOfStart_4 : decode cX0_recordOfStart 4 = .ok (.ireturn, 1) := by decide +kernel
theorem dX0_validOfStart_0 : decode cX0_validOfStart 0 = .ok (.iload_n 0, 1) := by decide +kernel
theorem dX0_validOfStart_1 : decode cX0_validOfStart 1 = .ok (.bipush 60, 2) := by decide +kernel
theorem dX0_validOfStart_3 : decode cX0_validOfStart 3 = .ok (.irem, 1) := by decide +kernel
theorem dX0_validOfStart_4 : decode cX0_validOfStart 4 = .ok (.ireturn, 1) := by decide +kernel
theorem dX0_startOfRow_0 : decode cX0_startOfRow 0 = .ok (.iconst 0, 1) := by decide +kernel
theorem dX0_startOfRow_1 : decode cX0_startOfRow 1 = .ok (.istore_n 3, 1) := by decide +kernel
theorem dX0_startOfRow_2 : decode cX0_startOfRow 2 = .ok (.iconst 0, 1) := by decide +kernel
theorem dX0_startOfRow_3 : decode cX0_startOfRow 3 = .ok (.istore 4, 2) := by decide +kernel
theorem dX0_startOfRow_5 : decode cX0_startOfRow 5 = .ok (.iload 4, 2) := by decide +kernel
theorem dX0_startOfRow_7 : decode cX0_startOfRow 7 = .ok (.aload_n 0, 1) := by decide +kernel
theorem dX0_startOfRow_8 : decode cX0_startOfRow 8 = .ok (.getfield 62, 3) := by decide +kernel
theorem dX0_startOfRow_11 : decode cX0_startOfRow 11 = .ok (.if_icmp .gt 63, 3) := by decide +kernel
theorem dX0_startOfRow_14 : decode cX0_startOfRow 14 = .ok (.iconst 0, 1) := by decide +kernel
theorem dX0_startOfRow_15 : decode cX0_startOfRow 15 = .ok (.istore 5, 2) := by decide +kernel
theorem dX0_startOfRow_17 : decode cX0_startOfRow 17 = .ok (.iload 5, 2) := by decide +kernel
theorem dX0_startOfRow_19 : decode cX0_startOfRow 19 = .ok (.bipush 60, 2) := by decide +kernel
theorem dX0_startOfRow_21 : decode cX0_startOfRow 21 = .ok (.if_icmp .ge 47, 3) := by decide +kernel
theorem dX0_startOfRow_24 : decode cX0_startOfRow 24 = .ok (.aload_n 0, 1) := by decide +kernel
theorem dX0_startOfRow_25 : decode cX0_startOfRow 25 = .ok (.iload 4, 2) := by decide +kernel
theorem dX0_startOfRow_27 : decode cX0_startOfRow 27 = .ok (.invokevirtual 102, 3) := by decide +kernel
theorem dX0_startOfRow_30 : decode cX0_startOfRow 30 = .ok (.ifCond .eq 38, 3) := by decide +kernel
theorem dX0_startOfRow_33 : decode cX0_startOfRow 33 = .ok (.aload_n 0, 1) := by decide +kernel
theorem dX0_startOfRow_34 : decode cX0_startOfRow 34 = .ok (.iload 4, 2) := by decide +kernel
theorem dX0_startOfRow_36 : decode cX0_startOfRow 36 = .ok (.iload_n 1, 1) := by decide +kernel
theorem dX0_startOfRow_37 : decode cX0_startOfRow 37 = .ok (.iload 5, 2) := by decide +kernel
theorem dX0_startOfRow_39 : decode cX0_startOfRow 39 = .ok (.invokevirtual 106, 3) := by decide +kernel
theorem dX0_startOfRow_42 : decode cX0_startOfRow 42 = .ok (.ifCond .eq 20, 3) := by decide +kernel
theorem dX0_startOfRow_45 : decode cX0_startOfRow 45 = .ok (.iload_n 3, 1) := by decide +kernel
theorem dX0_startOfRow_46 : decode cX0_startOfRow 46 = .ok (.iload_n 2, 1) := by decide +kernel
theorem dX0_startOfRow_47 : decode cX0_startOfRow 47 = .ok (.if_icmp .ne 12, 3) := by decide +kernel
theorem dX0_startOfRow_50 : decode cX0_startOfRow 50 = .ok (.iload 4, 2) := by decide +kernel
theorem dX0_startOfRow_52 : decode cX0_startOfRow 52 = .ok (.bipush 60, 2) := by decide +kernel
theorem dX0_startOfRow_54 : decode cX0_startOfRow 54 = .ok (.imul, 1) := by decide +kernel
theorem dX0_startOfRow_55 : decode cX0_startOfRow 55 = .ok (.iload 5, 2) := by decide +kernel
theorem dX0_startOfRow_57 : decode cX0_startOfRow 57 = .ok (.iadd, 1) := by decide +kernel
theorem dX0_startOfRow_58 : decode cX0_startOfRow 58 = .ok (.ireturn, 1) := by decide +kernel
theorem dX0_startOfRow_59 : decode cX0_startOfRow 59 = .ok (.iinc 3 1, 3) := by decide +kernel
theorem dX0_startOfRow_62 : decode cX0_startOfRow 62 = .ok (.iinc 5 1, 3) := by decide +kernel
theorem dX0_startOfRow_65 : decode cX0_startOfRow 65 = .ok (.goto (-48), 3) := by decide +kernel
theorem dX0_startOfRow_68 : decode cX0_startOfRow 68 = .ok (.iinc 4 1, 3) := by decide +kernel
theorem dX0_startOfRow_71 : decode cX0_startOfRow 71 = .ok (.goto (-66), 3) := by decide +kernel
theorem dX0_startOfRow_74 : decode cX0_startOfRow 74 = .ok (.new 91, 3) := by decide +kernel
theorem dX0_startOfRow_77 : decode cX0_startOfRow 77 = .ok (.dup, 1) := by decide +kernel
theorem dX0_startOfRow_78 : decode cX0_startOfRow 78 = .ok (.ldc 165, 2) := by decide +kernel
theorem dX0_startOfRow_80 : decode cX0_startOfRow 80 = .ok (.invokespecial 95, 3) := by decide +kernel
theorem dX0_startOfRow_83 : decode cX0_startOfRow 83 = .ok (.athrow, 1) := by decide +kernel
theorem dX0_isKept_0 : decode cX0_isKept 0 = .ok (.iload_n 1, 1) := by decide +kernel
theorem dX0_isKept_1 : decode cX0_isKept 1 = .ok (.ifCond .lt 23, 3) := by decide +kernel
theorem dX0_isKept_4 : decode cX0_isKept 4 = .ok (.iload_n 1, 1) := by decide +kernel
theorem dX0_isKept_5 : decode cX0_isKept 5 = .ok (.bipush 60, 2) := by decide +kernel
theorem dX0_isKept_7 : decode cX0_isKept 7 = .ok (.if_icmp .ge 17, 3) := by decide +kernel
theorem dX0_isKept_10 : decode cX0_isKept 10 = .ok (.aload_n 0, 1) := by decide +kernel
theorem dX0_isKept_11 : decode cX0_isKept 11 = .ok (.getfield 14, 3) := by decide +kernel
theorem dX0_isKept_14 : decode cX0_isKept 14 = .ok (.iload_n 1, 1) := by decide +kernel
theorem dX0_isKept_15 : decode cX0_isKept 15 = .ok (.iaload, 1) := by decide +kernel
theorem dX0_isKept_16 : decode cX0_isKept 16 = .ok (.iload_n 1, 1) := by decide +kernel
theorem dX0_isKept_17 : decode cX0_isKept 17 = .ok (.if_icmp .ne 7, 3) := by decide +kernel
theorem dX0_isKept_20 : decode cX0_isKept 20 = .ok (.iconst 1, 1) := by decide +kernel
theorem dX0_isKept_21 : decode cX0_isKept 21 = .ok (.goto 4, 3) := by decide +kernel
theorem dX0_isKept_24 : decode cX0_isKept 24 = .ok (.iconst 0, 1) := by decide +kernel
theorem dX0_isKept_25 : decode cX0_isKept 25 = .ok (.ireturn, 1) := by decide +kernel
theorem dX0_startsRow_0 : decode cX0_startsRow 0 = .ok (.aload_n 0, 1) := by decide +kernel
theorem dX0_startsRow_1 : decode cX0_startsRow 1 = .ok (.iload_n 1, 1) := by decide +kernel
theorem dX0_startsRow_2 : decode cX0_startsRow 2 = .ok (.iload_n 2, 1) := by decide +kernel
theorem dX0_startsRow_3 : decode cX0_startsRow 3 = .ok (.iload_n 3, 1) := by decide +kernel
theorem dX0_startsRow_4 : decode cX0_startsRow 4 = .ok (.invokevirtual 84, 3) := by decide +kernel
theorem dX0_startsRow_7 : decode cX0_startsRow 7 = .ok (.ifCond .eq 24, 3) := by decide +kernel
theorem dX0_startsRow_10 : decode cX0_startsRow 10 = .ok (.iload_n 1, 1) := by decide +kernel
theorem dX0_startsRow_11 : decode cX0_startsRow 11 = .ok (.ifCond .eq 16, 3) := by decide +kernel
theorem dX0_startsRow_14 : decode cX0_startsRow 14 = .ok (.aload_n 0, 1) := by decide +kernel
theorem dX0_startsRow_15 : decode cX0_startsRow 15 = .ok (.iload_n 1, 1) := by decide +kernel
theorem dX0_startsRow_16 : decode cX0_startsRow 16 = .ok (.iload_n 1, 1) := by decide +kernel
theorem dX0_startsRow_17 : decode cX0_startsRow 17 = .ok (.iconst 1, 1) := by decide +kernel
theorem dX0_startsRow_18 : decode cX0_startsRow 18 = .ok (.isub, 1) := by decide +kernel
theorem dX0_startsRow_19 : decode cX0_startsRow 19 = .ok (.iload_n 2, 1) := by decide +kernel
theorem dX0_startsRow_20 : decode cX0_startsRow 20 = .ok (.iload_n 3, 1) := by decide +kernel
theorem dX0_startsRow_21 : decode cX0_startsRow 21 = .ok (.invokevirtual 118, 3) := by decide +kernel
theorem dX0_startsRow_24 : decode cX0_startsRow 24 = .ok (.ifCond .ne 7, 3) := by decide +kernel
theorem dX0_startsRow_27 : decode cX0_startsRow 27 = .ok (.iconst 1, 1) := by decide +kernel
theorem dX0_startsRow_28 : decode cX0_startsRow 28 = .ok (.goto 4, 3) := by decide +kernel
theorem dX0_startsRow_31 : decode cX0_startsRow 31 = .ok (.iconst 0, 1) := by decide +kernel
theorem dX0_startsRow_32 : decode cX0_startsRow 32 = .ok (.ireturn, 1) := by decide +kernel
theorem dX0_sameRun_0 : decode cX0_sameRun 0 = .ok (.aload_n 0, 1) := by decide +kernel
theorem dX0_sameRun_1 : decode cX0_sameRun 1 = .ok (.iload_n 2, 1) := by decide +kernel
theorem dX0_sameRun_2 : decode cX0_sameRun 2 = .ok (.iload_n 3, 1) := by decide +kernel
theorem dX0_sameRun_3 : decode cX0_sameRun 3 = .ok (.iload 4, 2) := by decide +kernel
theorem dX0_sameRun_5 : decode cX0_sameRun 5 = .ok (.invokevirtual 84, 3) := by decide +kernel
theorem dX0_sameRun_8 : decode cX0_sameRun 8 = .ok (.ifCond .eq 45, 3) := by decide +kernel
theorem dX0_sameRun_11 : decode cX0_sameRun 11 = .ok (.aload_n 0, 1) := by decide +kernel
theorem dX0_sameRun_12 : decode cX0_sameRun 12 = .ok (.iload_n 2, 1) := by decide +kernel
theorem dX0_sameRun_13 : decode cX0_sameRun 13 = .ok (.iload_n 3, 1) := by decide +kernel
theorem dX0_sameRun_14 : decode cX0_sameRun 14 = .ok (.iload 4, 2) := by decide +kernel
theorem dX0_sameRun_16 : decode cX0_sameRun 16 = .ok (.invokevirtual 77, 3) := by decide +kernel
theorem dX0_sameRun_19 : decode cX0_sameRun 19 = .ok (.aload_n 0, 1) := by decide +kernel
theorem dX0_sameRun_20 : decode cX0_sameRun 20 = .ok (.iload_n 1, 1) := by decide +kernel
theorem dX0_sameRun_21 : decode cX0_sameRun 21 = .ok (.iload_n 3, 1) := by decide +kernel
theorem dX0_sameRun_22 : decode cX0_sameRun 22 = .ok (.iload 4, 2) := by decide +kernel
theorem dX0_sameRun_24 : decode cX0_sameRun 24 = .ok (.invokevirtual 77, 3) := by decide +kernel
theorem dX0_sameRun_27 : decode cX0_sameRun 27 = .ok (.if_icmp .ne 26, 3) := by decide +kernel
theorem dX0_sameRun_30 : decode cX0_sameRun 30 = .ok (.aload_n 0, 1) := by decide +kernel
theorem dX0_sameRun_31 : decode cX0_sameRun 31 = .ok (.iload_n 2, 1) := by decide +kernel
theorem dX0_sameRun_32 : decode cX0_sameRun 32 = .ok (.iload_n 3, 1) := by decide +kernel
theorem dX0_sameRun_33 : decode cX0_sameRun 33 = .ok (.iload 4, 2) := by decide +kernel
theorem dX0_sameRun_35 : decode cX0_sameRun 35 = .ok (.invokevirtual 124, 3) := by decide +kernel
theorem dX0_sameRun_38 : decode cX0_sameRun 38 = .ok (.aload_n 0, 1) := by decide +kernel
theorem dX0_sameRun_39 : decode cX0_sameRun 39 = .ok (.iload_n 1, 1) := by decide +kernel
theorem dX0_sameRun_40 : decode cX0_sameRun 40 = .ok (.iload_n 3, 1) := by decide +kernel
theorem dX0_sameRun_41 : decode cX0_sameRun 41 = .ok (.iload 4, 2) := by decide +kernel
theorem dX0_sameRun_43 : decode cX0_sameRun 43 = .ok (.invokevirtual 124, 3) := by decide +kernel
theorem dX0_sameRun_46 : decode cX0_sameRun 46 = .ok (.if_icmp .ne 7, 3) := by decide +kernel
theorem dX0_sameRun_49 : decode cX0_sameRun 49 = .ok (.iconst 1, 1) := by decide +kernel
theorem dX0_sameRun_50 : decode cX0_sameRun 50 = .ok (.goto 4, 3) := by decide +kernel
theorem dX0_sameRun_53 : decode cX0_sameRun 53 = .ok (.iconst 0, 1) := by decide +kernel
theorem dX0_sameRun_54 : decode cX0_sameRun 54 = .ok (.ireturn, 1) := by decide +kernel
theorem dJ9_max_7cf53_0 : decode cJ9_max_7cf53 0 = .ok (.iload_n 0, 1) := by decide +kernel
theorem dJ9_max_7cf53_1 : decode cJ9_max_7cf53 1 = .ok (.iload_n 1, 1) := by decide +kernel
theorem dJ9_max_7cf53_2 : decode cJ9_max_7cf53 2 = .ok (.if_icmp .lt 7, 3) := by decide +kernel
theorem dJ9_max_7cf53_5 : decode cJ9_max_7cf53 5 = .ok (.iload_n 0, 1) := by decide +kernel
theorem dJ9_max_7cf53_6 : decode cJ9_max_7cf53 6 = .ok (.goto 4, 3) := by decide +kernel
theorem dJ9_max_7cf53_9 : decode cJ9_max_7cf53 9 = .ok (.iload_n 1, 1) := by decide +kernel
theorem dJ9_max_7cf53_10 : decode cJ9_max_7cf53 10 = .ok (.ireturn, 1) := by decide +kernel
theorem dL_cell_0 : decode cL_cell 0 = .ok (.iload_n 1, 1) := by decide +kernel
theorem dL_cell_1 : decode cL_cell 1 = .ok (.aload_n 0, 1) := by decide +kernel
theorem dL_cell_2 : decode cL_cell 2 = .ok (.arraylength, 1) := by decide +kernel
theorem dL_cell_3 : decode cL_cell 3 = .ok (.if_icmp .ge 9, 3) := by decide +kernel
theorem dL_cell_6 : decode cL_cell 6 = .ok (.aload_n 0, 1) := by decide +kernel
theorem dL_cell_7 : decode cL_cell 7 = .ok (.iload_n 1, 1) := by decide +kernel
theorem dL_cell_8 : decode cL_cell 8 = .ok (.iaload, 1) := by decide +kernel
theorem dL_cell_9 : decode cL_cell 9 = .ok (.goto 18, 3) := by decide +kernel
theorem dL_cell_12 : decode cL_cell 12 = .ok (.sipush 7919, 3) := by decide +kernel
theorem dL_cell_15 : decode cL_cell 15 = .ok (.iload_n 1, 1) := by decide +kernel
theorem dL_cell_16 : decode cL_cell 16 = .ok (.sipush 359, 3) := by decide +kernel
theorem dL_cell_19 : decode cL_cell 19 = .ok (.iadd, 1) := by decide +kernel
theorem dL_cell_20 : decode cL_cell 20 = .ok (.imul, 1) := by decide +kernel
theorem dL_cell_21 : decode cL_cell 21 = .ok (.iload_n 1, 1) := by decide +kernel
theorem dL_cell_22 : decode cL_cell 22 = .ok (.sipush 2657, 3) := by decide +kernel
theorem dL_cell_25 : decode cL_cell 25 = .ok (.iadd, 1) := by decide +kernel
theorem dL_cell_26 : decode cL_cell 26 = .ok (.imul, 1) := by decide +kernel
theorem dL_cell_27 : decode cL_cell 27 = .ok (.ireturn, 1) := by decide +kernel
theorem dL_low_0 : decode cL_low 0 = .ok (.iload_n 0, 1) := by decide +kernel
theorem dL_low_1 : decode cL_low 1 = .ok (.ldc 7, 2) := by decide +kernel
theorem dL_low_3 : decode cL_low 3 = .ok (.iand, 1) := by decide +kernel
theorem dL_low_4 : decode cL_low 4 = .ok (.iload_n 1, 1) := by decide +kernel
theorem dL_low_5 : decode cL_low 5 = .ok (.irem, 1) := by decide +kernel
theorem dL_low_6 : decode cL_low 6 = .ok (.ireturn, 1) := by decide +kernel
theorem dL_does_0 : decode cL_does 0 = .ok (.iload_n 1, 1) := by decide +kernel
theorem dL_does_1 : decode cL_does 1 = .ok (.ifCond .ne 18, 3) := by decide +kernel
theorem dL_does_4 : decode cL_does 4 = .ok (.aload_n 0, 1) := by decide +kernel
theorem dL_does_5 : decode cL_does 5 = .ok (.iload_n 2, 1) := by decide +kernel
theorem dL_does_6 : decode cL_does 6 = .ok (.iload_n 3, 1) := by decide +kernel
theorem dL_does_7 : decode cL_does 7 = .ok (.iload 4, 2) := by decide +kernel
theorem dL_does_9 : decode cL_does 9 = .ok (.iload 5, 2) := by decide +kernel
theorem dL_does_11 : decode cL_does 11 = .ok (.iload 6, 2) := by decide +kernel
theorem dL_does_13 : decode cL_does 13 = .ok (.invokevirtual 8, 3) := by decide +kernel
theorem dL_does_16 : decode cL_does 16 = .ok (.goto 60, 3) := by decide +kernel
theorem dL_does_19 : decode cL_does 19 = .ok (.iload_n 1, 1) := by decide +kernel
theorem dL_does_20 : decode cL_does 20 = .ok (.iconst 1, 1) := by decide +kernel
theorem dL_does_21 : decode cL_does 21 = .ok (.if_icmp .ne 16, 3) := by decide +kernel
theorem dL_does_24 : decode cL_does 24 = .ok (.aload_n 0, 1) := by decide +kernel
theorem dL_does_25 : decode cL_does 25 = .ok (.iload_n 2, 1) := by decide +kernel
theorem dL_does_26 : decode cL_does 26 = .ok (.iload_n 3, 1) := by decide +kernel
theorem dL_does_27 : decode cL_does 27 = .ok (.iload 5, 2) := by decide +kernel
theorem dL_does_29 : decode cL_does 29 = .ok (.iload 6, 2) := by decide +kernel
theorem dL_does_31 : decode cL_does 31 = .ok (.invokevirtual 14, 3) := by decide +kernel
theorem dL_does_34 : decode cL_does 34 = .ok (.goto 42, 3) := by decide +kernel
theorem dL_does_37 : decode cL_does 37 = .ok (.iload_n 1, 1) := by decide +kernel
theorem dL_does_38 : decode cL_does 38 = .ok (.iconst 2, 1) := by decide +kernel
theorem dL_does_39 : decode cL_does 39 = .ok (.if_icmp .ne 15, 3) := by decide +kernel
theorem dL_does_42 : decode cL_does 42 = .ok (.aload_n 0, 1) := by decide +kernel
theorem dL_does_43 : decode cL_does 43 = .ok (.iload_n 3, 1) := by decide +kernel
theorem dL_does_44 : decode cL_does 44 = .ok (.iload 5, 2) := by decide +kernel
theorem dL_does_46 : decode cL_does 46 = .ok (.iload 6, 2) := by decide +kernel
theorem dL_does_48 : decode cL_does 48 = .ok (.invokevirtual 18, 3) := by decide +kernel
theorem dL_does_51 : decode cL_does 51 = .ok (.goto 25, 3) := by decide +kernel
theorem dL_does_54 : decode cL_does 54 = .ok (.iload_n 1, 1) := by decide +kernel
theorem dL_does_55 : decode cL_does 55 = .ok (.iconst 3, 1) := by decide +kernel
theorem dL_does_56 : decode cL_does 56 = .ok (.if_icmp .ne 14, 3) := by decide +kernel
theorem dL_does_59 : decode cL_does 59 = .ok (.aload_n 0, 1) := by decide +kernel
theorem dL_does_60 : decode cL_does 60 = .ok (.iload_n 2, 1) := by decide +kernel
theorem dL_does_61 : decode cL_does 61 = .ok (.iload_n 3, 1) := by decide +kernel
theorem dL_does_62 : decode cL_does 62 = .ok (.iload 5, 2) := by decide +kernel
theorem dL_does_64 : decode cL_does 64 = .ok (.invokevirtual 22, 3) := by decide +kernel
theorem dL_does_67 : decode cL_does 67 = .ok (.goto 9, 3) := by decide +kernel
theorem dL_does_70 : decode cL_does 70 = .ok (.aload_n 0, 1) := by decide +kernel
theorem dL_does_71 : decode cL_does 71 = .ok (.iload 4, 2) := by decide +kernel
theorem dL_does_73 : decode cL_does 73 = .ok (.invokevirtual 25, 3) := by decide +kernel
theorem dL_does_76 : decode cL_does 76 = .ok (.ireturn, 1) := by decide +kernel
theorem dL_does_77 : decode cL_does 77 = .ok (.astore 7, 2) := by decide +kernel
theorem dL_does_79 : decode cL_does 79 = .ok (.ldc 31, 2) := by decide +kernel
theorem dL_does_81 : decode cL_does 81 = .ok (.ireturn, 1) := by decide +kernel
theorem dL_does_82 : decode cL_does 82 = .ok (.astore 7, 2) := by decide +kernel
theorem dL_does_84 : decode cL_does 84 = .ok (.ldc 31, 2) := by decide +kernel
theorem dL_does_86 : decode cL_does 86 = .ok (.ireturn, 1) := by decide +kernel
theorem dL_does_87 : decode cL_does 87 = .ok (.astore 7, 2) := by decide +kernel
theorem dL_does_89 : decode cL_does 89 = .ok (.ldc 31, 2) := by decide +kernel
theorem dL_does_91 : decode cL_does 91 = .ok (.ireturn, 1) := by decide +kernel
theorem dL_rowRun_0 : decode cL_rowRun 0 = .ok (.aload_n 0, 1) := by decide +kernel
theorem dL_rowRun_1 : decode cL_rowRun 1 = .ok (.iload_n 1, 1) := by decide +kernel
theorem dL_rowRun_2 : decode cL_rowRun 2 = .ok (.iload_n 2, 1) := by decide +kernel
theorem dL_rowRun_3 : decode cL_rowRun 3 = .ok (.iload_n 3, 1) := by decide +kernel
theorem dL_rowRun_4 : decode cL_rowRun 4 = .ok (.invokevirtual 36, 3) := by decide +kernel
theorem dL_rowRun_7 : decode cL_rowRun 7 = .ok (.ireturn, 1) := by decide +kernel
theorem dL_rowRun_8 : decode cL_rowRun 8 = .ok (.astore 4, 2) := by decide +kernel
theorem dL_rowRun_10 : decode cL_rowRun 10 = .ok (.ldc 31, 2) := by decide +kernel
theorem dL_rowRun_12 : decode cL_rowRun 12 = .ok (.ireturn, 1) := by decide +kernel
theorem dL_average_0 : decode cL_average 0 = .ok (.aload_n 0, 1) := by decide +kernel
theorem dL_average_1 : decode cL_average 1 = .ok (.iload_n 1, 1) := by decide +kernel
theorem dL_average_2 : decode cL_average 2 = .ok (.iload_n 2, 1) := by decide +kernel
theorem dL_average_3 : decode cL_average 3 = .ok (.invokevirtual 39, 3) := by decide +kernel
theorem dL_average_6 : decode cL_average 6 = .ok (.freturn, 1) := by decide +kernel
theorem dL_average_7 : decode cL_average 7 = .ok (.astore_n 3, 1) := by decide +kernel
theorem dL_average_8 : decode cL_average 8 = .ok (.ldc 43, 2) := by decide +kernel
theorem dL_average_10 : decode cL_average 10 = .ok (.freturn, 1) := by decide +kernel
theorem dL_act_0 : decode cL_act 0 = .ok (.iload_n 1, 1) := by decide +kernel
theorem dL_act_1 : decode cL_act 1 = .ok (.bipush 24, 2) := by decide +kernel
theorem dL_act_3 : decode cL_act 3 = .ok (.ishr, 1) := by decide +kernel
theorem dL_act_4 : decode cL_act 4 = .ok (.bipush 8, 2) := by decide +kernel
theorem dL_act_6 : decode cL_act 6 = .ok (.invokestatic 44, 3) := by decide +kernel
theorem dL_act_9 : decode cL_act 9 = .ok (.ifCond .ne 7, 3) := by decide +kernel
theorem dL_act_12 : decode cL_act 12 = .ok (.iconst 1, 1) := by decide +kernel
theorem dL_act_13 : decode cL_act 13 = .ok (.goto 4, 3) := by decide +kernel
theorem dL_act_16 : decode cL_act 16 = .ok (.iconst 0, 1) := by decide +kernel
theorem dL_act_17 : decode cL_act 17 = .ok (.istore_n 2, 1) := by decide +kernel
theorem dL_act_18 : decode cL_act 18 = .ok (.iload_n 1, 1) := by decide +kernel
theorem dL_act_19 : decode cL_act 19 = .ok (.bipush 20, 2) := by decide +kernel
theorem dL_act_21 : decode cL_act 21 = .ok (.invokestatic 44, 3) := by decide +kernel
theorem dL_act_24 : decode cL_act 24 = .ok (.istore_n 3, 1) := by decide +kernel
theorem dL_act_25 : decode cL_act 25 = .ok (.iload_n 2, 1) := by decide +kernel
theorem dL_act_26 : decode cL_act 26 = .ok (.ifCond .eq 15, 3) := by decide +kernel
theorem dL_act_29 : decode cL_act 29 = .ok (.iload_n 1, 1) := by decide +kernel
theorem dL_act_30 : decode cL_act 30 = .ok (.iconst 4, 1) := by decide +kernel
theorem dL_act_31 : decode cL_act 31 = .ok (.ishr, 1) := by decide +kernel
theorem dL_act_32 : decode cL_act 32 = .ok (.iconst 4, 1) := by decide +kernel
theorem dL_act_33 : decode cL_act 33 = .ok (.invokestatic 44, 3) := by decide +kernel
theorem dL_act_36 : decode cL_act 36 = .ok (.iconst 1, 1) := by decide +kernel
theorem dL_act_37 : decode cL_act 37 = .ok (.isub, 1) := by decide +kernel
theorem dL_act_38 : decode cL_act 38 = .ok (.goto 8, 3) := by decide +kernel
theorem dL_act_41 : decode cL_act 41 = .ok (.iload_n 1, 1) := by decide +kernel
theorem dL_act_42 : decode cL_act 42 = .ok (.iconst 4, 1) := by decide +kernel
theorem dL_act_43 : decode cL_act 43 = .ok (.ishr, 1) := by decide +kernel
theorem dL_act_44 : decode cL_act 44 = .ok (.iconst 1, 1) := by decide +kernel
theorem dL_act_45 : decode cL_act 45 = .ok (.iand, 1) := by decide +kernel
theorem dL_act_46 : decode cL_act 46 = .ok (.istore 4, 2) := by decide +kernel
theorem dL_act_48 : decode cL_act 48 = .ok (.iload_n 1, 1) := by decide +kernel
theorem dL_act_49 : decode cL_act 49 = .ok (.iconst 5, 1) := by decide +kernel
theorem dL_act_50 : decode cL_act 50 = .ok (.ishr, 1) := by decide +kernel
theorem dL_act_51 : decode cL_act 51 = .ok (.iload_n 2, 1) := by decide +kernel
theorem dL_act_52 : decode cL_act 52 = .ok (.ifCond .eq 8, 3) := by decide +kernel
theorem dL_act_55 : decode cL_act 55 = .ok (.bipush 11, 2) := by decide +kernel
theorem dL_act_57 : decode cL_act 57 = .ok (.goto 4, 3) := by decide +kernel
theorem dL_act_60 : decode cL_act 60 = .ok (.iconst 4, 1) := by decide +kernel
theorem dL_act_61 : decode cL_act 61 = .ok (.invokestatic 44, 3) := by decide +kernel
theorem dL_act_64 : decode cL_act 64 = .ok (.istore 5, 2) := by decide +kernel
theorem dL_act_66 : decode cL_act 66 = .ok (.iload_n 2, 1) := by decide +kernel
theorem dL_act_67 : decode cL_act 67 = .ok (.ifCond .eq 16, 3) := by decide +kernel
theorem dL_act_70 : decode cL_act 70 = .ok (.iload_n 1, 1) := by decide +kernel
theorem dL_act_71 : decode cL_act 71 = .ok (.iconst 3, 1) := by decide +kernel
theorem dL_act_72 : decode cL_act 72 = .ok (.ishr, 1) := by decide +kernel
theorem dL_act_73 : decode cL_act 73 = .ok (.bipush 64, 2) := by decide +kernel
theorem dL_act_75 : decode cL_act 75 = .ok (.invokestatic 44, 3) := by decide +kernel
theorem dL_act_78 : decode cL_act 78 = .ok (.iconst 2, 1) := by decide +kernel
theorem dL_act_79 : decode cL_act 79 = .ok (.isub, 1) := by decide +kernel
theorem dL_act_80 : decode cL_act 80 = .ok (.goto 11, 3) := by decide +kernel
theorem dL_act_83 : decode cL_act 83 = .ok (.iload_n 1, 1) := by decide +kernel
theorem dL_act_84 : decode cL_act 84 = .ok (.iconst 3, 1) := by decide +kernel
theorem dL_act_85 : decode cL_act 85 = .ok (.ishr, 1) := by decide +kernel
theorem dL_act_86 : decode cL_act 86 = .ok (.bipush 60, 2) := by decide +kernel
theorem dL_act_88 : decode cL_act 88 = .ok (.invokestatic 44, 3) := by decide +kernel
theorem dL_act_91 : decode cL_act 91 = .ok (.istore 6, 2) := by decide +kernel
theorem dL_act_93 : decode cL_act 93 = .ok (.iload_n 2, 1) := by decide +kernel
theorem dL_act_94 : decode cL_act 94 = .ok (.ifCond .eq 15, 3) := by decide +kernel
theorem dL_act_97 : decode cL_act 97 = .ok (.iload_n 1, 1) := by decide +kernel
theorem dL_act_98 : decode cL_act 98 = .ok (.bipush 8, 2) := by decide +kernel
theorem dL_act_100 : decode cL_act 100 = .ok (.ishr, 1) := by decide +kernel
theorem dL_act_101 : decode cL_act 101 = .ok (.bipush 66, 2) := by decide +kernel
theorem dL_act_103 : decode cL_act 103 = .ok (.invokestatic 44, 3) := by decide +kernel
theorem dL_act_106 : decode cL_act 106 = .ok (.goto 52, 3) := by decide +kernel
theorem dL_act_109 : decode cL_act 109 = .ok (.iload 6, 2) := by decide +kernel
theorem dL_act_111 : decode cL_act 111 = .ok (.iconst 1, 1) := by decide +kernel
theorem dL_act_112 : decode cL_act 112 = .ok (.iadd, 1) := by decide +kernel
theorem dL_act_113 : decode cL_act 113 = .ok (.iload_n 1, 1) := by decide +kernel
theorem dL_act_114 : decode cL_act 114 = .ok (.bipush 8, 2) := by decide +kernel
theorem dL_act_116 : decode cL_act 116 = .ok (.ishr, 1) := by decide +kernel
theorem dL_act_117 : decode cL_act 117 = .ok (.iload_n 1, 1) := by decide +kernel
theorem dL_act_118 : decode cL_act 118 = .ok (.bipush 15, 2) := by decide +kernel
theorem dL_act_120 : decode cL_act 120 = .ok (.ishr, 1) := by decide +kernel
theorem dL_act_121 : decode cL_act 121 = .ok (.iconst 1, 1) := by decide +kernel
theorem dL_act_122 : decode cL_act 122 = .ok (.iand, 1) := by decide +kernel
theorem dL_act_123 : decode cL_act 123 = .ok (.ifCond .ne 11, 3) := by decide +kernel
theorem dL_act_126 : decode cL_act 126 = .ok (.bipush 60, 2) := by decide +kernel
theorem dL_act_128 : decode cL_act 128 = .ok (.iload 6, 2) := by decide +kernel
theorem dL_act_130 : decode cL_act 130 = .ok (.isub, 1) := by decide +kernel
theorem dL_act_131 : decode cL_act 131 = .ok (.goto 23, 3) := by decide +kernel
theorem dL_act_134 : decode cL_act 134 = .ok (.bipush 60, 2) := by decide +kernel
theorem dL_act_136 : decode cL_act 136 = .ok (.iload 6, 2) := by decide +kernel
theorem dL_act_138 : decode cL_act 138 = .ok (.isub, 1) := by decide +kernel
theorem dL_act_139 : decode cL_act 139 = .ok (.bipush 12, 2) := by decide +kernel
theorem dL_act_141 : decode cL_act 141 = .ok (.if_icmp .ge 11, 3) := by decide +kernel
theorem dL_act_144 : decode cL_act 144 = .ok (.bipush 60, 2) := by decide +kernel
theorem dL_act_146 : decode cL_act 146 = .ok (.iload 6, 2) := by decide +kernel
theorem dL_act_148 : decode cL_act 148 = .ok (.isub, 1) := by decide +kernel
theorem dL_act_149 : decode cL_act 149 = .ok (.goto 5, 3) := by decide +kernel
theorem dL_act_152 : decode cL_act 152 = .ok (.bipush 12, 2) := by decide +kernel
theorem dL_act_154 : decode cL_act 154 = .ok (.invokestatic 44, 3) := by decide +kernel
theorem dL_act_157 : decode cL_act 157 = .ok (.iadd, 1) := by decide +kernel
theorem dL_act_158 : decode cL_act 158 = .ok (.istore 7, 2) := by decide +kernel
theorem dL_act_160 : decode cL_act 160 = .ok (.iload_n 3, 1) := by decide +kernel
theorem dL_act_161 : decode cL_act 161 = .ok (.bipush 9, 2) := by decide +kernel
theorem dL_act_163 : decode cL_act 163 = .ok (.if_icmp .ge 44, 3) := by decide +kernel
theorem dL_act_166 : decode cL_act 166 = .ok (.aload_n 0, 1) := by decide +kernel
theorem dL_act_167 : decode cL_act 167 = .ok (.iconst 0, 1) := by decide +kernel
theorem dL_act_168 : decode cL_act 168 = .ok (.iload 4, 2) := by decide +kernel
theorem dL_act_170 : decode cL_act 170 = .ok (.iload 5, 2) := by decide +kernel
theorem dL_act_172 : decode cL_act 172 = .ok (.iload_n 1, 1) := by decide +kernel
theorem dL_act_173 : decode cL_act 173 = .ok (.bipush 10, 2) := by decide +kernel
theorem dL_act_175 : decode cL_act 175 = .ok (.ishr, 1) := by decide +kernel
theorem dL_act_176 : decode cL_act 176 = .ok (.iload_n 2, 1) := by decide +kernel
theorem dL_act_177 : decode cL_act 177 = .ok (.ifCond .eq 8, 3) := by decide +kernel
theorem dL_act_180 : decode cL_act 180 = .ok (.bipush 110, 2) := by decide +kernel
theorem dL_act_182 : decode cL_act 182 = .ok (.goto 14, 3) := by decide +kernel
theorem dL_act_185 : decode cL_act 185 = .ok (.iload 4, 2) := by decide +kernel
theorem dL_act_187 : decode cL_act 187 = .ok (.ifCond .ne 8, 3) := by decide +kernel
theorem dL_act_190 : decode cL_act 190 = .ok (.bipush 6, 2) := by decide +kernel
theorem dL_act_192 : decode cL_act 192 = .ok (.goto 4, 3) := by decide +kernel
theorem dL_act_195 : decode cL_act 195 = .ok (.iconst 4, 1) := by decide +kernel
theorem dL_act_196 : decode cL_act 196 = .ok (.invokestatic 44, 3) := by decide +kernel
theorem dL_act_199 : decode cL_act 199 = .ok (.iload 6, 2) := by decide +kernel
theorem dL_act_201 : decode cL_act 201 = .ok (.iload 7, 2) := by decide +kernel
theorem dL_act_203 : decode cL_act 203 = .ok (.invokestatic 50, 3) := by decide +kernel
theorem dL_act_206 : decode cL_act 206 = .ok (.ireturn, 1) := by decide +kernel
theorem dL_act_207 : decode cL_act 207 = .ok (.iload_n 3, 1) := by decide +kernel
theorem dL_act_208 : decode cL_act 208 = .ok (.bipush 13, 2) := by decide +kernel
theorem dL_act_210 : decode cL_act 210 = .ok (.if_icmp .ge 28, 3) := by decide +kernel
theorem dL_act_213 : decode cL_act 213 = .ok (.aload_n 0, 1) := by decide +kernel
theorem dL_act_214 : decode cL_act 214 = .ok (.iload_n 3, 1) := by decide +kernel
theorem dL_act_215 : decode cL_act 215 = .ok (.bipush 12, 2) := by decide +kernel
theorem dL_act_217 : decode cL_act 217 = .ok (.if_icmp .ge 7, 3) := by decide +kernel
theorem dL_act_220 : decode cL_act 220 = .ok (.iconst 1, 1) := by decide +kernel
theorem dL_act_221 : decode cL_act 221 = .ok (.goto 4, 3) := by decide +kernel
theorem dL_act_224 : decode cL_act 224 = .ok (.iconst 2, 1) := by decide +kernel
theorem dL_act_225 : decode cL_act 225 = .ok (.iload 4, 2) := by decide +kernel
theorem dL_act_227 : decode cL_act 227 = .ok (.iload 5, 2) := by decide +kernel
theorem dL_act_229 : decode cL_act 229 = .ok (.iconst 0, 1) := by decide +kernel
theorem dL_act_230 : decode cL_act 230 = .ok (.iload 6, 2) := by decide +kernel
theorem dL_act_232 : decode cL_act 232 = .ok (.iload 7, 2) := by decide +kernel
theorem dL_act_234 : decode cL_act 234 = .ok (.invokestatic 50, 3) := by decide +kernel
theorem dL_act_237 : decode cL_act 237 = .ok (.ireturn, 1) := by decide +kernel
theorem dL_act_238 : decode cL_act 238 = .ok (.iload_n 3, 1) := by decide +kernel
theorem dL_act_239 : decode cL_act 239 = .ok (.bipush 16, 2) := by decide +kernel
theorem dL_act_241 : decode cL_act 241 = .ok (.if_icmp .ge 39, 3) := by decide +kernel
theorem dL_act_244 : decode cL_act 244 = .ok (.aload_n 0, 1) := by decide +kernel
theorem dL_act_245 : decode cL_act 245 = .ok (.iconst 3, 1) := by decide +kernel
theorem dL_act_246 : decode cL_act 246 = .ok (.iload 4, 2) := by decide +kernel
theorem dL_act_248 : decode cL_act 248 = .ok (.iload 5, 2) := by decide +kernel
theorem dL_act_250 : decode cL_act 250 = .ok (.iconst 0, 1) := by decide +kernel
theorem dL_act_251 : decode cL_act 251 = .ok (.iload_n 2, 1) := by decide +kernel
theorem dL_act_252 : decode cL_act 252 = .ok (.ifCond .eq 8, 3) := by decide +kernel
theorem dL_act_255 : decode cL_act 255 = .ok (.iload 6, 2) := by decide +kernel
theorem dL_act_257 : decode cL_act 257 = .ok (.goto 16, 3) := by decide +kernel
theorem dL_act_260 : decode cL_act 260 = .ok (.iload_n 1, 1) := by decide +kernel
theorem dL_act_261 : decode cL_act 261 = .ok (.bipush 9, 2) := by decide +kernel
theorem dL_act_263 : decode cL_act 263 = .ok (.ishr, 1) := by decide +kernel
theorem dL_act_264 : decode cL_act 264 = .ok (.aload_n 0, 1) := by decide +kernel
theorem dL_act_265 : decode cL_act 265 = .ok (.invokevirtual 54, 3) := by decide +kernel
theorem dL_act_268 : decode cL_act 268 = .ok (.iconst 1, 1) := by decide +kernel
theorem dL_act_269 : decode cL_act 269 = .ok (.iadd, 1) := by decide +kernel
theorem dL_act_270 : decode cL_act 270 = .ok (.invokestatic 44, 3) := by decide +kernel
theorem dL_act_273 : decode cL_act 273 = .ok (.iconst 0, 1) := by decide +kernel
theorem dL_act_274 : decode cL_act 274 = .ok (.invokestatic 50, 3) := by decide +kernel
theorem dL_act_277 : decode cL_act 277 = .ok (.goto 38, 3) := by decide +kernel
theorem dL_act_280 : decode cL_act 280 = .ok (.aload_n 0, 1) := by decide +kernel
theorem dL_act_281 : decode cL_act 281 = .ok (.iconst 4, 1) := by decide +kernel
theorem dL_act_282 : decode cL_act 282 = .ok (.iconst 0, 1) := by decide +kernel
theorem dL_act_283 : decode cL_act 283 = .ok (.iconst 0, 1) := by decide +kernel
theorem dL_act_284 : decode cL_act 284 = .ok (.iload_n 2, 1) := by decide +kernel
theorem dL_act_285 : decode cL_act 285 = .ok (.ifCond .eq 15, 3) := by decide +kernel
theorem dL_act_288 : decode cL_act 288 = .ok (.iload_n 1, 1) := by decide +kernel
theorem dL_act_289 : decode cL_act 289 = .ok (.bipush 6, 2) := by decide +kernel
theorem dL_act_291 : decode cL_act 291 = .ok (.ishr, 1) := by decide +kernel
theorem dL_act_292 : decode cL_act 292 = .ok (.bipush 70, 2) := by decide +kernel
theorem dL_act_294 : decode cL_act 294 = .ok (.invokestatic 44, 3) := by decide +kernel
theorem dL_act_297 : decode cL_act 297 = .ok (.goto 13, 3) := by decide +kernel
theorem dL_act_300 : decode cL_act 300 = .ok (.iconst 1, 1) := by decide +kernel
theorem dL_act_301 : decode cL_act 301 = .ok (.iload_n 1, 1) := by decide +kernel
theorem dL_act_302 : decode cL_act 302 = .ok (.bipush 6, 2) := by decide +kernel
theorem dL_act_304 : decode cL_act 304 = .ok (.ishr, 1) := by decide +kernel
theorem dL_act_305 : decode cL_act 305 = .ok (.iconst 5, 1) := by decide +kernel
theorem dL_act_306 : decode cL_act 306 = .ok (.invokestatic 44, 3) := by decide +kernel
theorem dL_act_309 : decode cL_act 309 = .ok (.iadd, 1) := by decide +kernel
theorem dL_act_310 : decode cL_act 310 = .ok (.iconst 0, 1) := by decide +kernel
theorem dL_act_311 : decode cL_act 311 = .ok (.iconst 0, 1) := by decide +kernel
theorem dL_act_312 : decode cL_act 312 = .ok (.invokestatic 50, 3) := by decide +kernel
theorem dL_act_315 : decode cL_act 315 = .ok (.ireturn, 1) := by decide +kernel
theorem dL_areAlike_0 : decode cL_areAlike 0 = .ok (.aload_n 0, 1) := by decide +kernel
theorem dL_areAlike_1 : decode cL_areAlike 1 = .ok (.invokevirtual 54, 3) := by decide +kernel
theorem dL_areAlike_4 : decode cL_areAlike 4 = .ok (.aload_n 1, 1) := by decide +kernel
theorem dL_areAlike_5 : decode cL_areAlike 5 = .ok (.invokevirtual 54, 3) := by decide +kernel
theorem dL_areAlike_8 : decode cL_areAlike 8 = .ok (.if_icmp .ne 7, 3) := by decide +kernel
theorem dL_areAlike_11 : decode cL_areAlike 11 = .ok (.iconst 1, 1) := by decide +kernel
theorem dL_areAlike_12 : decode cL_areAlike 12 = .ok (.goto 4, 3) := by decide +kernel
theorem dL_areAlike_15 : decode cL_areAlike 15 = .ok (.iconst 0, 1) := by decide +kernel
theorem dL_areAlike_16 : decode cL_areAlike 16 = .ok (.istore_n 2, 1) := by decide +kernel
theorem dL_areAlike_17 : decode cL_areAlike 17 = .ok (.iconst 0, 1) := by decide +kernel
theorem dL_areAlike_18 : decode cL_areAlike 18 = .ok (.istore_n 3, 1) := by decide +kernel
theorem dL_areAlike_19 : decode cL_areAlike 19 = .ok (.iload_n 3, 1) := by decide +kernel
theorem dL_areAlike_20 : decode cL_areAlike 20 = .ok (.bipush 8, 2) := by decide +kernel
theorem dL_areAlike_22 : decode cL_areAlike 22 = .ok (.if_icmp .ge 179, 3) := by decide +kernel
theorem dL_areAlike_25 : decode cL_areAlike 25 = .ok (.iload_n 2, 1) := by decide +kernel
theorem dL_areAlike_26 : decode cL_areAlike 26 = .ok (.ifCond .eq 175, 3) := by decide +kernel
theorem dL_areAlike_29 : decode cL_areAlike 29 = .ok (.aload_n 0, 1) := by decide +kernel
theorem dL_areAlike_30 : decode cL_areAlike 30 = .ok (.iconst 0, 1) := by decide +kernel
theorem dL_areAlike_31 : decode cL_areAlike 31 = .ok (.iload_n 3, 1) := by decide +kernel
theorem dL_areAlike_32 : decode cL_areAlike 32 = .ok (.invokevirtual 58, 3) := by decide +kernel
theorem dL_areAlike_35 : decode cL_areAlike 35 = .ok (.aload_n 1, 1) := by decide +kernel
theorem dL_areAlike_36 : decode cL_areAlike 36 = .ok (.iconst 0, 1) := by decide +kernel
theorem dL_areAlike_37 : decode cL_areAlike 37 = .ok (.iload_n 3, 1) := by decide +kernel
theorem dL_areAlike_38 : decode cL_areAlike 38 = .ok (.invokevirtual 58, 3) := by decide +kernel
theorem dL_areAlike_41 : decode cL_areAlike 41 = .ok (.if_icmp .ne 68, 3) := by decide +kernel
theorem dL_areAlike_44 : decode cL_areAlike 44 = .ok (.aload_n 0, 1) := by decide +kernel
theorem dL_areAlike_45 : decode cL_areAlike 45 = .ok (.iconst 1, 1) := by decide +kernel
theorem dL_areAlike_46 : decode cL_areAlike 46 = .ok (.iload_n 3, 1) := by decide +kernel
theorem dL_areAlike_47 : decode cL_areAlike 47 = .ok (.invokevirtual 58, 3) := by decide +kernel
theorem dL_areAlike_50 : decode cL_areAlike 50 = .ok (.aload_n 1, 1) := by decide +kernel
theorem dL_areAlike_51 : decode cL_areAlike 51 = .ok (.iconst 1, 1) := by decide +kernel
theorem dL_areAlike_52 : decode cL_areAlike 52 = .ok (.iload_n 3, 1) := by decide +kernel
theorem dL_areAlike_53 : decode cL_areAlike 53 = .ok (.invokevirtual 58, 3) := by decide +kernel
theorem dL_areAlike_56 : decode cL_areAlike 56 = .ok (.if_icmp .ne 53, 3) := by decide +kernel
theorem dL_areAlike_59 : decode cL_areAlike 59 = .ok (.aload_n 0, 1) := by decide +kernel
theorem dL_areAlike_60 : decode cL_areAlike 60 = .ok (.iconst 0, 1) := by decide +kernel
theorem dL_areAlike_61 : decode cL_areAlike 61 = .ok (.iload_n 3, 1) := by decide +kernel
theorem dL_areAlike_62 : decode cL_areAlike 62 = .ok (.aload_n 0, 1) := by decide +kernel
theorem dL_areAlike_63 : decode cL_areAlike 63 = .ok (.invokevirtual 54, 3) := by decide +kernel
theorem dL_areAlike_66 : decode cL_areAlike 66 = .ok (.invokevirtual 61, 3) := by decide +kernel
theorem dL_areAlike_69 : decode cL_areAlike 69 = .ok (.aload_n 1, 1) := by decide +kernel
theorem dL_areAlike_70 : decode cL_areAlike 70 = .ok (.iconst 0, 1) := by decide +kernel
theorem dL_areAlike_71 : decode cL_areAlike 71 = .ok (.iload_n 3, 1) := by decide +kernel
theorem dL_areAlike_72 : decode cL_areAlike 72 = .ok (.aload_n 1, 1) := by decide +kernel
theorem dL_areAlike_73 : decode cL_areAlike 73 = .ok (.invokevirtual 54, 3) := by decide +kernel
theorem dL_areAlike_76 : decode cL_areAlike 76 = .ok (.invokevirtual 61, 3) := by decide +kernel
theorem dL_areAlike_79 : decode cL_areAlike 79 = .ok (.if_icmp .ne 30, 3) := by decide +kernel
theorem dL_areAlike_82 : decode cL_areAlike 82 = .ok (.aload_n 0, 1) := by decide +kernel
theorem dL_areAlike_83 : decode cL_areAlike 83 = .ok (.iconst 1, 1) := by decide +kernel
theorem dL_areAlike_84 : decode cL_areAlike 84 = .ok (.iload_n 3, 1) := by decide +kernel
theorem dL_areAlike_85 : decode cL_areAlike 85 = .ok (.aload_n 0, 1) := by decide +kernel
theorem dL_areAlike_86 : decode cL_areAlike 86 = .ok (.invokevirtual 54, 3) := by decide +kernel
theorem dL_areAlike_89 : decode cL_areAlike 89 = .ok (.invokevirtual 64, 3) := by decide +kernel
theorem dL_areAlike_92 : decode cL_areAlike 92 = .ok (.aload_n 1, 1) := by decide +kernel
theorem dL_areAlike_93 : decode cL_areAlike 93 = .ok (.iconst 1, 1) := by decide +kernel
theorem dL_areAlike_94 : decode cL_areAlike 94 = .ok (.iload_n 3, 1) := by decide +kernel
theorem dL_areAlike_95 : decode cL_areAlike 95 = .ok (.aload_n 1, 1) := by decide +kernel
theorem dL_areAlike_96 : decode cL_areAlike 96 = .ok (.invokevirtual 54, 3) := by decide +kernel
theorem dL_areAlike_99 : decode cL_areAlike 99 = .ok (.invokevirtual 64, 3) := by decide +kernel
theorem dL_areAlike_102 : decode cL_areAlike 102 = .ok (.if_icmp .ne 7, 3) := by decide +kernel
theorem dL_areAlike_105 : decode cL_areAlike 105 = .ok (.iconst 1, 1) := by decide +kernel
theorem dL_areAlike_106 : decode cL_areAlike 106 = .ok (.goto 4, 3) := by decide +kernel
theorem dL_areAlike_109 : decode cL_areAlike 109 = .ok (.iconst 0, 1) := by decide +kernel
theorem dL_areAlike_110 : decode cL_areAlike 110 = .ok (.istore_n 2, 1) := by decide +kernel
theorem dL_areAlike_111 : decode cL_areAlike 111 = .ok (.iconst 0, 1) := by decide +kernel
theorem dL_areAlike_112 : decode cL_areAlike 112 = .ok (.istore 4, 2) := by decide +kernel
theorem dL_areAlike_114 : decode cL_areAlike 114 = .ok (.iload 4, 2) := by decide +kernel
theorem dL_areAlike_116 : decode cL_areAlike 116 = .ok (.bipush 60, 2) := by decide +kernel
theorem dL_areAlike_118 : decode cL_areAlike 118 = .ok (.if_icmp .ge 77, 3) := by decide +kernel
theorem dL_areAlike_121 : decode cL_areAlike 121 = .ok (.iload_n 2, 1) := by decide +kernel
theorem dL_areAlike_122 : decode cL_areAlike 122 = .ok (.ifCond .eq 73, 3) := by decide +kernel
theorem dL_areAlike_125 : decode cL_areAlike 125 = .ok (.aload_n 0, 1) := by decide +kernel
theorem dL_areAlike_126 : decode cL_areAlike 126 = .ok (.iconst 0, 1) := by decide +kernel
theorem dL_areAlike_127 : decode cL_areAlike 127 = .ok (.iload_n 3, 1) := by decide +kernel
theorem dL_areAlike_128 : decode cL_areAlike 128 = .ok (.iload 4, 2) := by decide +kernel
theorem dL_areAlike_130 : decode cL_areAlike 130 = .ok (.aload_n 0, 1) := by decide +kernel
theorem dL_areAlike_131 : decode cL_areAlike 131 = .ok (.invokevirtual 54, 3) := by decide +kernel
theorem dL_areAlike_134 : decode cL_areAlike 134 = .ok (.invokevirtual 67, 3) := by decide +kernel
theorem dL_areAlike_137 : decode cL_areAlike 137 = .ok (.aload_n 1, 1) := by decide +kernel
theorem dL_areAlike_138 : decode cL_areAlike 138 = .ok (.iconst 0, 1) := by decide +kernel
theorem dL_areAlike_139 : decode cL_areAlike 139 = .ok (.iload_n 3, 1) := by decide +kernel
theorem dL_areAlike_140 : decode cL_areAlike 140 = .ok (.iload 4, 2) := by decide +kernel
theorem dL_areAlike_142 : decode cL_areAlike 142 = .ok (.aload_n 1, 1) := by decide +kernel
theorem dL_areAlike_143 : decode cL_areAlike 143 = .ok (.invokevirtual 54, 3) := by decide +kernel
theorem dL_areAlike_146 : decode cL_areAlike 146 = .ok (.invokevirtual 67, 3) := by decide +kernel
theorem dL_areAlike_149 : decode cL_areAlike 149 = .ok (.if_icmp .ne 38, 3) := by decide +kernel
theorem dL_areAlike_152 : decode cL_areAlike 152 = .ok (.aload_n 0, 1) := by decide +kernel
theorem dL_areAlike_153 : decode cL_areAlike 153 = .ok (.iconst 1, 1) := by decide +kernel
theorem dL_areAlike_154 : decode cL_areAlike 154 = .ok (.iload_n 3, 1) := by decide +kernel
theorem dL_areAlike_155 : decode cL_areAlike 155 = .ok (.iload 4, 2) := by decide +kernel
theorem dL_areAlike_157 : decode cL_areAlike 157 = .ok (.aload_n 0, 1) := by decide +kernel
theorem dL_areAlike_158 : decode cL_areAlike 158 = .ok (.invokevirtual 54, 3) := by decide +kernel
theorem dL_areAlike_161 : decode cL_areAlike 161 = .ok (.iconst 2, 1) := by decide +kernel
theorem dL_areAlike_162 : decode cL_areAlike 162 = .ok (.idiv, 1) := by decide +kernel
theorem dL_areAlike_163 : decode cL_areAlike 163 = .ok (.invokevirtual 67, 3) := by decide +kernel
theorem dL_areAlike_166 : decode cL_areAlike 166 = .ok (.aload_n 1, 1) := by decide +kernel
theorem dL_areAlike_167 : decode cL_areAlike 167 = .ok (.iconst 1, 1) := by decide +kernel
theorem dL_areAlike_168 : decode cL_areAlike 168 = .ok (.iload_n 3, 1) := by decide +kernel
theorem dL_areAlike_169 : decode cL_areAlike 169 = .ok (.iload 4, 2) := by decide +kernel
theorem dL_areAlike_171 : decode cL_areAlike 171 = .ok (.aload_n 1, 1) := by decide +kernel
theorem dL_areAlike_172 : decode cL_areAlike 172 = .ok (.invokevirtual 54, 3) := by decide +kernel
theorem dL_areAlike_175 : decode cL_areAlike 175 = .ok (.iconst 2, 1) := by decide +kernel
theorem dL_areAlike_176 : decode cL_areAlike 176 = .ok (.idiv, 1) := by decide +kernel
theorem dL_areAlike_177 : decode cL_areAlike 177 = .ok (.invokevirtual 67, 3) := by decide +kernel
theorem dL_areAlike_180 : decode cL_areAlike 180 = .ok (.if_icmp .ne 7, 3) := by decide +kernel
theorem dL_areAlike_183 : decode cL_areAlike 183 = .ok (.iconst 1, 1) := by decide +kernel
theorem dL_areAlike_184 : decode cL_areAlike 184 = .ok (.goto 4, 3) := by decide +kernel
theorem dL_areAlike_187 : decode cL_areAlike 187 = .ok (.iconst 0, 1) := by decide +kernel
theorem dL_areAlike_188 : decode cL_areAlike 188 = .ok (.istore_n 2, 1) := by decide +kernel
theorem dL_areAlike_189 : decode cL_areAlike 189 = .ok (.iinc 4 4, 3) := by decide +kernel
theorem dL_areAlike_192 : decode cL_areAlike 192 = .ok (.goto (-78), 3) := by decide +kernel
theorem dL_areAlike_195 : decode cL_areAlike 195 = .ok (.iinc 3 1, 3) := by decide +kernel
theorem dL_areAlike_198 : decode cL_areAlike 198 = .ok (.goto (-179), 3) := by decide +kernel
theorem dL_areAlike_201 : decode cL_areAlike 201 = .ok (.iload_n 2, 1) := by decide +kernel
theorem dL_areAlike_202 : decode cL_areAlike 202 = .ok (.ireturn, 1) := by decide +kernel
theorem dL_areValuesSo_0 : decode cL_areValuesSo 0 = .ok (.iconst 1, 1) := by decide +kernel
theorem dL_areValuesSo_1 : decode cL_areValuesSo 1 = .ok (.istore_n 2, 1) := by decide +kernel
theorem dL_areValuesSo_2 : decode cL_areValuesSo 2 = .ok (.iconst 0, 1) := by decide +kernel
theorem dL_areValuesSo_3 : decode cL_areValuesSo 3 = .ok (.istore_n 3, 1) := by decide +kernel
theorem dL_areValuesSo_4 : decode cL_areValuesSo 4 = .ok (.iload_n 3, 1) := by decide +kernel
theorem dL_areValuesSo_5 : decode cL_areValuesSo 5 = .ok (.bipush 60, 2) := by decide +kernel
theorem dL_areValuesSo_7 : decode cL_areValuesSo 7 = .ok (.if_icmp .ge 178, 3) := by decide +kernel
theorem dL_areValuesSo_10 : decode cL_areValuesSo 10 = .ok (.iload_n 2, 1) := by decide +kernel
theorem dL_areValuesSo_11 : decode cL_areValuesSo 11 = .ok (.ifCond .eq 174, 3) := by decide +kernel
theorem dL_areValuesSo_14 : decode cL_areValuesSo 14 = .ok (.aload_n 0, 1) := by decide +kernel
theorem dL_areValuesSo_15 : decode cL_areValuesSo 15 = .ok (.iconst 0, 1) := by decide +kernel
theorem dL_areValuesSo_16 : decode cL_areValuesSo 16 = .ok (.iload_n 3, 1) := by decide +kernel
theorem dL_areValuesSo_17 : decode cL_areValuesSo 17 = .ok (.iload_n 1, 1) := by decide +kernel
theorem dL_areValuesSo_18 : decode cL_areValuesSo 18 = .ok (.invokevirtual 70, 3) := by decide +kernel
theorem dL_areValuesSo_21 : decode cL_areValuesSo 21 = .ok (.istore 4, 2) := by decide +kernel
theorem dL_areValuesSo_23 : decode cL_areValuesSo 23 = .ok (.aload_n 0, 1) := by decide +kernel
theorem dL_areValuesSo_24 : decode cL_areValuesSo 24 = .ok (.iconst 1, 1) := by decide +kernel
theorem dL_areValuesSo_25 : decode cL_areValuesSo 25 = .ok (.iload_n 3, 1) := by decide +kernel
theorem dL_areValuesSo_26 : decode cL_areValuesSo 26 = .ok (.iload_n 1, 1) := by decide +kernel
theorem dL_areValuesSo_27 : decode cL_areValuesSo 27 = .ok (.invokevirtual 70, 3) := by decide +kernel
theorem dL_areValuesSo_30 : decode cL_areValuesSo 30 = .ok (.istore 5, 2) := by decide +kernel
theorem dL_areValuesSo_32 : decode cL_areValuesSo 32 = .ok (.iconst 0, 1) := by decide +kernel
theorem dL_areValuesSo_33 : decode cL_areValuesSo 33 = .ok (.istore 6, 2) := by decide +kernel
theorem dL_areValuesSo_35 : decode cL_areValuesSo 35 = .ok (.iload 6, 2) := by decide +kernel
theorem dL_areValuesSo_37 : decode cL_areValuesSo 37 = .ok (.bipush 8, 2) := by decide +kernel
theorem dL_areValuesSo_39 : decode cL_areValuesSo 39 = .ok (.if_icmp .ge 140, 3) := by decide +kernel
theorem dL_areValuesSo_42 : decode cL_areValuesSo 42 = .ok (.iload_n 2, 1) := by decide +kernel
theorem dL_areValuesSo_43 : decode cL_areValuesSo 43 = .ok (.ifCond .eq 136, 3) := by decide +kernel
theorem dL_areValuesSo_46 : decode cL_areValuesSo 46 = .ok (.aload_n 0, 1) := by decide +kernel
theorem dL_areValuesSo_47 : decode cL_areValuesSo 47 = .ok (.iconst 0, 1) := by decide +kernel
theorem dL_areValuesSo_48 : decode cL_areValuesSo 48 = .ok (.iload 6, 2) := by decide +kernel
theorem dL_areValuesSo_50 : decode cL_areValuesSo 50 = .ok (.iload_n 3, 1) := by decide +kernel
theorem dL_areValuesSo_51 : decode cL_areValuesSo 51 = .ok (.iload_n 1, 1) := by decide +kernel
theorem dL_areValuesSo_52 : decode cL_areValuesSo 52 = .ok (.invokevirtual 67, 3) := by decide +kernel
theorem dL_areValuesSo_55 : decode cL_areValuesSo 55 = .ok (.istore 7, 2) := by decide +kernel
theorem dL_areValuesSo_57 : decode cL_areValuesSo 57 = .ok (.aload_n 0, 1) := by decide +kernel
theorem dL_areValuesSo_58 : decode cL_areValuesSo 58 = .ok (.iconst 1, 1) := by decide +kernel
theorem dL_areValuesSo_59 : decode cL_areValuesSo 59 = .ok (.iload 6, 2) := by decide +kernel
theorem dL_areValuesSo_61 : decode cL_areValuesSo 61 = .ok (.iload_n 3, 1) := by decide +kernel
theorem dL_areValuesSo_62 : decode cL_areValuesSo 62 = .ok (.iload_n 1, 1) := by decide +kernel
theorem dL_areValuesSo_63 : decode cL_areValuesSo 63 = .ok (.invokevirtual 67, 3) := by decide +kernel
theorem dL_areValuesSo_66 : decode cL_areValuesSo 66 = .ok (.istore 8, 2) := by decide +kernel
theorem dL_areValuesSo_68 : decode cL_areValuesSo 68 = .ok (.iload 4, 2) := by decide +kernel
theorem dL_areValuesSo_70 : decode cL_areValuesSo 70 = .ok (.iload 6, 2) := by decide +kernel
theorem dL_areValuesSo_72 : decode cL_areValuesSo 72 = .ok (.ishr, 1) := by decide +kernel
theorem dL_areValuesSo_73 : decode cL_areValuesSo 73 = .ok (.iconst 1, 1) := by decide +kernel
theorem dL_areValuesSo_74 : decode cL_areValuesSo 74 = .ok (.iand, 1) := by decide +kernel
theorem dL_areValuesSo_75 : decode cL_areValuesSo 75 = .ok (.iload 7, 2) := by decide +kernel
theorem dL_areValuesSo_77 : decode cL_areValuesSo 77 = .ok (.ifCond .ge 7, 3) := by decide +kernel
theorem dL_areValuesSo_80 : decode cL_areValuesSo 80 = .ok (.iconst 0, 1) := by decide +kernel
theorem dL_areValuesSo_81 : decode cL_areValuesSo 81 = .ok (.goto 4, 3) := by decide +kernel
theorem dL_areValuesSo_84 : decode cL_areValuesSo 84 = .ok (.iconst 1, 1) := by decide +kernel
theorem dL_areValuesSo_85 : decode cL_areValuesSo 85 = .ok (.if_icmp .ne 86, 3) := by decide +kernel
theorem dL_areValuesSo_88 : decode cL_areValuesSo 88 = .ok (.iload 5, 2) := by decide +kernel
theorem dL_areValuesSo_90 : decode cL_areValuesSo 90 = .ok (.iload 6, 2) := by decide +kernel
theorem dL_areValuesSo_92 : decode cL_areValuesSo 92 = .ok (.ishr, 1) := by decide +kernel
theorem dL_areValuesSo_93 : decode cL_areValuesSo 93 = .ok (.iconst 1, 1) := by decide +kernel
theorem dL_areValuesSo_94 : decode cL_areValuesSo 94 = .ok (.iand, 1) := by decide +kernel
theorem dL_areValuesSo_95 : decode cL_areValuesSo 95 = .ok (.iload 8, 2) := by decide +kernel
theorem dL_areValuesSo_97 : decode cL_areValuesSo 97 = .ok (.ifCond .ge 7, 3) := by decide +kernel
theorem dL_areValuesSo_100 : decode cL_areValuesSo 100 = .ok (.iconst 0, 1) := by decide +kernel
theorem dL_areValuesSo_101 : decode cL_areValuesSo 101 = .ok (.goto 4, 3) := by decide +kernel
theorem dL_areValuesSo_104 : decode cL_areValuesSo 104 = .ok (.iconst 1, 1) := by decide +kernel
theorem dL_areValuesSo_105 : decode cL_areValuesSo 105 = .ok (.if_icmp .ne 66, 3) := by decide +kernel
theorem dL_areValuesSo_108 : decode cL_areValuesSo 108 = .ok (.iload 7, 2) := by decide +kernel
theorem dL_areValuesSo_110 : decode cL_areValuesSo 110 = .ok (.bipush 99, 2) := by decide +kernel
theorem dL_areValuesSo_112 : decode cL_areValuesSo 112 = .ok (.if_icmp .gt 59, 3) := by decide +kernel
theorem dL_areValuesSo_115 : decode cL_areValuesSo 115 = .ok (.iload 8, 2) := by decide +kernel
theorem dL_areValuesSo_117 : decode cL_areValuesSo 117 = .ok (.bipush 7, 2) := by decide +kernel
theorem dL_areValuesSo_119 : decode cL_areValuesSo 119 = .ok (.if_icmp .gt 52, 3) := by decide +kernel
theorem dL_areValuesSo_122 : decode cL_areValuesSo 122 = .ok (.iload 8, 2) := by decide +kernel
theorem dL_areValuesSo_124 : decode cL_areValuesSo 124 = .ok (.ifCond .lt 14, 3) := by decide +kernel
theorem dL_areValuesSo_127 : decode cL_areValuesSo 127 = .ok (.iload 4, 2) := by decide +kernel
theorem dL_areValuesSo_129 : decode cL_areValuesSo 129 = .ok (.iload 8, 2) := by decide +kernel
theorem dL_areValuesSo_131 : decode cL_areValuesSo 131 = .ok (.ishr, 1) := by decide +kernel
theorem dL_areValuesSo_132 : decode cL_areValuesSo 132 = .ok (.iconst 1, 1) := by decide +kernel
theorem dL_areValuesSo_133 : decode cL_areValuesSo 133 = .ok (.iand, 1) := by decide +kernel
theorem dL_areValuesSo_134 : decode cL_areValuesSo 134 = .ok (.iconst 1, 1) := by decide +kernel
theorem dL_areValuesSo_135 : decode cL_areValuesSo 135 = .ok (.if_icmp .ne 36, 3) := by decide +kernel
theorem dL_areValuesSo_138 : decode cL_areValuesSo 138 = .ok (.aload_n 0, 1) := by decide +kernel
theorem dL_areValuesSo_139 : decode cL_areValuesSo 139 = .ok (.iload 6, 2) := by decide +kernel
theorem dL_areValuesSo_141 : decode cL_areValuesSo 141 = .ok (.iload_n 3, 1) := by decide +kernel
theorem dL_areValuesSo_142 : decode cL_areValuesSo 142 = .ok (.iload_n 1, 1) := by decide +kernel
theorem dL_areValuesSo_143 : decode cL_areValuesSo 143 = .ok (.invokevirtual 73, 3) := by decide +kernel
theorem dL_areValuesSo_146 : decode cL_areValuesSo 146 = .ok (.iload 8, 2) := by decide +kernel
theorem dL_areValuesSo_148 : decode cL_areValuesSo 148 = .ok (.ifCond .ge 7, 3) := by decide +kernel
theorem dL_areValuesSo_151 : decode cL_areValuesSo 151 = .ok (.iconst (-1), 1) := by decide +kernel
theorem dL_areValuesSo_152 : decode cL_areValuesSo 152 = .ok (.goto 12, 3) := by decide +kernel
theorem dL_areValuesSo_155 : decode cL_areValuesSo 155 = .ok (.aload_n 0, 1) := by decide +kernel
theorem dL_areValuesSo_156 : decode cL_areValuesSo 156 = .ok (.iconst 0, 1) := by decide +kernel
theorem dL_areValuesSo_157 : decode cL_areValuesSo 157 = .ok (.iload 8, 2) := by decide +kernel
theorem dL_areValuesSo_159 : decode cL_areValuesSo 159 = .ok (.iload_n 3, 1) := by decide +kernel
theorem dL_areValuesSo_160 : decode cL_areValuesSo 160 = .ok (.iload_n 1, 1) := by decide +kernel
theorem dL_areValuesSo_161 : decode cL_areValuesSo 161 = .ok (.invokevirtual 67, 3) := by decide +kernel
theorem dL_areValuesSo_164 : decode cL_areValuesSo 164 = .ok (.if_icmp .ne 7, 3) := by decide +kernel
theorem dL_areValuesSo_167 : decode cL_areValuesSo 167 = .ok (.iconst 1, 1) := by decide +kernel
theorem dL_areValuesSo_168 : decode cL_areValuesSo 168 = .ok (.goto 4, 3) := by decide +kernel
theorem dL_areValuesSo_171 : decode cL_areValuesSo 171 = .ok (.iconst 0, 1) := by decide +kernel
theorem dL_areValuesSo_172 : decode cL_areValuesSo 172 = .ok (.istore_n 2, 1) := by decide +kernel
theorem dL_areValuesSo_173 : decode cL_areValuesSo 173 = .ok (.iinc 6 1, 3) := by decide +kernel
theorem dL_areValuesSo_176 : decode cL_areValuesSo 176 = .ok (.goto (-141), 3) := by decide +kernel
theorem dL_areValuesSo_179 : decode cL_areValuesSo 179 = .ok (.iinc 3 1, 3) := by decide +kernel
theorem dL_areValuesSo_182 : decode cL_areValuesSo 182 = .ok (.goto (-178), 3) := by decide +kernel
theorem dL_areValuesSo_185 : decode cL_areValuesSo 185 = .ok (.iload_n 2, 1) := by decide +kernel
theorem dL_areValuesSo_186 : decode cL_areValuesSo 186 = .ok (.ireturn, 1) := by decide +kernel
theorem dL_areRunsSo_0 : decode cL_areRunsSo 0 = .ok (.iconst 0, 1) := by decide +kernel
theorem dL_areRunsSo_1 : decode cL_areRunsSo 1 = .ok (.istore 4, 2) := by decide +kernel
theorem dL_areRunsSo_3 : decode cL_areRunsSo 3 = .ok (.iconst (-1), 1) := by decide +kernel
theorem dL_areRunsSo_4 : decode cL_areRunsSo 4 = .ok (.istore 5, 2) := by decide +kernel
theorem dL_areRunsSo_6 : decode cL_areRunsSo 6 = .ok (.iconst 0, 1) := by decide +kernel
theorem dL_areRunsSo_7 : decode cL_areRunsSo 7 = .ok (.istore 6, 2) := by decide +kernel
theorem dL_areRunsSo_9 : decode cL_areRunsSo 9 = .ok (.iconst 0, 1) := by decide +kernel
theorem dL_areRunsSo_10 : decode cL_areRunsSo 10 = .ok (.istore 7, 2) := by decide +kernel
theorem dL_areRunsSo_12 : decode cL_areRunsSo 12 = .ok (.iconst 0, 1) := by decide +kernel
theorem dL_areRunsSo_13 : decode cL_areRunsSo 13 = .ok (.istore 8, 2) := by decide +kernel
theorem dL_areRunsSo_15 : decode cL_areRunsSo 15 = .ok (.iconst 1, 1) := by decide +kernel
theorem dL_areRunsSo_16 : decode cL_areRunsSo 16 = .ok (.istore 9, 2) := by decide +kernel
theorem dL_areRunsSo_18 : decode cL_areRunsSo 18 = .ok (.iconst 0, 1) := by decide +kernel
theorem dL_areRunsSo_19 : decode cL_areRunsSo 19 = .ok (.istore 10, 2) := by decide +kernel
theorem dL_areRunsSo_21 : decode cL_areRunsSo 21 = .ok (.iload 10, 2) := by decide +kernel
theorem dL_areRunsSo_23 : decode cL_areRunsSo 23 = .ok (.aload_n 0, 1) := by decide +kernel
theorem dL_areRunsSo_24 : decode cL_areRunsSo 24 = .ok (.iload_n 1, 1) := by decide +kernel
theorem dL_areRunsSo_25 : decode cL_areRunsSo 25 = .ok (.iload_n 2, 1) := by decide +kernel
theorem dL_areRunsSo_26 : decode cL_areRunsSo 26 = .ok (.iload_n 3, 1) := by decide +kernel
theorem dL_areRunsSo_27 : decode cL_areRunsSo 27 = .ok (.invokevirtual 61, 3) := by decide +kernel
theorem dL_areRunsSo_30 : decode cL_areRunsSo 30 = .ok (.if_icmp .ge 210, 3) := by decide +kernel
theorem dL_areRunsSo_33 : decode cL_areRunsSo 33 = .ok (.iload 9, 2) := by decide +kernel
theorem dL_areRunsSo_35 : decode cL_areRunsSo 35 = .ok (.ifCond .eq 205, 3) := by decide +kernel
theorem dL_areRunsSo_38 : decode cL_areRunsSo 38 = .ok (.aload_n 0, 1) := by decide +kernel
theorem dL_areRunsSo_39 : decode cL_areRunsSo 39 = .ok (.iload_n 1, 1) := by decide +kernel
theorem dL_areRunsSo_40 : decode cL_areRunsSo 40 = .ok (.iload_n 2, 1) := by decide +kernel
theorem dL_areRunsSo_41 : decode cL_areRunsSo 41 = .ok (.iload_n 3, 1) := by decide +kernel
theorem dL_areRunsSo_42 : decode cL_areRunsSo 42 = .ok (.iload 10, 2) := by decide +kernel
theorem dL_areRunsSo_44 : decode cL_areRunsSo 44 = .ok (.invokevirtual 76, 3) := by decide +kernel
theorem dL_areRunsSo_47 : decode cL_areRunsSo 47 = .ok (.istore 11, 2) := by decide +kernel
theorem dL_areRunsSo_49 : decode cL_areRunsSo 49 = .ok (.iload 11, 2) := by decide +kernel
theorem dL_areRunsSo_51 : decode cL_areRunsSo 51 = .ok (.sipush 10000, 3) := by decide +kernel
theorem dL_areRunsSo_54 : decode cL_areRunsSo 54 = .ok (.idiv, 1) := by decide +kernel
theorem dL_areRunsSo_55 : decode cL_areRunsSo 55 = .ok (.istore 12, 2) := by decide +kernel
theorem dL_areRunsSo_57 : decode cL_areRunsSo 57 = .ok (.iload 11, 2) := by decide +kernel
theorem dL_areRunsSo_59 : decode cL_areRunsSo 59 = .ok (.bipush 100, 2) := by decide +kernel
theorem dL_areRunsSo_61 : decode cL_areRunsSo 61 = .ok (.idiv, 1) := by decide +kernel
theorem dL_areRunsSo_62 : decode cL_areRunsSo 62 = .ok (.bipush 100, 2) := by decide +kernel
theorem dL_areRunsSo_64 : decode cL_areRunsSo 64 = .ok (.irem, 1) := by decide +kernel
theorem dL_areRunsSo_65 : decode cL_areRunsSo 65 = .ok (.istore 13, 2) := by decide +kernel
theorem dL_areRunsSo_67 : decode cL_areRunsSo 67 = .ok (.iload 12, 2) := by decide +kernel
theorem dL_areRunsSo_69 : decode cL_areRunsSo 69 = .ok (.iload 4, 2) := by decide +kernel
theorem dL_areRunsSo_71 : decode cL_areRunsSo 71 = .ok (.if_icmp .lt 101, 3) := by decide +kernel
theorem dL_areRunsSo_74 : decode cL_areRunsSo 74 = .ok (.iload 13, 2) := by decide +kernel
theorem dL_areRunsSo_76 : decode cL_areRunsSo 76 = .ok (.iload 12, 2) := by decide +kernel
theorem dL_areRunsSo_78 : decode cL_areRunsSo 78 = .ok (.if_icmp .le 94, 3) := by decide +kernel
theorem dL_areRunsSo_81 : decode cL_areRunsSo 81 = .ok (.iload 13, 2) := by decide +kernel
theorem dL_areRunsSo_83 : decode cL_areRunsSo 83 = .ok (.bipush 60, 2) := by decide +kernel
theorem dL_areRunsSo_85 : decode cL_areRunsSo 85 = .ok (.if_icmp .gt 87, 3) := by decide +kernel
theorem dL_areRunsSo_88 : decode cL_areRunsSo 88 = .ok (.iload 10, 2) := by decide +kernel
theorem dL_areRunsSo_90 : decode cL_areRunsSo 90 = .ok (.ifCond .eq 20, 3) := by decide +kernel
theorem dL_areRunsSo_93 : decode cL_areRunsSo 93 = .ok (.iload 12, 2) := by decide +kernel
theorem dL_areRunsSo_95 : decode cL_areRunsSo 95 = .ok (.iload 4, 2) := by decide +kernel
theorem dL_areRunsSo_97 : decode cL_areRunsSo 97 = .ok (.if_icmp .gt 13, 3) := by decide +kernel
theorem dL_areRunsSo_100 : decode cL_areRunsSo 100 = .ok (.iload 11, 2) := by decide +kernel
theorem dL_areRunsSo_102 : decode cL_areRunsSo 102 = .ok (.bipush 100, 2) := by decide +kernel
theorem dL_areRunsSo_104 : decode cL_areRunsSo 104 = .ok (.irem, 1) := by decide +kernel
theorem dL_areRunsSo_105 : decode cL_areRunsSo 105 = .ok (.iload 5, 2) := by decide +kernel
theorem dL_areRunsSo_107 : decode cL_areRunsSo 107 = .ok (.if_icmp .eq 65, 3) := by decide +kernel
theorem dL_areRunsSo_110 : decode cL_areRunsSo 110 = .ok (.aload_n 0, 1) := by decide +kernel
theorem dL_areRunsSo_111 : decode cL_areRunsSo 111 = .ok (.iload_n 1, 1) := by decide +kernel
theorem dL_areRunsSo_112 : decode cL_areRunsSo 112 = .ok (.iload_n 2, 1) := by decide +kernel
theorem dL_areRunsSo_113 : decode cL_areRunsSo 113 = .ok (.iload 12, 2) := by decide +kernel
theorem dL_areRunsSo_115 : decode cL_areRunsSo 115 = .ok (.iload_n 3, 1) := by decide +kernel
theorem dL_areRunsSo_116 : decode cL_areRunsSo 116 = .ok (.invokevirtual 67, 3) := by decide +kernel
theorem dL_areRunsSo_119 : decode cL_areRunsSo 119 = .ok (.iload 11, 2) := by decide +kernel
theorem dL_areRunsSo_121 : decode cL_areRunsSo 121 = .ok (.bipush 100, 2) := by decide +kernel
theorem dL_areRunsSo_123 : decode cL_areRunsSo 123 = .ok (.irem, 1) := by decide +kernel
theorem dL_areRunsSo_124 : decode cL_areRunsSo 124 = .ok (.if_icmp .ne 48, 3) := by decide +kernel
theorem dL_areRunsSo_127 : decode cL_areRunsSo 127 = .ok (.aload_n 0, 1) := by decide +kernel
theorem dL_areRunsSo_128 : decode cL_areRunsSo 128 = .ok (.iload_n 1, 1) := by decide +kernel
theorem dL_areRunsSo_129 : decode cL_areRunsSo 129 = .ok (.iload_n 2, 1) := by decide +kernel
theorem dL_areRunsSo_130 : decode cL_areRunsSo 130 = .ok (.iload 13, 2) := by decide +kernel
theorem dL_areRunsSo_132 : decode cL_areRunsSo 132 = .ok (.iconst 1, 1) := by decide +kernel
theorem dL_areRunsSo_133 : decode cL_areRunsSo 133 = .ok (.isub, 1) := by decide +kernel
theorem dL_areRunsSo_134 : decode cL_areRunsSo 134 = .ok (.iload_n 3, 1) := by decide +kernel
theorem dL_areRunsSo_135 : decode cL_areRunsSo 135 = .ok (.invokevirtual 67, 3) := by decide +kernel
theorem dL_areRunsSo_138 : decode cL_areRunsSo 138 = .ok (.iload 11, 2) := by decide +kernel
theorem dL_areRunsSo_140 : decode cL_areRunsSo 140 = .ok (.bipush 100, 2) := by decide +kernel
theorem dL_areRunsSo_142 : decode cL_areRunsSo 142 = .ok (.irem, 1) := by decide +kernel
theorem dL_areRunsSo_143 : decode cL_areRunsSo 143 = .ok (.if_icmp .ne 29, 3) := by decide +kernel
theorem dL_areRunsSo_146 : decode cL_areRunsSo 146 = .ok (.iload 12, 2) := by decide +kernel
theorem dL_areRunsSo_148 : decode cL_areRunsSo 148 = .ok (.iload 4, 2) := by decide +kernel
theorem dL_areRunsSo_150 : decode cL_areRunsSo 150 = .ok (.if_icmp .eq 18, 3) := by decide +kernel
theorem dL_areRunsSo_153 : decode cL_areRunsSo 153 = .ok (.aload_n 0, 1) := by decide +kernel
theorem dL_areRunsSo_154 : decode cL_areRunsSo 154 = .ok (.iload_n 1, 1) := by decide +kernel
theorem dL_areRunsSo_155 : decode cL_areRunsSo 155 = .ok (.iload_n 2, 1) := by decide +kernel
theorem dL_areRunsSo_156 : decode cL_areRunsSo 156 = .ok (.iload 12, 2) := by decide +kernel
theorem dL_areRunsSo_158 : decode cL_areRunsSo 158 = .ok (.iconst 1, 1) := by decide +kernel
theorem dL_areRunsSo_159 : decode cL_areRunsSo 159 = .ok (.isub, 1) := by decide +kernel
theorem dL_areRunsSo_160 : decode cL_areRunsSo 160 = .ok (.iload_n 3, 1) := by decide +kernel
theorem dL_areRunsSo_161 : decode cL_areRunsSo 161 = .ok (.invokevirtual 67, 3) := by decide +kernel
theorem dL_areRunsSo_164 : decode cL_areRunsSo 164 = .ok (.iconst (-1), 1) := by decide +kernel
theorem dL_areRunsSo_165 : decode cL_areRunsSo 165 = .ok (.if_icmp .ne 7, 3) := by decide +kernel
theorem dL_areRunsSo_168 : decode cL_areRunsSo 168 = .ok (.iconst 1, 1) := by decide +kernel
theorem dL_areRunsSo_169 : decode cL_areRunsSo 169 = .ok (.goto 4, 3) := by decide +kernel
theorem dL_areRunsSo_172 : decode cL_areRunsSo 172 = .ok (.iconst 0, 1) := by decide +kernel
theorem dL_areRunsSo_173 : decode cL_areRunsSo 173 = .ok (.istore 9, 2) := by decide +kernel
theorem dL_areRunsSo_175 : decode cL_areRunsSo 175 = .ok (.iload 13, 2) := by decide +kernel
theorem dL_areRunsSo_177 : decode cL_areRunsSo 177 = .ok (.iload 12, 2) := by decide +kernel
theorem dL_areRunsSo_179 : decode cL_areRunsSo 179 = .ok (.isub, 1) := by decide +kernel
theorem dL_areRunsSo_180 : decode cL_areRunsSo 180 = .ok (.iload 6, 2) := by decide +kernel
theorem dL_areRunsSo_182 : decode cL_areRunsSo 182 = .ok (.if_icmp .le 11, 3) := by decide +kernel
theorem dL_areRunsSo_185 : decode cL_areRunsSo 185 = .ok (.iload 13, 2) := by decide +kernel
theorem dL_areRunsSo_187 : decode cL_areRunsSo 187 = .ok (.iload 12, 2) := by decide +kernel
theorem dL_areRunsSo_189 : decode cL_areRunsSo 189 = .ok (.isub, 1) := by decide +kernel
theorem dL_areRunsSo_190 : decode cL_areRunsSo 190 = .ok (.goto 5, 3) := by decide +kernel
theorem dL_areRunsSo_193 : decode cL_areRunsSo 193 = .ok (.iload 6, 2) := by decide +kernel
theorem dL_areRunsSo_195 : decode cL_areRunsSo 195 = .ok (.istore 6, 2) := by decide +kernel
theorem dL_areRunsSo_197 : decode cL_areRunsSo 197 = .ok (.iload 7, 2) := by decide +kernel
theorem dL_areRunsSo_199 : decode cL_areRunsSo 199 = .ok (.iload 13, 2) := by decide +kernel
theorem dL_areRunsSo_201 : decode cL_areRunsSo 201 = .ok (.iload 12, 2) := by decide +kernel
theorem dL_areRunsSo_203 : decode cL_areRunsSo 203 = .ok (.isub, 1) := by decide +kernel
theorem dL_areRunsSo_204 : decode cL_areRunsSo 204 = .ok (.iadd, 1) := by decide +kernel
theorem dL_areRunsSo_205 : decode cL_areRunsSo 205 = .ok (.istore 7, 2) := by decide +kernel
theorem dL_areRunsSo_207 : decode cL_areRunsSo 207 = .ok (.iload 8, 2) := by decide +kernel
theorem dL_areRunsSo_209 : decode cL_areRunsSo 209 = .ok (.iload 13, 2) := by decide +kernel
theorem dL_areRunsSo_211 : decode cL_areRunsSo 211 = .ok (.iload 12, 2) := by decide +kernel
theorem dL_areRunsSo_213 : decode cL_areRunsSo 213 = .ok (.isub, 1) := by decide +kernel
theorem dL_areRunsSo_214 : decode cL_areRunsSo 214 = .ok (.iload 11, 2) := by decide +kernel
theorem dL_areRunsSo_216 : decode cL_areRunsSo 216 = .ok (.bipush 100, 2) := by decide +kernel
theorem dL_areRunsSo_218 : decode cL_areRunsSo 218 = .ok (.irem, 1) := by decide +kernel
theorem dL_areRunsSo_219 : decode cL_areRunsSo 219 = .ok (.imul, 1) := by decide +kernel
theorem dL_areRunsSo_220 : decode cL_areRunsSo 220 = .ok (.iadd, 1) := by decide +kernel
theorem dL_areRunsSo_221 : decode cL_areRunsSo 221 = .ok (.istore 8, 2) := by decide +kernel
theorem dL_areRunsSo_223 : decode cL_areRunsSo 223 = .ok (.iload 13, 2) := by decide +kernel
theorem dL_areRunsSo_225 : decode cL_areRunsSo 225 = .ok (.istore 4, 2) := by decide +kernel
theorem dL_areRunsSo_227 : decode cL_areRunsSo 227 = .ok (.iload 11, 2) := by decide +kernel
theorem dL_areRunsSo_229 : decode cL_areRunsSo 229 = .ok (.bipush 100, 2) := by decide +kernel
theorem dL_areRunsSo_231 : decode cL_areRunsSo 231 = .ok (.irem, 1) := by decide +kernel
theorem dL_areRunsSo_232 : decode cL_areRunsSo 232 = .ok (.istore 5, 2) := by decide +kernel
theorem dL_areRunsSo_234 : decode cL_areRunsSo 234 = .ok (.iinc 10 1, 3) := by decide +kernel
theorem dL_areRunsSo_237 : decode cL_areRunsSo 237 = .ok (.goto (-216), 3) := by decide +kernel
theorem dL_areRunsSo_240 : decode cL_areRunsSo 240 = .ok (.iload 9, 2) := by decide +kernel
theorem dL_areRunsSo_242 : decode cL_areRunsSo 242 = .ok (.ifCond .eq 39, 3) := by decide +kernel
theorem dL_areRunsSo_245 : decode cL_areRunsSo 245 = .ok (.aload_n 0, 1) := by decide +kernel
theorem dL_areRunsSo_246 : decode cL_areRunsSo 246 = .ok (.iload_n 1, 1) := by decide +kernel
theorem dL_areRunsSo_247 : decode cL_areRunsSo 247 = .ok (.iload_n 2, 1) := by decide +kernel
theorem dL_areRunsSo_248 : decode cL_areRunsSo 248 = .ok (.iload_n 3, 1) := by decide +kernel
theorem dL_areRunsSo_249 : decode cL_areRunsSo 249 = .ok (.invokevirtual 64, 3) := by decide +kernel
theorem dL_areRunsSo_252 : decode cL_areRunsSo 252 = .ok (.iload 6, 2) := by decide +kernel
theorem dL_areRunsSo_254 : decode cL_areRunsSo 254 = .ok (.if_icmp .ne 27, 3) := by decide +kernel
theorem dL_areRunsSo_257 : decode cL_areRunsSo 257 = .ok (.iload 4, 2) := by decide +kernel
theorem dL_areRunsSo_259 : decode cL_areRunsSo 259 = .ok (.bipush 60, 2) := by decide +kernel
theorem dL_areRunsSo_261 : decode cL_areRunsSo 261 = .ok (.if_icmp .eq 16, 3) := by decide +kernel
theorem dL_areRunsSo_264 : decode cL_areRunsSo 264 = .ok (.aload_n 0, 1) := by decide +kernel
theorem dL_areRunsSo_265 : decode cL_areRunsSo 265 = .ok (.iload_n 1, 1) := by decide +kernel
theorem dL_areRunsSo_266 : decode cL_areRunsSo 266 = .ok (.iload_n 2, 1) := by decide +kernel
theorem dL_areRunsSo_267 : decode cL_areRunsSo 267 = .ok (.iload 4, 2) := by decide +kernel
theorem dL_areRunsSo_269 : decode cL_areRunsSo 269 = .ok (.iload_n 3, 1) := by decide +kernel
theorem dL_areRunsSo_270 : decode cL_areRunsSo 270 = .ok (.invokevirtual 67, 3) := by decide +kernel
theorem dL_areRunsSo_273 : decode cL_areRunsSo 273 = .ok (.iconst (-1), 1) := by decide +kernel
theorem dL_areRunsSo_274 : decode cL_areRunsSo 274 = .ok (.if_icmp .ne 7, 3) := by decide +kernel
theorem dL_areRunsSo_277 : decode cL_areRunsSo 277 = .ok (.iconst 1, 1) := by decide +kernel
theorem dL_areRunsSo_278 : decode cL_areRunsSo 278 = .ok (.goto 4, 3) := by decide +kernel
theorem dL_areRunsSo_281 : decode cL_areRunsSo 281 = .ok (.iconst 0, 1) := by decide +kernel
theorem dL_areRunsSo_282 : decode cL_areRunsSo 282 = .ok (.istore 9, 2) := by decide +kernel
theorem dL_areRunsSo_284 : decode cL_areRunsSo 284 = .ok (.iload 9, 2) := by decide +kernel
theorem dL_areRunsSo_286 : decode cL_areRunsSo 286 = .ok (.ifCond .eq 58, 3) := by decide +kernel
theorem dL_areRunsSo_289 : decode cL_areRunsSo 289 = .ok (.iload_n 1, 1) := by decide +kernel
theorem dL_areRunsSo_290 : decode cL_areRunsSo 290 = .ok (.iconst 1, 1) := by decide +kernel
theorem dL_areRunsSo_291 : decode cL_areRunsSo 291 = .ok (.if_icmp .ne 22, 3) := by decide +kernel
theorem dL_areRunsSo_294 : decode cL_areRunsSo 294 = .ok (.aload_n 0, 1) := by decide +kernel
theorem dL_areRunsSo_295 : decode cL_areRunsSo 295 = .ok (.iload_n 2, 1) := by decide +kernel
theorem dL_areRunsSo_296 : decode cL_areRunsSo 296 = .ok (.iload_n 3, 1) := by decide +kernel
theorem dL_areRunsSo_297 : decode cL_areRunsSo 297 = .ok (.invokevirtual 79, 3) := by decide +kernel
theorem dL_areRunsSo_300 : decode cL_areRunsSo 300 = .ok (.aload_n 0, 1) := by decide +kernel
theorem dL_areRunsSo_301 : decode cL_areRunsSo 301 = .ok (.iconst 1, 1) := by decide +kernel
theorem dL_areRunsSo_302 : decode cL_areRunsSo 302 = .ok (.iload_n 2, 1) := by decide +kernel
theorem dL_areRunsSo_303 : decode cL_areRunsSo 303 = .ok (.iload_n 3, 1) := by decide +kernel
theorem dL_areRunsSo_304 : decode cL_areRunsSo 304 = .ok (.invokevirtual 61, 3) := by decide +kernel
theorem dL_areRunsSo_307 : decode cL_areRunsSo 307 = .ok (.if_icmp .lt 37, 3) := by decide +kernel
theorem dL_areRunsSo_310 : decode cL_areRunsSo 310 = .ok (.goto 30, 3) := by decide +kernel
theorem dL_areRunsSo_313 : decode cL_areRunsSo 313 = .ok (.aload_n 0, 1) := by decide +kernel
theorem dL_areRunsSo_314 : decode cL_areRunsSo 314 = .ok (.iload_n 2, 1) := by decide +kernel
theorem dL_areRunsSo_315 : decode cL_areRunsSo 315 = .ok (.iload_n 3, 1) := by decide +kernel
theorem dL_areRunsSo_316 : decode cL_areRunsSo 316 = .ok (.invokestatic 82, 3) := by decide +kernel
theorem dL_areRunsSo_319 : decode cL_areRunsSo 319 = .ok (.iload 7, 2) := by decide +kernel
theorem dL_areRunsSo_321 : decode cL_areRunsSo 321 = .ok (.ifCond .ne 8, 3) := by decide +kernel
theorem dL_areRunsSo_324 : decode cL_areRunsSo 324 = .ok (.ldc 43, 2) := by decide +kernel
theorem dL_areRunsSo_326 : decode cL_areRunsSo 326 = .ok (.goto 10, 3) := by decide +kernel
theorem dL_areRunsSo_329 : decode cL_areRunsSo 329 = .ok (.iload 8, 2) := by decide +kernel
theorem dL_areRunsSo_331 : decode cL_areRunsSo 331 = .ok (.i2f, 1) := by decide +kernel
theorem dL_areRunsSo_332 : decode cL_areRunsSo 332 = .ok (.iload 7, 2) := by decide +kernel
theorem dL_areRunsSo_334 : decode cL_areRunsSo 334 = .ok (.i2f, 1) := by decide +kernel
theorem dL_areRunsSo_335 : decode cL_areRunsSo 335 = .ok (.fdiv, 1) := by decide +kernel
theorem dL_areRunsSo_336 : decode cL_areRunsSo 336 = .ok (.fcmp .l, 1) := by decide +kernel
theorem dL_areRunsSo_337 : decode cL_areRunsSo 337 = .ok (.ifCond .ne 7, 3) := by decide +kernel
theorem dL_areRunsSo_340 : decode cL_areRunsSo 340 = .ok (.iconst 1, 1) := by decide +kernel
theorem dL_areRunsSo_341 : decode cL_areRunsSo 341 = .ok (.goto 4, 3) := by decide +kernel
theorem dL_areRunsSo_344 : decode cL_areRunsSo 344 = .ok (.iconst 0, 1) := by decide +kernel
theorem dL_areRunsSo_345 : decode cL_areRunsSo 345 = .ok (.ireturn, 1) := by decide +kernel
theorem dL_areRowsSo_0 : decode cL_areRowsSo 0 = .ok (.aload_n 0, 1) := by decide +kernel
theorem dL_areRowsSo_1 : decode cL_areRowsSo 1 = .ok (.iload_n 1, 1) := by decide +kernel
theorem dL_areRowsSo_2 : decode cL_areRowsSo 2 = .ok (.iload_n 2, 1) := by decide +kernel
theorem dL_areRowsSo_3 : decode cL_areRowsSo 3 = .ok (.invokevirtual 58, 3) := by decide +kernel
theorem dL_areRowsSo_6 : decode cL_areRowsSo 6 = .ok (.istore_n 3, 1) := by decide +kernel
theorem dL_areRowsSo_7 : decode cL_areRowsSo 7 = .ok (.iconst 0, 1) := by decide +kernel
theorem dL_areRowsSo_8 : decode cL_areRowsSo 8 = .ok (.istore 4, 2) := by decide +kernel
theorem dL_areRowsSo_10 : decode cL_areRowsSo 10 = .ok (.aload_n 0, 1) := by decide +kernel
theorem dL_areRowsSo_11 : decode cL_areRowsSo 11 = .ok (.iload_n 1, 1) := by decide +kernel
theorem dL_areRowsSo_12 : decode cL_areRowsSo 12 = .ok (.iload_n 2, 1) := by decide +kernel
theorem dL_areRowsSo_13 : decode cL_areRowsSo 13 = .ok (.iload_n 3, 1) := by decide +kernel
theorem dL_areRowsSo_14 : decode cL_areRowsSo 14 = .ok (.invokestatic 85, 3) := by decide +kernel
theorem dL_areRowsSo_17 : decode cL_areRowsSo 17 = .ok (.ldc 31, 2) := by decide +kernel
theorem dL_areRowsSo_19 : decode cL_areRowsSo 19 = .ok (.if_icmp .ne 19, 3) := by decide +kernel
theorem dL_areRowsSo_22 : decode cL_areRowsSo 22 = .ok (.aload_n 0, 1) := by decide +kernel
theorem dL_areRowsSo_23 : decode cL_areRowsSo 23 = .ok (.iload_n 1, 1) := by decide +kernel
theorem dL_areRowsSo_24 : decode cL_areRowsSo 24 = .ok (.iload_n 2, 1) := by decide +kernel
theorem dL_areRowsSo_25 : decode cL_areRowsSo 25 = .ok (.iconst (-1), 1) := by decide +kernel
theorem dL_areRowsSo_26 : decode cL_areRowsSo 26 = .ok (.invokestatic 85, 3) := by decide +kernel
theorem dL_areRowsSo_29 : decode cL_areRowsSo 29 = .ok (.ldc 31, 2) := by decide +kernel
theorem dL_areRowsSo_31 : decode cL_areRowsSo 31 = .ok (.if_icmp .ne 7, 3) := by decide +kernel
theorem dL_areRowsSo_34 : decode cL_areRowsSo 34 = .ok (.iconst 1, 1) := by decide +kernel
theorem dL_areRowsSo_35 : decode cL_areRowsSo 35 = .ok (.goto 4, 3) := by decide +kernel
theorem dL_areRowsSo_38 : decode cL_areRowsSo 38 = .ok (.iconst 0, 1) := by decide +kernel
theorem dL_areRowsSo_39 : decode cL_areRowsSo 39 = .ok (.istore 5, 2) := by decide +kernel
theorem dL_areRowsSo_41 : decode cL_areRowsSo 41 = .ok (.iconst 0, 1) := by decide +kernel
theorem dL_areRowsSo_42 : decode cL_areRowsSo 42 = .ok (.istore 6, 2) := by decide +kernel
theorem dL_areRowsSo_44 : decode cL_areRowsSo 44 = .ok (.iload 6, 2) := by decide +kernel
theorem dL_areRowsSo_46 : decode cL_areRowsSo 46 = .ok (.iload_n 3, 1) := by decide +kernel
theorem dL_areRowsSo_47 : decode cL_areRowsSo 47 = .ok (.if_icmp .ge 198, 3) := by decide +kernel
theorem dL_areRowsSo_50 : decode cL_areRowsSo 50 = .ok (.iload 5, 2) := by decide +kernel
theorem dL_areRowsSo_52 : decode cL_areRowsSo 52 = .ok (.ifCond .eq 193, 3) := by decide +kernel
theorem dL_areRowsSo_55 : decode cL_areRowsSo 55 = .ok (.aload_n 0, 1) := by decide +kernel
theorem dL_areRowsSo_56 : decode cL_areRowsSo 56 = .ok (.iload_n 1, 1) := by decide +kernel
theorem dL_areRowsSo_57 : decode cL_areRowsSo 57 = .ok (.iload_n 2, 1) := by decide +kernel
theorem dL_areRowsSo_58 : decode cL_areRowsSo 58 = .ok (.iload 6, 2) := by decide +kernel
theorem dL_areRowsSo_60 : decode cL_areRowsSo 60 = .ok (.invokevirtual 36, 3) := by decide +kernel
theorem dL_areRowsSo_63 : decode cL_areRowsSo 63 = .ok (.istore 7, 2) := by decide +kernel
theorem dL_areRowsSo_65 : decode cL_areRowsSo 65 = .ok (.aload_n 0, 1) := by decide +kernel
theorem dL_areRowsSo_66 : decode cL_areRowsSo 66 = .ok (.iload_n 1, 1) := by decide +kernel
theorem dL_areRowsSo_67 : decode cL_areRowsSo 67 = .ok (.iload_n 2, 1) := by decide +kernel
theorem dL_areRowsSo_68 : decode cL_areRowsSo 68 = .ok (.iload 6, 2) := by decide +kernel
theorem dL_areRowsSo_70 : decode cL_areRowsSo 70 = .ok (.invokevirtual 88, 3) := by decide +kernel
theorem dL_areRowsSo_73 : decode cL_areRowsSo 73 = .ok (.istore 8, 2) := by decide +kernel
theorem dL_areRowsSo_75 : decode cL_areRowsSo 75 = .ok (.aload_n 0, 1) := by decide +kernel
theorem dL_areRowsSo_76 : decode cL_areRowsSo 76 = .ok (.iload_n 1, 1) := by decide +kernel
theorem dL_areRowsSo_77 : decode cL_areRowsSo 77 = .ok (.iload_n 2, 1) := by decide +kernel
theorem dL_areRowsSo_78 : decode cL_areRowsSo 78 = .ok (.iload 6, 2) := by decide +kernel
theorem dL_areRowsSo_80 : decode cL_areRowsSo 80 = .ok (.invokevirtual 91, 3) := by decide +kernel
theorem dL_areRowsSo_83 : decode cL_areRowsSo 83 = .ok (.istore 9, 2) := by decide +kernel
theorem dL_areRowsSo_85 : decode cL_areRowsSo 85 = .ok (.iload 9, 2) := by decide +kernel
theorem dL_areRowsSo_87 : decode cL_areRowsSo 87 = .ok (.ifCond .ge 12, 3) := by decide +kernel
theorem dL_areRowsSo_90 : decode cL_areRowsSo 90 = .ok (.aload_n 0, 1) := by decide +kernel
theorem dL_areRowsSo_91 : decode cL_areRowsSo 91 = .ok (.invokevirtual 54, 3) := by decide +kernel
theorem dL_areRowsSo_94 : decode cL_areRowsSo 94 = .ok (.iconst 1, 1) := by decide +kernel
theorem dL_areRowsSo_95 : decode cL_areRowsSo 95 = .ok (.iadd, 1) := by decide +kernel
theorem dL_areRowsSo_96 : decode cL_areRowsSo 96 = .ok (.goto 5, 3) := by decide +kernel
theorem dL_areRowsSo_99 : decode cL_areRowsSo 99 = .ok (.iload 9, 2) := by decide +kernel
theorem dL_areRowsSo_101 : decode cL_areRowsSo 101 = .ok (.istore 10, 2) := by decide +kernel
theorem dL_areRowsSo_103 : decode cL_areRowsSo 103 = .ok (.iload 4, 2) := by decide +kernel
theorem dL_areRowsSo_105 : decode cL_areRowsSo 105 = .ok (.iload 10, 2) := by decide +kernel
theorem dL_areRowsSo_107 : decode cL_areRowsSo 107 = .ok (.iload 8, 2) := by decide +kernel
theorem dL_areRowsSo_109 : decode cL_areRowsSo 109 = .ok (.isub, 1) := by decide +kernel
theorem dL_areRowsSo_110 : decode cL_areRowsSo 110 = .ok (.iadd, 1) := by decide +kernel
theorem dL_areRowsSo_111 : decode cL_areRowsSo 111 = .ok (.istore 4, 2) := by decide +kernel
theorem dL_areRowsSo_113 : decode cL_areRowsSo 113 = .ok (.iload 8, 2) := by decide +kernel
theorem dL_areRowsSo_115 : decode cL_areRowsSo 115 = .ok (.ifCond .lt 121, 3) := by decide +kernel
theorem dL_areRowsSo_118 : decode cL_areRowsSo 118 = .ok (.iload 8, 2) := by decide +kernel
theorem dL_areRowsSo_120 : decode cL_areRowsSo 120 = .ok (.iload 10, 2) := by decide +kernel
theorem dL_areRowsSo_122 : decode cL_areRowsSo 122 = .ok (.if_icmp .ge 114, 3) := by decide +kernel
theorem dL_areRowsSo_125 : decode cL_areRowsSo 125 = .ok (.iload 10, 2) := by decide +kernel
theorem dL_areRowsSo_127 : decode cL_areRowsSo 127 = .ok (.aload_n 0, 1) := by decide +kernel
theorem dL_areRowsSo_128 : decode cL_areRowsSo 128 = .ok (.invokevirtual 54, 3) := by decide +kernel
theorem dL_areRowsSo_131 : decode cL_areRowsSo 131 = .ok (.iconst 1, 1) := by decide +kernel
theorem dL_areRowsSo_132 : decode cL_areRowsSo 132 = .ok (.iadd, 1) := by decide +kernel
theorem dL_areRowsSo_133 : decode cL_areRowsSo 133 = .ok (.if_icmp .gt 103, 3) := by decide +kernel
theorem dL_areRowsSo_136 : decode cL_areRowsSo 136 = .ok (.iload 9, 2) := by decide +kernel
theorem dL_areRowsSo_138 : decode cL_areRowsSo 138 = .ok (.ifCond .ge 7, 3) := by decide +kernel
theorem dL_areRowsSo_141 : decode cL_areRowsSo 141 = .ok (.iconst 1, 1) := by decide +kernel
theorem dL_areRowsSo_142 : decode cL_areRowsSo 142 = .ok (.goto 4, 3) := by decide +kernel
theorem dL_areRowsSo_145 : decode cL_areRowsSo 145 = .ok (.iconst 0, 1) := by decide +kernel
theorem dL_areRowsSo_146 : decode cL_areRowsSo 146 = .ok (.aload_n 0, 1) := by decide +kernel
theorem dL_areRowsSo_147 : decode cL_areRowsSo 147 = .ok (.iload_n 1, 1) := by decide +kernel
theorem dL_areRowsSo_148 : decode cL_areRowsSo 148 = .ok (.iload_n 2, 1) := by decide +kernel
theorem dL_areRowsSo_149 : decode cL_areRowsSo 149 = .ok (.aload_n 0, 1) := by decide +kernel
theorem dL_areRowsSo_150 : decode cL_areRowsSo 150 = .ok (.invokevirtual 54, 3) := by decide +kernel
theorem dL_areRowsSo_153 : decode cL_areRowsSo 153 = .ok (.iload 7, 2) := by decide +kernel
theorem dL_areRowsSo_155 : decode cL_areRowsSo 155 = .ok (.iload 8, 2) := by decide +kernel
theorem dL_areRowsSo_157 : decode cL_areRowsSo 157 = .ok (.iload 10, 2) := by decide +kernel
theorem dL_areRowsSo_159 : decode cL_areRowsSo 159 = .ok (.invokestatic 94, 3) := by decide +kernel
theorem dL_areRowsSo_162 : decode cL_areRowsSo 162 = .ok (.if_icmp .ne 74, 3) := by decide +kernel
theorem dL_areRowsSo_165 : decode cL_areRowsSo 165 = .ok (.aload_n 0, 1) := by decide +kernel
theorem dL_areRowsSo_166 : decode cL_areRowsSo 166 = .ok (.iload_n 1, 1) := by decide +kernel
theorem dL_areRowsSo_167 : decode cL_areRowsSo 167 = .ok (.iload_n 2, 1) := by decide +kernel
theorem dL_areRowsSo_168 : decode cL_areRowsSo 168 = .ok (.iload 8, 2) := by decide +kernel
theorem dL_areRowsSo_170 : decode cL_areRowsSo 170 = .ok (.iload 7, 2) := by decide +kernel
theorem dL_areRowsSo_172 : decode cL_areRowsSo 172 = .ok (.iload 8, 2) := by decide +kernel
theorem dL_areRowsSo_174 : decode cL_areRowsSo 174 = .ok (.iload 10, 2) := by decide +kernel
theorem dL_areRowsSo_176 : decode cL_areRowsSo 176 = .ok (.invokestatic 94, 3) := by decide +kernel
theorem dL_areRowsSo_179 : decode cL_areRowsSo 179 = .ok (.ifCond .eq 57, 3) := by decide +kernel
theorem dL_areRowsSo_182 : decode cL_areRowsSo 182 = .ok (.iload 8, 2) := by decide +kernel
theorem dL_areRowsSo_184 : decode cL_areRowsSo 184 = .ok (.ifCond .le 24, 3) := by decide +kernel
theorem dL_areRowsSo_187 : decode cL_areRowsSo 187 = .ok (.aload_n 0, 1) := by decide +kernel
theorem dL_areRowsSo_188 : decode cL_areRowsSo 188 = .ok (.iload_n 1, 1) := by decide +kernel
theorem dL_areRowsSo_189 : decode cL_areRowsSo 189 = .ok (.iload_n 2, 1) := by decide +kernel
theorem dL_areRowsSo_190 : decode cL_areRowsSo 190 = .ok (.iload 8, 2) := by decide +kernel
theorem dL_areRowsSo_192 : decode cL_areRowsSo 192 = .ok (.iconst 1, 1) := by decide +kernel
theorem dL_areRowsSo_193 : decode cL_areRowsSo 193 = .ok (.isub, 1) := by decide +kernel
theorem dL_areRowsSo_194 : decode cL_areRowsSo 194 = .ok (.iload 7, 2) := by decide +kernel
theorem dL_areRowsSo_196 : decode cL_areRowsSo 196 = .ok (.iload 8, 2) := by decide +kernel
theorem dL_areRowsSo_198 : decode cL_areRowsSo 198 = .ok (.iconst 1, 1) := by decide +kernel
theorem dL_areRowsSo_199 : decode cL_areRowsSo 199 = .ok (.isub, 1) := by decide +kernel
theorem dL_areRowsSo_200 : decode cL_areRowsSo 200 = .ok (.iload 10, 2) := by decide +kernel
theorem dL_areRowsSo_202 : decode cL_areRowsSo 202 = .ok (.invokestatic 94, 3) := by decide +kernel
theorem dL_areRowsSo_205 : decode cL_areRowsSo 205 = .ok (.ifCond .ne 31, 3) := by decide +kernel
theorem dL_areRowsSo_208 : decode cL_areRowsSo 208 = .ok (.iload 9, 2) := by decide +kernel
theorem dL_areRowsSo_210 : decode cL_areRowsSo 210 = .ok (.ifCond .lt 22, 3) := by decide +kernel
theorem dL_areRowsSo_213 : decode cL_areRowsSo 213 = .ok (.aload_n 0, 1) := by decide +kernel
theorem dL_areRowsSo_214 : decode cL_areRowsSo 214 = .ok (.iload_n 1, 1) := by decide +kernel
theorem dL_areRowsSo_215 : decode cL_areRowsSo 215 = .ok (.iload_n 2, 1) := by decide +kernel
theorem dL_areRowsSo_216 : decode cL_areRowsSo 216 = .ok (.iload 9, 2) := by decide +kernel
theorem dL_areRowsSo_218 : decode cL_areRowsSo 218 = .ok (.iload 7, 2) := by decide +kernel
theorem dL_areRowsSo_220 : decode cL_areRowsSo 220 = .ok (.iload 8, 2) := by decide +kernel
theorem dL_areRowsSo_222 : decode cL_areRowsSo 222 = .ok (.iload 9, 2) := by decide +kernel
theorem dL_areRowsSo_224 : decode cL_areRowsSo 224 = .ok (.iconst 1, 1) := by decide +kernel
theorem dL_areRowsSo_225 : decode cL_areRowsSo 225 = .ok (.iadd, 1) := by decide +kernel
theorem dL_areRowsSo_226 : decode cL_areRowsSo 226 = .ok (.invokestatic 94, 3) := by decide +kernel
theorem dL_areRowsSo_229 : decode cL_areRowsSo 229 = .ok (.ifCond .ne 7, 3) := by decide +kernel
theorem dL_areRowsSo_232 : decode cL_areRowsSo 232 = .ok (.iconst 1, 1) := by decide +kernel
theorem dL_areRowsSo_233 : decode cL_areRowsSo 233 = .ok (.goto 4, 3) := by decide +kernel
theorem dL_areRowsSo_236 : decode cL_areRowsSo 236 = .ok (.iconst 0, 1) := by decide +kernel
theorem dL_areRowsSo_237 : decode cL_areRowsSo 237 = .ok (.istore 5, 2) := by decide +kernel
theorem dL_areRowsSo_239 : decode cL_areRowsSo 239 = .ok (.iinc 6 1, 3) := by decide +kernel
theorem dL_areRowsSo_242 : decode cL_areRowsSo 242 = .ok (.goto (-198), 3) := by decide +kernel
theorem dL_areRowsSo_245 : decode cL_areRowsSo 245 = .ok (.iconst 0, 1) := by decide +kernel
theorem dL_areRowsSo_246 : decode cL_areRowsSo 246 = .ok (.istore 6, 2) := by decide +kernel
theorem dL_areRowsSo_248 : decode cL_areRowsSo 248 = .ok (.iload 6, 2) := by decide +kernel
theorem dL_areRowsSo_250 : decode cL_areRowsSo 250 = .ok (.aload_n 0, 1) := by decide +kernel
theorem dL_areRowsSo_251 : decode cL_areRowsSo 251 = .ok (.invokevirtual 54, 3) := by decide +kernel
theorem dL_areRowsSo_254 : decode cL_areRowsSo 254 = .ok (.if_icmp .gt 22, 3) := by decide +kernel
theorem dL_areRowsSo_257 : decode cL_areRowsSo 257 = .ok (.iload 4, 2) := by decide +kernel
theorem dL_areRowsSo_259 : decode cL_areRowsSo 259 = .ok (.aload_n 0, 1) := by decide +kernel
theorem dL_areRowsSo_260 : decode cL_areRowsSo 260 = .ok (.iload_n 1, 1) := by decide +kernel
theorem dL_areRowsSo_261 : decode cL_areRowsSo 261 = .ok (.iload_n 2, 1) := by decide +kernel
theorem dL_areRowsSo_262 : decode cL_areRowsSo 262 = .ok (.iload 6, 2) := by decide +kernel
theorem dL_areRowsSo_264 : decode cL_areRowsSo 264 = .ok (.invokevirtual 61, 3) := by decide +kernel
theorem dL_areRowsSo_267 : decode cL_areRowsSo 267 = .ok (.isub, 1) := by decide +kernel
theorem dL_areRowsSo_268 : decode cL_areRowsSo 268 = .ok (.istore 4, 2) := by decide +kernel
theorem dL_areRowsSo_270 : decode cL_areRowsSo 270 = .ok (.iinc 6 1, 3) := by decide +kernel
theorem dL_areRowsSo_273 : decode cL_areRowsSo 273 = .ok (.goto (-25), 3) := by decide +kernel
theorem dL_areRowsSo_276 : decode cL_areRowsSo 276 = .ok (.iload 5, 2) := by decide +kernel
theorem dL_areRowsSo_278 : decode cL_areRowsSo 278 = .ok (.ifCond .eq 12, 3) := by decide +kernel
theorem dL_areRowsSo_281 : decode cL_areRowsSo 281 = .ok (.iload 4, 2) := by decide +kernel
theorem dL_areRowsSo_283 : decode cL_areRowsSo 283 = .ok (.ifCond .ne 7, 3) := by decide +kernel
theorem dL_areRowsSo_286 : decode cL_areRowsSo 286 = .ok (.iconst 1, 1) := by decide +kernel
theorem dL_areRowsSo_287 : decode cL_areRowsSo 287 = .ok (.goto 4, 3) := by decide +kernel
theorem dL_areRowsSo_290 : decode cL_areRowsSo 290 = .ok (.iconst 0, 1) := by decide +kernel
theorem dL_areRowsSo_291 : decode cL_areRowsSo 291 = .ok (.ireturn, 1) := by decide +kernel
theorem dL_hasRun_0 : decode cL_hasRun 0 = .ok (.iconst 0, 1) := by decide +kernel
theorem dL_hasRun_1 : decode cL_hasRun 1 = .ok (.istore 7, 2) := by decide +kernel
theorem dL_hasRun_3 : decode cL_hasRun 3 = .ok (.iconst 0, 1) := by decide +kernel
theorem dL_hasRun_4 : decode cL_hasRun 4 = .ok (.istore 8, 2) := by decide +kernel
theorem dL_hasRun_6 : decode cL_hasRun 6 = .ok (.iload 8, 2) := by decide +kernel
theorem dL_hasRun_8 : decode cL_hasRun 8 = .ok (.aload_n 0, 1) := by decide +kernel
theorem dL_hasRun_9 : decode cL_hasRun 9 = .ok (.iload_n 1, 1) := by decide +kernel
theorem dL_hasRun_10 : decode cL_hasRun 10 = .ok (.iload_n 2, 1) := by decide +kernel
theorem dL_hasRun_11 : decode cL_hasRun 11 = .ok (.iload_n 3, 1) := by decide +kernel
theorem dL_hasRun_12 : decode cL_hasRun 12 = .ok (.invokevirtual 61, 3) := by decide +kernel
theorem dL_hasRun_15 : decode cL_hasRun 15 = .ok (.if_icmp .ge 47, 3) := by decide +kernel
theorem dL_hasRun_18 : decode cL_hasRun 18 = .ok (.iload_n 3, 1) := by decide +kernel
theorem dL_hasRun_19 : decode cL_hasRun 19 = .ok (.iload 5, 2) := by decide +kernel
theorem dL_hasRun_21 : decode cL_hasRun 21 = .ok (.if_icmp .lt 41, 3) := by decide +kernel
theorem dL_hasRun_24 : decode cL_hasRun 24 = .ok (.iload_n 3, 1) := by decide +kernel
theorem dL_hasRun_25 : decode cL_hasRun 25 = .ok (.iload 6, 2) := by decide +kernel
theorem dL_hasRun_27 : decode cL_hasRun 27 = .ok (.if_icmp .ge 35, 3) := by decide +kernel
theorem dL_hasRun_30 : decode cL_hasRun 30 = .ok (.iload 7, 2) := by decide +kernel
theorem dL_hasRun_32 : decode cL_hasRun 32 = .ok (.ifCond .ne 17, 3) := by decide +kernel
theorem dL_hasRun_35 : decode cL_hasRun 35 = .ok (.aload_n 0, 1) := by decide +kernel
theorem dL_hasRun_36 : decode cL_hasRun 36 = .ok (.iload_n 1, 1) := by decide +kernel
theorem dL_hasRun_37 : decode cL_hasRun 37 = .ok (.iload_n 2, 1) := by decide +kernel
theorem dL_hasRun_38 : decode cL_hasRun 38 = .ok (.iload_n 3, 1) := by decide +kernel
theorem dL_hasRun_39 : decode cL_hasRun 39 = .ok (.iload 8, 2) := by decide +kernel
theorem dL_hasRun_41 : decode cL_hasRun 41 = .ok (.invokevirtual 76, 3) := by decide +kernel
theorem dL_hasRun_44 : decode cL_hasRun 44 = .ok (.iload 4, 2) := by decide +kernel
theorem dL_hasRun_46 : decode cL_hasRun 46 = .ok (.if_icmp .ne 7, 3) := by decide +kernel
theorem dL_hasRun_49 : decode cL_hasRun 49 = .ok (.iconst 1, 1) := by decide +kernel
theorem dL_hasRun_50 : decode cL_hasRun 50 = .ok (.goto 4, 3) := by decide +kernel
theorem dL_hasRun_53 : decode cL_hasRun 53 = .ok (.iconst 0, 1) := by decide +kernel
theorem dL_hasRun_54 : decode cL_hasRun 54 = .ok (.istore 7, 2) := by decide +kernel
theorem dL_hasRun_56 : decode cL_hasRun 56 = .ok (.iinc 8 1, 3) := by decide +kernel
theorem dL_hasRun_59 : decode cL_hasRun 59 = .ok (.goto (-53), 3) := by decide +kernel
theorem dL_hasRun_62 : decode cL_hasRun 62 = .ok (.iload 7, 2) := by decide +kernel
theorem dL_hasRun_64 : decode cL_hasRun 64 = .ok (.ireturn, 1) := by decide +kernel
theorem dL_isRestoredSo_0 : decode cL_isRestoredSo 0 = .ok (.aload_n 0, 1) := by decide +kernel
theorem dL_isRestoredSo_1 : decode cL_isRestoredSo 1 = .ok (.invokevirtual 54, 3) := by decide +kernel
theorem dL_isRestoredSo_4 : decode cL_isRestoredSo 4 = .ok (.istore 5, 2) := by decide +kernel
theorem dL_isRestoredSo_6 : decode cL_isRestoredSo 6 = .ok (.aload_n 0, 1) := by decide +kernel
theorem dL_isRestoredSo_7 : decode cL_isRestoredSo 7 = .ok (.iload_n 2, 1) := by decide +kernel
theorem dL_isRestoredSo_8 : decode cL_isRestoredSo 8 = .ok (.iload_n 3, 1) := by decide +kernel
theorem dL_isRestoredSo_9 : decode cL_isRestoredSo 9 = .ok (.invokevirtual 58, 3) := by decide +kernel
theorem dL_isRestoredSo_12 : decode cL_isRestoredSo 12 = .ok (.istore 6, 2) := by decide +kernel
theorem dL_isRestoredSo_14 : decode cL_isRestoredSo 14 = .ok (.aload_n 0, 1) := by decide +kernel
theorem dL_isRestoredSo_15 : decode cL_isRestoredSo 15 = .ok (.iconst 3, 1) := by decide +kernel
theorem dL_isRestoredSo_16 : decode cL_isRestoredSo 16 = .ok (.iload_n 2, 1) := by decide +kernel
theorem dL_isRestoredSo_17 : decode cL_isRestoredSo 17 = .ok (.iload_n 3, 1) := by decide +kernel
theorem dL_isRestoredSo_18 : decode cL_isRestoredSo 18 = .ok (.iconst 0, 1) := by decide +kernel
theorem dL_isRestoredSo_19 : decode cL_isRestoredSo 19 = .ok (.iload 4, 2) := by decide +kernel
theorem dL_isRestoredSo_21 : decode cL_isRestoredSo 21 = .ok (.iconst 0, 1) := by decide +kernel
theorem dL_isRestoredSo_22 : decode cL_isRestoredSo 22 = .ok (.invokestatic 50, 3) := by decide +kernel
theorem dL_isRestoredSo_25 : decode cL_isRestoredSo 25 = .ok (.istore 7, 2) := by decide +kernel
theorem dL_isRestoredSo_27 : decode cL_isRestoredSo 27 = .ok (.aload_n 1, 1) := by decide +kernel
theorem dL_isRestoredSo_28 : decode cL_isRestoredSo 28 = .ok (.iconst 3, 1) := by decide +kernel
theorem dL_isRestoredSo_29 : decode cL_isRestoredSo 29 = .ok (.iload_n 2, 1) := by decide +kernel
theorem dL_isRestoredSo_30 : decode cL_isRestoredSo 30 = .ok (.iload_n 3, 1) := by decide +kernel
theorem dL_isRestoredSo_31 : decode cL_isRestoredSo 31 = .ok (.iconst 0, 1) := by decide +kernel
theorem dL_isRestoredSo_32 : decode cL_isRestoredSo 32 = .ok (.iload 4, 2) := by decide +kernel
theorem dL_isRestoredSo_34 : decode cL_isRestoredSo 34 = .ok (.iconst 0, 1) := by decide +kernel
theorem dL_isRestoredSo_35 : decode cL_isRestoredSo 35 = .ok (.invokestatic 50, 3) := by decide +kernel
theorem dL_isRestoredSo_38 : decode cL_isRestoredSo 38 = .ok (.iload 7, 2) := by decide +kernel
theorem dL_isRestoredSo_40 : decode cL_isRestoredSo 40 = .ok (.if_icmp .ne 19, 3) := by decide +kernel
theorem dL_isRestoredSo_43 : decode cL_isRestoredSo 43 = .ok (.iload 4, 2) := by decide +kernel
theorem dL_isRestoredSo_45 : decode cL_isRestoredSo 45 = .ok (.iload 5, 2) := by decide +kernel
theorem dL_isRestoredSo_47 : decode cL_isRestoredSo 47 = .ok (.if_icmp .lt 8, 3) := by decide +kernel
theorem dL_isRestoredSo_50 : decode cL_isRestoredSo 50 = .ok (.iload 7, 2) := by decide +kernel
theorem dL_isRestoredSo_52 : decode cL_isRestoredSo 52 = .ok (.ifCond .ne 7, 3) := by decide +kernel
theorem dL_isRestoredSo_55 : decode cL_isRestoredSo 55 = .ok (.iconst 1, 1) := by decide +kernel
theorem dL_isRestoredSo_56 : decode cL_isRestoredSo 56 = .ok (.goto 4, 3) := by decide +kernel
theorem dL_isRestoredSo_59 : decode cL_isRestoredSo 59 = .ok (.iconst 0, 1) := by decide +kernel
theorem dL_isRestoredSo_60 : decode cL_isRestoredSo 60 = .ok (.istore 8, 2) := by decide +kernel
theorem dL_isRestoredSo_62 : decode cL_isRestoredSo 62 = .ok (.iconst 0, 1) := by decide +kernel
theorem dL_isRestoredSo_63 : decode cL_isRestoredSo 63 = .ok (.istore 9, 2) := by decide +kernel
theorem dL_isRestoredSo_65 : decode cL_isRestoredSo 65 = .ok (.iload 9, 2) := by decide +kernel
theorem dL_isRestoredSo_67 : decode cL_isRestoredSo 67 = .ok (.bipush 60, 2) := by decide +kernel
theorem dL_isRestoredSo_69 : decode cL_isRestoredSo 69 = .ok (.if_icmp .ge 49, 3) := by decide +kernel
theorem dL_isRestoredSo_72 : decode cL_isRestoredSo 72 = .ok (.iload 7, 2) := by decide +kernel
theorem dL_isRestoredSo_74 : decode cL_isRestoredSo 74 = .ok (.ifCond .lt 44, 3) := by decide +kernel
theorem dL_isRestoredSo_77 : decode cL_isRestoredSo 77 = .ok (.iload 8, 2) := by decide +kernel
theorem dL_isRestoredSo_79 : decode cL_isRestoredSo 79 = .ok (.ifCond .eq 39, 3) := by decide +kernel
theorem dL_isRestoredSo_82 : decode cL_isRestoredSo 82 = .ok (.aload_n 0, 1) := by decide +kernel
theorem dL_isRestoredSo_83 : decode cL_isRestoredSo 83 = .ok (.iload_n 2, 1) := by decide +kernel
theorem dL_isRestoredSo_84 : decode cL_isRestoredSo 84 = .ok (.iload_n 3, 1) := by decide +kernel
theorem dL_isRestoredSo_85 : decode cL_isRestoredSo 85 = .ok (.iload 9, 2) := by decide +kernel
theorem dL_isRestoredSo_87 : decode cL_isRestoredSo 87 = .ok (.iload 5, 2) := by decide +kernel
theorem dL_isRestoredSo_89 : decode cL_isRestoredSo 89 = .ok (.invokevirtual 67, 3) := by decide +kernel
theorem dL_isRestoredSo_92 : decode cL_isRestoredSo 92 = .ok (.aload_n 0, 1) := by decide +kernel
theorem dL_isRestoredSo_93 : decode cL_isRestoredSo 93 = .ok (.iload_n 2, 1) := by decide +kernel
theorem dL_isRestoredSo_94 : decode cL_isRestoredSo 94 = .ok (.iload_n 3, 1) := by decide +kernel
theorem dL_isRestoredSo_95 : decode cL_isRestoredSo 95 = .ok (.iload 9, 2) := by decide +kernel
theorem dL_isRestoredSo_97 : decode cL_isRestoredSo 97 = .ok (.iload 4, 2) := by decide +kernel
theorem dL_isRestoredSo_99 : decode cL_isRestoredSo 99 = .ok (.invokevirtual 67, 3) := by decide +kernel
theorem dL_isRestoredSo_102 : decode cL_isRestoredSo 102 = .ok (.if_icmp .ne 7, 3) := by decide +kernel
theorem dL_isRestoredSo_105 : decode cL_isRestoredSo 105 = .ok (.iconst 1, 1) := by decide +kernel
theorem dL_isRestoredSo_106 : decode cL_isRestoredSo 106 = .ok (.goto 4, 3) := by decide +kernel
theorem dL_isRestoredSo_109 : decode cL_isRestoredSo 109 = .ok (.iconst 0, 1) := by decide +kernel
theorem dL_isRestoredSo_110 : decode cL_isRestoredSo 110 = .ok (.istore 8, 2) := by decide +kernel
theorem dL_isRestoredSo_112 : decode cL_isRestoredSo 112 = .ok (.iinc 9 1, 3) := by decide +kernel
theorem dL_isRestoredSo_115 : decode cL_isRestoredSo 115 = .ok (.goto (-50), 3) := by decide +kernel
theorem dL_isRestoredSo_118 : decode cL_isRestoredSo 118 = .ok (.iload 8, 2) := by decide +kernel
theorem dL_isRestoredSo_120 : decode cL_isRestoredSo 120 = .ok (.ifCond .eq 30, 3) := by decide +kernel
theorem dL_isRestoredSo_123 : decode cL_isRestoredSo 123 = .ok (.iload 7, 2) := by decide +kernel
theorem dL_isRestoredSo_125 : decode cL_isRestoredSo 125 = .ok (.ifCond .ne 14, 3) := by decide +kernel
theorem dL_isRestoredSo_128 : decode cL_isRestoredSo 128 = .ok (.aload_n 0, 1) := by decide +kernel
theorem dL_isRestoredSo_129 : decode cL_isRestoredSo 129 = .ok (.iload_n 2, 1) := by decide +kernel
theorem dL_isRestoredSo_130 : decode cL_isRestoredSo 130 = .ok (.iload_n 3, 1) := by decide +kernel
theorem dL_isRestoredSo_131 : decode cL_isRestoredSo 131 = .ok (.invokevirtual 58, 3) := by decide +kernel
theorem dL_isRestoredSo_134 : decode cL_isRestoredSo 134 = .ok (.iload 6, 2) := by decide +kernel
theorem dL_isRestoredSo_136 : decode cL_isRestoredSo 136 = .ok (.if_icmp .ne 14, 3) := by decide +kernel
theorem dL_isRestoredSo_139 : decode cL_isRestoredSo 139 = .ok (.iload 7, 2) := by decide +kernel
theorem dL_isRestoredSo_141 : decode cL_isRestoredSo 141 = .ok (.bipush 60, 2) := by decide +kernel
theorem dL_isRestoredSo_143 : decode cL_isRestoredSo 143 = .ok (.if_icmp .gt 7, 3) := by decide +kernel
theorem dL_isRestoredSo_146 : decode cL_isRestoredSo 146 = .ok (.iconst 1, 1) := by decide +kernel
theorem dL_isRestoredSo_147 : decode cL_isRestoredSo 147 = .ok (.goto 4, 3) := by decide +kernel
theorem dL_isRestoredSo_150 : decode cL_isRestoredSo 150 = .ok (.iconst 0, 1) := by decide +kernel
theorem dL_isRestoredSo_151 : decode cL_isRestoredSo 151 = .ok (.ireturn, 1) := by decide +kernel
theorem dL_law_0 : decode cL_law 0 = .ok (.new 9, 3) := by decide +kernel
theorem dL_law_3 : decode cL_law 3 = .ok (.dup, 1) := by decide +kernel
theorem dL_law_4 : decode cL_law 4 = .ok (.invokespecial 98, 3) := by decide +kernel
theorem dL_law_7 : decode cL_law 7 = .ok (.astore_n 1, 1) := by decide +kernel
theorem dL_law_8 : decode cL_law 8 = .ok (.new 9, 3) := by decide +kernel
theorem dL_law_11 : decode cL_law 11 = .ok (.dup, 1) := by decide +kernel
theorem dL_law_12 : decode cL_law 12 = .ok (.invokespecial 98, 3) := by decide +kernel
theorem dL_law_15 : decode cL_law 15 = .ok (.astore_n 2, 1) := by decide +kernel
theorem dL_law_16 : decode cL_law 16 = .ok (.iconst 0, 1) := by decide +kernel
theorem dL_law_17 : decode cL_law 17 = .ok (.istore_n 3, 1) := by decide +kernel
theorem dL_law_18 : decode cL_law 18 = .ok (.iload_n 3, 1) := by decide +kernel
theorem dL_law_19 : decode cL_law 19 = .ok (.bipush 64, 2) := by decide +kernel
theorem dL_law_21 : decode cL_law 21 = .ok (.if_icmp .ge 179, 3) := by decide +kernel
theorem dL_law_24 : decode cL_law 24 = .ok (.aload_n 0, 1) := by decide +kernel
theorem dL_law_25 : decode cL_law 25 = .ok (.iload_n 3, 1) := by decide +kernel
theorem dL_law_26 : decode cL_law 26 = .ok (.invokestatic 99, 3) := by decide +kernel
theorem dL_law_29 : decode cL_law 29 = .ok (.istore 4, 2) := by decide +kernel
theorem dL_law_31 : decode cL_law 31 = .ok (.aload_n 1, 1) := by decide +kernel
theorem dL_law_32 : decode cL_law 32 = .ok (.iload 4, 2) := by decide +kernel
theorem dL_law_34 : decode cL_law 34 = .ok (.invokestatic 103, 3) := by decide +kernel
theorem dL_law_37 : decode cL_law 37 = .ok (.istore 5, 2) := by decide +kernel
theorem dL_law_39 : decode cL_law 39 = .ok (.iload 5, 2) := by decide +kernel
theorem dL_law_41 : decode cL_law 41 = .ok (.ldc 31, 2) := by decide +kernel
theorem dL_law_43 : decode cL_law 43 = .ok (.if_icmp .eq 14, 3) := by decide +kernel
theorem dL_law_46 : decode cL_law 46 = .ok (.aload_n 2, 1) := by decide +kernel
theorem dL_law_47 : decode cL_law 47 = .ok (.iload 4, 2) := by decide +kernel
theorem dL_law_49 : decode cL_law 49 = .ok (.invokestatic 103, 3) := by decide +kernel
theorem dL_law_52 : decode cL_law 52 = .ok (.iload 5, 2) := by decide +kernel
theorem dL_law_54 : decode cL_law 54 = .ok (.if_icmp .ne 47, 3) := by decide +kernel
theorem dL_law_57 : decode cL_law 57 = .ok (.iload_n 3, 1) := by decide +kernel
theorem dL_law_58 : decode cL_law 58 = .ok (.bipush 6, 2) := by decide +kernel
theorem dL_law_60 : decode cL_law 60 = .ok (.irem, 1) := by decide +kernel
theorem dL_law_61 : decode cL_law 61 = .ok (.iconst 3, 1) := by decide +kernel
theorem dL_law_62 : decode cL_law 62 = .ok (.if_icmp .ne 11, 3) := by decide +kernel
theorem dL_law_65 : decode cL_law 65 = .ok (.aload_n 1, 1) := by decide +kernel
theorem dL_law_66 : decode cL_law 66 = .ok (.aload_n 2, 1) := by decide +kernel
theorem dL_law_67 : decode cL_law 67 = .ok (.invokestatic 107, 3) := by decide +kernel
theorem dL_law_70 : decode cL_law 70 = .ok (.ifCond .eq 31, 3) := by decide +kernel
theorem dL_law_73 : decode cL_law 73 = .ok (.iload_n 3, 1) := by decide +kernel
theorem dL_law_74 : decode cL_law 74 = .ok (.iconst 5, 1) := by decide +kernel
theorem dL_law_75 : decode cL_law 75 = .ok (.irem, 1) := by decide +kernel
theorem dL_law_76 : decode cL_law 76 = .ok (.iconst 2, 1) := by decide +kernel
theorem dL_law_77 : decode cL_law 77 = .ok (.if_icmp .ne 26, 3) := by decide +kernel
theorem dL_law_80 : decode cL_law 80 = .ok (.aload_n 1, 1) := by decide +kernel
theorem dL_law_81 : decode cL_law 81 = .ok (.iload 4, 2) := by decide +kernel
theorem dL_law_83 : decode cL_law 83 = .ok (.bipush 7, 2) := by decide +kernel
theorem dL_law_85 : decode cL_law 85 = .ok (.ishr, 1) := by decide +kernel
theorem dL_law_86 : decode cL_law 86 = .ok (.aload_n 1, 1) := by decide +kernel
theorem dL_law_87 : decode cL_law 87 = .ok (.invokevirtual 54, 3) := by decide +kernel
theorem dL_law_90 : decode cL_law 90 = .ok (.iconst 1, 1) := by decide +kernel
theorem dL_law_91 : decode cL_law 91 = .ok (.iadd, 1) := by decide +kernel
theorem dL_law_92 : decode cL_law 92 = .ok (.invokestatic 44, 3) := by decide +kernel
theorem dL_law_95 : decode cL_law 95 = .ok (.invokestatic 111, 3) := by decide +kernel
theorem dL_law_98 : decode cL_law 98 = .ok (.ifCond .ne 5, 3) := by decide +kernel
theorem dL_law_101 : decode cL_law 101 = .ok (.iconst 0, 1) := by decide +kernel
theorem dL_law_102 : decode cL_law 102 = .ok (.ireturn, 1) := by decide +kernel
theorem dL_law_103 : decode cL_law 103 = .ok (.iload_n 3, 1) := by decide +kernel
theorem dL_law_104 : decode cL_law 104 = .ok (.iconst 3, 1) := by decide +kernel
theorem dL_law_105 : decode cL_law 105 = .ok (.irem, 1) := by decide +kernel
theorem dL_law_106 : decode cL_law 106 = .ok (.iconst 1, 1) := by decide +kernel
theorem dL_law_107 : decode cL_law 107 = .ok (.if_icmp .ne 40, 3) := by decide +kernel
theorem dL_law_110 : decode cL_law 110 = .ok (.aload_n 1, 1) := by decide +kernel
theorem dL_law_111 : decode cL_law 111 = .ok (.iload 4, 2) := by decide +kernel
theorem dL_law_113 : decode cL_law 113 = .ok (.bipush 6, 2) := by decide +kernel
theorem dL_law_115 : decode cL_law 115 = .ok (.ishr, 1) := by decide +kernel
theorem dL_law_116 : decode cL_law 116 = .ok (.iconst 1, 1) := by decide +kernel
theorem dL_law_117 : decode cL_law 117 = .ok (.iand, 1) := by decide +kernel
theorem dL_law_118 : decode cL_law 118 = .ok (.iload 4, 2) := by decide +kernel
theorem dL_law_120 : decode cL_law 120 = .ok (.bipush 9, 2) := by decide +kernel
theorem dL_law_122 : decode cL_law 122 = .ok (.ishr, 1) := by decide +kernel
theorem dL_law_123 : decode cL_law 123 = .ok (.iconst 4, 1) := by decide +kernel
theorem dL_law_124 : decode cL_law 124 = .ok (.invokestatic 44, 3) := by decide +kernel
theorem dL_law_127 : decode cL_law 127 = .ok (.iload 4, 2) := by decide +kernel
theorem dL_law_129 : decode cL_law 129 = .ok (.bipush 11, 2) := by decide +kernel
theorem dL_law_131 : decode cL_law 131 = .ok (.ishr, 1) := by decide +kernel
theorem dL_law_132 : decode cL_law 132 = .ok (.aload_n 1, 1) := by decide +kernel
theorem dL_law_133 : decode cL_law 133 = .ok (.invokevirtual 54, 3) := by decide +kernel
theorem dL_law_136 : decode cL_law 136 = .ok (.iconst 1, 1) := by decide +kernel
theorem dL_law_137 : decode cL_law 137 = .ok (.iadd, 1) := by decide +kernel
theorem dL_law_138 : decode cL_law 138 = .ok (.invokestatic 44, 3) := by decide +kernel
theorem dL_law_141 : decode cL_law 141 = .ok (.invokestatic 115, 3) := by decide +kernel
theorem dL_law_144 : decode cL_law 144 = .ok (.ifCond .eq 48, 3) := by decide +kernel
theorem dL_law_147 : decode cL_law 147 = .ok (.iload_n 3, 1) := by decide +kernel
theorem dL_law_148 : decode cL_law 148 = .ok (.bipush 9, 2) := by decide +kernel
theorem dL_law_150 : decode cL_law 150 = .ok (.irem, 1) := by decide +kernel
theorem dL_law_151 : decode cL_law 151 = .ok (.iconst 4, 1) := by decide +kernel
theorem dL_law_152 : decode cL_law 152 = .ok (.if_icmp .ne 42, 3) := by decide +kernel
theorem dL_law_155 : decode cL_law 155 = .ok (.aload_n 1, 1) := by decide +kernel
theorem dL_law_156 : decode cL_law 156 = .ok (.aload_n 2, 1) := by decide +kernel
theorem dL_law_157 : decode cL_law 157 = .ok (.iload 4, 2) := by decide +kernel
theorem dL_law_159 : decode cL_law 159 = .ok (.iconst 5, 1) := by decide +kernel
theorem dL_law_160 : decode cL_law 160 = .ok (.ishr, 1) := by decide +kernel
theorem dL_law_161 : decode cL_law 161 = .ok (.iconst 1, 1) := by decide +kernel
theorem dL_law_162 : decode cL_law 162 = .ok (.iand, 1) := by decide +kernel
theorem dL_law_163 : decode cL_law 163 = .ok (.iload 4, 2) := by decide +kernel
theorem dL_law_165 : decode cL_law 165 = .ok (.bipush 8, 2) := by decide +kernel
theorem dL_law_167 : decode cL_law 167 = .ok (.ishr, 1) := by decide +kernel
theorem dL_law_168 : decode cL_law 168 = .ok (.iconst 4, 1) := by decide +kernel
theorem dL_law_169 : decode cL_law 169 = .ok (.invokestatic 44, 3) := by decide +kernel
theorem dL_law_172 : decode cL_law 172 = .ok (.iload 4, 2) := by decide +kernel
theorem dL_law_174 : decode cL_law 174 = .ok (.bipush 10, 2) := by decide +kernel
theorem dL_law_176 : decode cL_law 176 = .ok (.ishr, 1) := by decide +kernel
theorem dL_law_177 : decode cL_law 177 = .ok (.aload_n 1, 1) := by decide +kernel
theorem dL_law_178 : decode cL_law 178 = .ok (.invokevirtual 54, 3) := by decide +kernel
theorem dL_law_181 : decode cL_law 181 = .ok (.iconst 1, 1) := by decide +kernel
theorem dL_law_182 : decode cL_law 182 = .ok (.iadd, 1) := by decide +kernel
theorem dL_law_183 : decode cL_law 183 = .ok (.invokestatic 44, 3) := by decide +kernel
theorem dL_law_186 : decode cL_law 186 = .ok (.invokestatic 119, 3) := by decide +kernel
theorem dL_law_189 : decode cL_law 189 = .ok (.ifCond .ne 5, 3) := by decide +kernel
theorem dL_law_192 : decode cL_law 192 = .ok (.iconst 0, 1) := by decide +kernel
theorem dL_law_193 : decode cL_law 193 = .ok (.ireturn, 1) := by decide +kernel
theorem dL_law_194 : decode cL_law 194 = .ok (.iinc 3 1, 3) := by decide +kernel
theorem dL_law_197 : decode cL_law 197 = .ok (.goto (-179), 3) := by decide +kernel
theorem dL_law_200 : decode cL_law 200 = .ok (.aload_n 1, 1) := by decide +kernel
theorem dL_law_201 : decode cL_law 201 = .ok (.aload_n 2, 1) := by decide +kernel
theorem dL_law_202 : decode cL_law 202 = .ok (.invokestatic 107, 3) := by decide +kernel
theorem dL_law_205 : decode cL_law 205 = .ok (.ifCond .eq 36, 3) := by decide +kernel
theorem dL_law_208 : decode cL_law 208 = .ok (.aload_n 1, 1) := by decide +kernel
theorem dL_law_209 : decode cL_law 209 = .ok (.iconst 0, 1) := by decide +kernel
theorem dL_law_210 : decode cL_law 210 = .ok (.iconst 1, 1) := by decide +kernel
theorem dL_law_211 : decode cL_law 211 = .ok (.invokestatic 123, 3) := by decide +kernel
theorem dL_law_214 : decode cL_law 214 = .ok (.ifCond .eq 27, 3) := by decide +kernel
theorem dL_law_217 : decode cL_law 217 = .ok (.aload_n 1, 1) := by decide +kernel
theorem dL_law_218 : decode cL_law 218 = .ok (.iconst 1, 1) := by decide +kernel
theorem dL_law_219 : decode cL_law 219 = .ok (.iconst 2, 1) := by decide +kernel
theorem dL_law_220 : decode cL_law 220 = .ok (.invokestatic 123, 3) := by decide +kernel
theorem dL_law_223 : decode cL_law 223 = .ok (.ifCond .eq 18, 3) := by decide +kernel
theorem dL_law_226 : decode cL_law 226 = .ok (.aload_n 1, 1) := by decide +kernel
theorem dL_law_227 : decode cL_law 227 = .ok (.aload_n 1, 1) := by decide +kernel
theorem dL_law_228 : decode cL_law 228 = .ok (.invokevirtual 54, 3) := by decide +kernel
theorem dL_law_231 : decode cL_law 231 = .ok (.invokestatic 111, 3) := by decide +kernel
theorem dL_law_234 : decode cL_law 234 = .ok (.ifCond .eq 7, 3) := by decide +kernel
theorem dL_law_237 : decode cL_law 237 = .ok (.iconst 1, 1) := by decide +kernel
theorem dL_law_238 : decode cL_law 238 = .ok (.goto 4, 3) := by decide +kernel
theorem dL_law_241 : decode cL_law 241 = .ok (.iconst 0, 1) := by decide +kernel
theorem dL_law_242 : decode cL_law 242 = .ok (.ireturn, 1) := by decide +kernel
