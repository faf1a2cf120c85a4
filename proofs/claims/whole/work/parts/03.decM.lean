theorem dM_init_0 : decode cM_init 0 = .ok (.aload_n 0, 1) := by decide +kernel
theorem dM_init_1 : decode cM_init 1 = .ok (.invokespecial 1, 3) := by decide +kernel
theorem dM_init_4 : decode cM_init 4 = .ok (.aload_n 0, 1) := by decide +kernel
theorem dM_init_5 : decode cM_init 5 = .ok (.sipush 4000, 3) := by decide +kernel
theorem dM_init_8 : decode cM_init 8 = .ok (.newarray .long, 2) := by decide +kernel
theorem dM_init_10 : decode cM_init 10 = .ok (.putfield 7, 3) := by decide +kernel
theorem dM_init_13 : decode cM_init 13 = .ok (.aload_n 0, 1) := by decide +kernel
theorem dM_init_14 : decode cM_init 14 = .ok (.sipush 4000, 3) := by decide +kernel
theorem dM_init_17 : decode cM_init 17 = .ok (.newarray .int, 2) := by decide +kernel
theorem dM_init_19 : decode cM_init 19 = .ok (.putfield 13, 3) := by decide +kernel
theorem dM_init_22 : decode cM_init 22 = .ok (.aload_n 0, 1) := by decide +kernel
theorem dM_init_23 : decode cM_init 23 = .ok (.sipush 300, 3) := by decide +kernel
theorem dM_init_26 : decode cM_init 26 = .ok (.newarray .int, 2) := by decide +kernel
theorem dM_init_28 : decode cM_init 28 = .ok (.putfield 17, 3) := by decide +kernel
theorem dM_init_31 : decode cM_init 31 = .ok (.aload_n 0, 1) := by decide +kernel
theorem dM_init_32 : decode cM_init 32 = .ok (.sipush 300, 3) := by decide +kernel
theorem dM_init_35 : decode cM_init 35 = .ok (.newarray .int, 2) := by decide +kernel
theorem dM_init_37 : decode cM_init 37 = .ok (.putfield 20, 3) := by decide +kernel
theorem dM_init_40 : decode cM_init 40 = .ok (.aload_n 0, 1) := by decide +kernel
theorem dM_init_41 : decode cM_init 41 = .ok (.sipush 300, 3) := by decide +kernel
theorem dM_init_44 : decode cM_init 44 = .ok (.newarray .int, 2) := by decide +kernel
theorem dM_init_46 : decode cM_init 46 = .ok (.putfield 23, 3) := by decide +kernel
theorem dM_init_49 : decode cM_init 49 = .ok (.aload_n 0, 1) := by decide +kernel
theorem dM_init_50 : decode cM_init 50 = .ok (.bipush 12, 2) := by decide +kernel
theorem dM_init_52 : decode cM_init 52 = .ok (.newarray .int, 2) := by decide +kernel
theorem dM_init_54 : decode cM_init 54 = .ok (.putfield 26, 3) := by decide +kernel
theorem dM_init_57 : decode cM_init 57 = .ok (.aload_n 0, 1) := by decide +kernel
theorem dM_init_58 : decode cM_init 58 = .ok (.bipush 100, 2) := by decide +kernel
theorem dM_init_60 : decode cM_init 60 = .ok (.newarray .int, 2) := by decide +kernel
theorem dM_init_62 : decode cM_init 62 = .ok (.putfield 29, 3) := by decide +kernel
theorem dM_init_65 : decode cM_init 65 = .ok (.aload_n 0, 1) := by decide +kernel
theorem dM_init_66 : decode cM_init 66 = .ok (.bipush 100, 2) := by decide +kernel
theorem dM_init_68 : decode cM_init 68 = .ok (.newarray .int, 2) := by decide +kernel
theorem dM_init_70 : decode cM_init 70 = .ok (.putfield 32, 3) := by decide +kernel
theorem dM_init_73 : decode cM_init 73 = .ok (.aload_n 0, 1) := by decide +kernel
theorem dM_init_74 : decode cM_init 74 = .ok (.bipush 100, 2) := by decide +kernel
theorem dM_init_76 : decode cM_init 76 = .ok (.newarray .int, 2) := by decide +kernel
theorem dM_init_78 : decode cM_init 78 = .ok (.putfield 35, 3) := by decide +kernel
theorem dM_init_81 : decode cM_init 81 = .ok (.aload_n 0, 1) := by decide +kernel
theorem dM_init_82 : decode cM_init 82 = .ok (.bipush 100, 2) := by decide +kernel
theorem dM_init_84 : decode cM_init 84 = .ok (.newarray .boolean, 2) := by decide +kernel
theorem dM_init_86 : decode cM_init 86 = .ok (.putfield 38, 3) := by decide +kernel
theorem dM_init_89 : decode cM_init 89 = .ok (.aload_n 0, 1) := by decide +kernel
theorem dM_init_90 : decode cM_init 90 = .ok (.ldc 42, 2) := by decide +kernel
theorem dM_init_92 : decode cM_init 92 = .ok (.newarray .long, 2) := by decide +kernel
theorem dM_init_94 : decode cM_init 94 = .ok (.putfield 43, 3) := by decide +kernel
theorem dM_init_97 : decode cM_init 97 = .ok (.aload_n 0, 1) := by decide +kernel
theorem dM_init_98 : decode cM_init 98 = .ok (.bipush 20, 2) := by decide +kernel
theorem dM_init_100 : decode cM_init 100 = .ok (.newarray .int, 2) := by decide +kernel
theorem dM_init_102 : decode cM_init 102 = .ok (.putfield 46, 3) := by decide +kernel
theorem dM_init_105 : decode cM_init 105 = .ok (.return_, 1) := by decide +kernel
theorem dM_thrown_0 : decode cM_thrown 0 = .ok (.aload_n 0, 1) := by decide +kernel
theorem dM_thrown_1 : decode cM_thrown 1 = .ok (.getfield 49, 3) := by decide +kernel
theorem dM_thrown_4 : decode cM_thrown 4 = .ok (.ireturn, 1) := by decide +kernel
theorem dM_isKind_0 : decode cM_isKind 0 = .ok (.iload_n 0, 1) := by decide +kernel
theorem dM_isKind_1 : decode cM_isKind 1 = .ok (.iconst 1, 1) := by decide +kernel
theorem dM_isKind_2 : decode cM_isKind 2 = .ok (.if_icmp .lt 13, 3) := by decide +kernel
theorem dM_isKind_5 : decode cM_isKind 5 = .ok (.iload_n 0, 1) := by decide +kernel
theorem dM_isKind_6 : decode cM_isKind 6 = .ok (.bipush 7, 2) := by decide +kernel
theorem dM_isKind_8 : decode cM_isKind 8 = .ok (.if_icmp .gt 7, 3) := by decide +kernel
theorem dM_isKind_11 : decode cM_isKind 11 = .ok (.iconst 1, 1) := by decide +kernel
theorem dM_isKind_12 : decode cM_isKind 12 = .ok (.goto 4, 3) := by decide +kernel
theorem dM_isKind_15 : decode cM_isKind 15 = .ok (.iconst 0, 1) := by decide +kernel
theorem dM_isKind_16 : decode cM_isKind 16 = .ok (.ireturn, 1) := by decide +kernel
theorem dM_newObject_0 : decode cM_newObject 0 = .ok (.aload_n 0, 1) := by decide +kernel
theorem dM_newObject_1 : decode cM_newObject 1 = .ok (.getfield 17, 3) := by decide +kernel
theorem dM_newObject_4 : decode cM_newObject 4 = .ok (.aload_n 0, 1) := by decide +kernel
theorem dM_newObject_5 : decode cM_newObject 5 = .ok (.getfield 53, 3) := by decide +kernel
theorem dM_newObject_8 : decode cM_newObject 8 = .ok (.aload_n 0, 1) := by decide +kernel
theorem dM_newObject_9 : decode cM_newObject 9 = .ok (.getfield 56, 3) := by decide +kernel
theorem dM_newObject_12 : decode cM_newObject 12 = .ok (.iastore, 1) := by decide +kernel
theorem dM_newObject_13 : decode cM_newObject 13 = .ok (.aload_n 0, 1) := by decide +kernel
theorem dM_newObject_14 : decode cM_newObject 14 = .ok (.getfield 20, 3) := by decide +kernel
theorem dM_newObject_17 : decode cM_newObject 17 = .ok (.aload_n 0, 1) := by decide +kernel
theorem dM_newObject_18 : decode cM_newObject 18 = .ok (.getfield 53, 3) := by decide +kernel
theorem dM_newObject_21 : decode cM_newObject 21 = .ok (.iload_n 2, 1) := by decide +kernel
theorem dM_newObject_22 : decode cM_newObject 22 = .ok (.iastore, 1) := by decide +kernel
theorem dM_newObject_23 : decode cM_newObject 23 = .ok (.aload_n 0, 1) := by decide +kernel
theorem dM_newObject_24 : decode cM_newObject 24 = .ok (.getfield 23, 3) := by decide +kernel
theorem dM_newObject_27 : decode cM_newObject 27 = .ok (.aload_n 0, 1) := by decide +kernel
theorem dM_newObject_28 : decode cM_newObject 28 = .ok (.getfield 53, 3) := by decide +kernel
theorem dM_newObject_31 : decode cM_newObject 31 = .ok (.iload_n 1, 1) := by decide +kernel
theorem dM_newObject_32 : decode cM_newObject 32 = .ok (.iastore, 1) := by decide +kernel
theorem dM_newObject_33 : decode cM_newObject 33 = .ok (.iconst 0, 1) := by decide +kernel
theorem dM_newObject_34 : decode cM_newObject 34 = .ok (.istore_n 3, 1) := by decide +kernel
theorem dM_newObject_35 : decode cM_newObject 35 = .ok (.iload_n 3, 1) := by decide +kernel
theorem dM_newObject_36 : decode cM_newObject 36 = .ok (.iload_n 2, 1) := by decide +kernel
theorem dM_newObject_37 : decode cM_newObject 37 = .ok (.if_icmp .ge 68, 3) := by decide +kernel
theorem dM_newObject_40 : decode cM_newObject 40 = .ok (.aload_n 0, 1) := by decide +kernel
theorem dM_newObject_41 : decode cM_newObject 41 = .ok (.getfield 13, 3) := by decide +kernel
theorem dM_newObject_44 : decode cM_newObject 44 = .ok (.aload_n 0, 1) := by decide +kernel
theorem dM_newObject_45 : decode cM_newObject 45 = .ok (.getfield 56, 3) := by decide +kernel
theorem dM_newObject_48 : decode cM_newObject 48 = .ok (.iload_n 3, 1) := by decide +kernel
theorem dM_newObject_49 : decode cM_newObject 49 = .ok (.iadd, 1) := by decide +kernel
theorem dM_newObject_50 : decode cM_newObject 50 = .ok (.iload_n 1, 1) := by decide +kernel
theorem dM_newObject_51 : decode cM_newObject 51 = .ok (.ifCond .ne 12, 3) := by decide +kernel
theorem dM_newObject_54 : decode cM_newObject 54 = .ok (.aload_n 0, 1) := by decide +kernel
theorem dM_newObject_55 : decode cM_newObject 55 = .ok (.getfield 26, 3) := by decide +kernel
theorem dM_newObject_58 : decode cM_newObject 58 = .ok (.iload_n 3, 1) := by decide +kernel
theorem dM_newObject_59 : decode cM_newObject 59 = .ok (.iaload, 1) := by decide +kernel
theorem dM_newObject_60 : decode cM_newObject 60 = .ok (.goto 4, 3) := by decide +kernel
theorem dM_newObject_63 : decode cM_newObject 63 = .ok (.iload_n 1, 1) := by decide +kernel
theorem dM_newObject_64 : decode cM_newObject 64 = .ok (.iastore, 1) := by decide +kernel
theorem dM_newObject_65 : decode cM_newObject 65 = .ok (.aload_n 0, 1) := by decide +kernel
theorem dM_newObject_66 : decode cM_newObject 66 = .ok (.getfield 7, 3) := by decide +kernel
theorem dM_newObject_69 : decode cM_newObject 69 = .ok (.aload_n 0, 1) := by decide +kernel
theorem dM_newObject_70 : decode cM_newObject 70 = .ok (.getfield 56, 3) := by decide +kernel
theorem dM_newObject_73 : decode cM_newObject 73 = .ok (.iload_n 3, 1) := by decide +kernel
theorem dM_newObject_74 : decode cM_newObject 74 = .ok (.iadd, 1) := by decide +kernel
theorem dM_newObject_75 : decode cM_newObject 75 = .ok (.aload_n 0, 1) := by decide +kernel
theorem dM_newObject_76 : decode cM_newObject 76 = .ok (.getfield 13, 3) := by decide +kernel
theorem dM_newObject_79 : decode cM_newObject 79 = .ok (.aload_n 0, 1) := by decide +kernel
theorem dM_newObject_80 : decode cM_newObject 80 = .ok (.getfield 56, 3) := by decide +kernel
theorem dM_newObject_83 : decode cM_newObject 83 = .ok (.iload_n 3, 1) := by decide +kernel
theorem dM_newObject_84 : decode cM_newObject 84 = .ok (.iadd, 1) := by decide +kernel
theorem dM_newObject_85 : decode cM_newObject 85 = .ok (.iaload, 1) := by decide +kernel
theorem dM_newObject_86 : decode cM_newObject 86 = .ok (.bipush 7, 2) := by decide +kernel
theorem dM_newObject_88 : decode cM_newObject 88 = .ok (.if_icmp .ne 9, 3) := by decide +kernel
theorem dM_newObject_91 : decode cM_newObject 91 = .ok (.ldc2_w 59, 3) := by decide +kernel
theorem dM_newObject_94 : decode cM_newObject 94 = .ok (.goto 4, 3) := by decide +kernel
theorem dM_newObject_97 : decode cM_newObject 97 = .ok (.lconst 0, 1) := by decide +kernel
theorem dM_newObject_98 : decode cM_newObject 98 = .ok (.lastore, 1) := by decide +kernel
theorem dM_newObject_99 : decode cM_newObject 99 = .ok (.iinc 3 1, 3) := by decide +kernel
theorem dM_newObject_102 : decode cM_newObject 102 = .ok (.goto (-67), 3) := by decide +kernel
theorem dM_newObject_105 : decode cM_newObject 105 = .ok (.aload_n 0, 1) := by decide +kernel
theorem dM_newObject_106 : decode cM_newObject 106 = .ok (.dup, 1) := by decide +kernel
theorem dM_newObject_107 : decode cM_newObject 107 = .ok (.getfield 56, 3) := by decide +kernel
theorem dM_newObject_110 : decode cM_newObject 110 = .ok (.iload_n 2, 1) := by decide +kernel
theorem dM_newObject_111 : decode cM_newObject 111 = .ok (.iadd, 1) := by decide +kernel
theorem dM_newObject_112 : decode cM_newObject 112 = .ok (.putfield 56, 3) := by decide +kernel
theorem dM_newObject_115 : decode cM_newObject 115 = .ok (.aload_n 0, 1) := by decide +kernel
theorem dM_newObject_116 : decode cM_newObject 116 = .ok (.dup, 1) := by decide +kernel
theorem dM_newObject_117 : decode cM_newObject 117 = .ok (.getfield 53, 3) := by decide +kernel
theorem dM_newObject_120 : decode cM_newObject 120 = .ok (.iconst 1, 1) := by decide +kernel
theorem dM_newObject_121 : decode cM_newObject 121 = .ok (.iadd, 1) := by decide +kernel
theorem dM_newObject_122 : decode cM_newObject 122 = .ok (.putfield 53, 3) := by decide +kernel
theorem dM_newObject_125 : decode cM_newObject 125 = .ok (.aload_n 0, 1) := by decide +kernel
theorem dM_newObject_126 : decode cM_newObject 126 = .ok (.getfield 53, 3) := by decide +kernel
theorem dM_newObject_129 : decode cM_newObject 129 = .ok (.iconst 1, 1) := by decide +kernel
theorem dM_newObject_130 : decode cM_newObject 130 = .ok (.isub, 1) := by decide +kernel
theorem dM_newObject_131 : decode cM_newObject 131 = .ok (.ireturn, 1) := by decide +kernel
theorem dM_row_0 : decode cM_row 0 = .ok (.aload_n 0, 1) := by decide +kernel
theorem dM_row_1 : decode cM_row 1 = .ok (.iconst 0, 1) := by decide +kernel
theorem dM_row_2 : decode cM_row 2 = .ok (.putfield 49, 3) := by decide +kernel
theorem dM_row_5 : decode cM_row 5 = .ok (.aload_n 0, 1) := by decide +kernel
theorem dM_row_6 : decode cM_row 6 = .ok (.getfield 53, 3) := by decide +kernel
theorem dM_row_9 : decode cM_row 9 = .ok (.sipush 300, 3) := by decide +kernel
theorem dM_row_12 : decode cM_row 12 = .ok (.if_icmp .eq 33, 3) := by decide +kernel
theorem dM_row_15 : decode cM_row 15 = .ok (.iload_n 1, 1) := by decide +kernel
theorem dM_row_16 : decode cM_row 16 = .ok (.invokestatic 61, 3) := by decide +kernel
theorem dM_row_19 : decode cM_row 19 = .ok (.ifCond .eq 26, 3) := by decide +kernel
theorem dM_row_22 : decode cM_row 22 = .ok (.iload_n 2, 1) := by decide +kernel
theorem dM_row_23 : decode cM_row 23 = .ok (.ifCond .lt 22, 3) := by decide +kernel
theorem dM_row_26 : decode cM_row 26 = .ok (.iload_n 2, 1) := by decide +kernel
theorem dM_row_27 : decode cM_row 27 = .ok (.sipush 200, 3) := by decide +kernel
theorem dM_row_30 : decode cM_row 30 = .ok (.if_icmp .gt 15, 3) := by decide +kernel
theorem dM_row_33 : decode cM_row 33 = .ok (.aload_n 0, 1) := by decide +kernel
theorem dM_row_34 : decode cM_row 34 = .ok (.getfield 56, 3) := by decide +kernel
theorem dM_row_37 : decode cM_row 37 = .ok (.iload_n 2, 1) := by decide +kernel
theorem dM_row_38 : decode cM_row 38 = .ok (.iadd, 1) := by decide +kernel
theorem dM_row_39 : decode cM_row 39 = .ok (.sipush 4000, 3) := by decide +kernel
theorem dM_row_42 : decode cM_row 42 = .ok (.if_icmp .le 5, 3) := by decide +kernel
theorem dM_row_45 : decode cM_row 45 = .ok (.iconst (-1), 1) := by decide +kernel
theorem dM_row_46 : decode cM_row 46 = .ok (.ireturn, 1) := by decide +kernel
theorem dM_row_47 : decode cM_row 47 = .ok (.aload_n 0, 1) := by decide +kernel
theorem dM_row_48 : decode cM_row 48 = .ok (.iload_n 1, 1) := by decide +kernel
theorem dM_row_49 : decode cM_row 49 = .ok (.iload_n 2, 1) := by decide +kernel
theorem dM_row_50 : decode cM_row 50 = .ok (.invokevirtual 65, 3) := by decide +kernel
theorem dM_row_53 : decode cM_row 53 = .ok (.ireturn, 1) := by decide +kernel
theorem dM_put_0 : decode cM_put 0 = .ok (.aload_n 0, 1) := by decide +kernel
theorem dM_put_1 : decode cM_put 1 = .ok (.iconst 0, 1) := by decide +kernel
theorem dM_put_2 : decode cM_put 2 = .ok (.putfield 49, 3) := by decide +kernel
theorem dM_put_5 : decode cM_put 5 = .ok (.aload_n 0, 1) := by decide +kernel
theorem dM_put_6 : decode cM_put 6 = .ok (.getfield 69, 3) := by decide +kernel
theorem dM_put_9 : decode cM_put 9 = .ok (.bipush 12, 2) := by decide +kernel
theorem dM_put_11 : decode cM_put 11 = .ok (.if_icmp .eq 10, 3) := by decide +kernel
theorem dM_put_14 : decode cM_put 14 = .ok (.iload_n 1, 1) := by decide +kernel
theorem dM_put_15 : decode cM_put 15 = .ok (.invokestatic 61, 3) := by decide +kernel
theorem dM_put_18 : decode cM_put 18 = .ok (.ifCond .ne 5, 3) := by decide +kernel
theorem dM_put_21 : decode cM_put 21 = .ok (.iconst 0, 1) := by decide +kernel
theorem dM_put_22 : decode cM_put 22 = .ok (.ireturn, 1) := by decide +kernel
theorem dM_put_23 : decode cM_put 23 = .ok (.aload_n 0, 1) := by decide +kernel
theorem dM_put_24 : decode cM_put 24 = .ok (.getfield 26, 3) := by decide +kernel
theorem dM_put_27 : decode cM_put 27 = .ok (.aload_n 0, 1) := by decide +kernel
theorem dM_put_28 : decode cM_put 28 = .ok (.getfield 69, 3) := by decide +kernel
theorem dM_put_31 : decode cM_put 31 = .ok (.iload_n 1, 1) := by decide +kernel
theorem dM_put_32 : decode cM_put 32 = .ok (.iastore, 1) := by decide +kernel
theorem dM_put_33 : decode cM_put 33 = .ok (.aload_n 0, 1) := by decide +kernel
theorem dM_put_34 : decode cM_put 34 = .ok (.dup, 1) := by decide +kernel
theorem dM_put_35 : decode cM_put 35 = .ok (.getfield 69, 3) := by decide +kernel
theorem dM_put_38 : decode cM_put 38 = .ok (.iconst 1, 1) := by decide +kernel
theorem dM_put_39 : decode cM_put 39 = .ok (.iadd, 1) := by decide +kernel
theorem dM_put_40 : decode cM_put 40 = .ok (.putfield 69, 3) := by decide +kernel
theorem dM_put_43 : decode cM_put 43 = .ok (.iconst 1, 1) := by decide +kernel
theorem dM_put_44 : decode cM_put 44 = .ok (.ireturn, 1) := by decide +kernel
theorem dM_instance_0 : decode cM_instance 0 = .ok (.aload_n 0, 1) := by decide +kernel
theorem dM_instance_1 : decode cM_instance 1 = .ok (.iconst 0, 1) := by decide +kernel
theorem dM_instance_2 : decode cM_instance 2 = .ok (.putfield 49, 3) := by decide +kernel
theorem dM_instance_5 : decode cM_instance 5 = .ok (.aload_n 0, 1) := by decide +kernel
theorem dM_instance_6 : decode cM_instance 6 = .ok (.getfield 69, 3) := by decide +kernel
theorem dM_instance_9 : decode cM_instance 9 = .ok (.istore_n 1, 1) := by decide +kernel
theorem dM_instance_10 : decode cM_instance 10 = .ok (.aload_n 0, 1) := by decide +kernel
theorem dM_instance_11 : decode cM_instance 11 = .ok (.iconst 0, 1) := by decide +kernel
theorem dM_instance_12 : decode cM_instance 12 = .ok (.putfield 69, 3) := by decide +kernel
theorem dM_instance_15 : decode cM_instance 15 = .ok (.aload_n 0, 1) := by decide +kernel
theorem dM_instance_16 : decode cM_instance 16 = .ok (.getfield 53, 3) := by decide +kernel
theorem dM_instance_19 : decode cM_instance 19 = .ok (.sipush 300, 3) := by decide +kernel
theorem dM_instance_22 : decode cM_instance 22 = .ok (.if_icmp .eq 19, 3) := by decide +kernel
theorem dM_instance_25 : decode cM_instance 25 = .ok (.iload_n 1, 1) := by decide +kernel
theorem dM_instance_26 : decode cM_instance 26 = .ok (.ifCond .eq 15, 3) := by decide +kernel
theorem dM_instance_29 : decode cM_instance 29 = .ok (.aload_n 0, 1) := by decide +kernel
theorem dM_instance_30 : decode cM_instance 30 = .ok (.getfield 56, 3) := by decide +kernel
theorem dM_instance_33 : decode cM_instance 33 = .ok (.iload_n 1, 1) := by decide +kernel
theorem dM_instance_34 : decode cM_instance 34 = .ok (.iadd, 1) := by decide +kernel
theorem dM_instance_35 : decode cM_instance 35 = .ok (.sipush 4000, 3) := by decide +kernel
theorem dM_instance_38 : decode cM_instance 38 = .ok (.if_icmp .le 5, 3) := by decide +kernel
theorem dM_instance_41 : decode cM_instance 41 = .ok (.iconst (-1), 1) := by decide +kernel
theorem dM_instance_42 : decode cM_instance 42 = .ok (.ireturn, 1) := by decide +kernel
theorem dM_instance_43 : decode cM_instance 43 = .ok (.aload_n 0, 1) := by decide +kernel
theorem dM_instance_44 : decode cM_instance 44 = .ok (.iconst 0, 1) := by decide +kernel
theorem dM_instance_45 : decode cM_instance 45 = .ok (.iload_n 1, 1) := by decide +kernel
theorem dM_instance_46 : decode cM_instance 46 = .ok (.invokevirtual 65, 3) := by decide +kernel
theorem dM_instance_49 : decode cM_instance 49 = .ok (.ireturn, 1) := by decide +kernel
theorem dM_isObject_0 : decode cM_isObject 0 = .ok (.iload_n 1, 1) := by decide +kernel
theorem dM_isObject_1 : decode cM_isObject 1 = .ok (.ifCond .lt 15, 3) := by decide +kernel
theorem dM_isObject_4 : decode cM_isObject 4 = .ok (.iload_n 1, 1) := by decide +kernel
theorem dM_isObject_5 : decode cM_isObject 5 = .ok (.aload_n 0, 1) := by decide +kernel
theorem dM_isObject_6 : decode cM_isObject 6 = .ok (.getfield 53, 3) := by decide +kernel
theorem dM_isObject_9 : decode cM_isObject 9 = .ok (.if_icmp .ge 7, 3) := by decide +kernel
theorem dM_isObject_12 : decode cM_isObject 12 = .ok (.iconst 1, 1) := by decide +kernel
theorem dM_isObject_13 : decode cM_isObject 13 = .ok (.goto 4, 3) := by decide +kernel
theorem dM_isObject_16 : decode cM_isObject 16 = .ok (.iconst 0, 1) := by decide +kernel
theorem dM_isObject_17 : decode cM_isObject 17 = .ok (.ireturn, 1) := by decide +kernel
theorem dM_object_0 : decode cM_object 0 = .ok (.aload_n 0, 1) := by decide +kernel
theorem dM_object_1 : decode cM_object 1 = .ok (.iconst 0, 1) := by decide +kernel
theorem dM_object_2 : decode cM_object 2 = .ok (.putfield 49, 3) := by decide +kernel
theorem dM_object_5 : decode cM_object 5 = .ok (.aload_n 0, 1) := by decide +kernel
theorem dM_object_6 : decode cM_object 6 = .ok (.iload_n 1, 1) := by decide +kernel
theorem dM_object_7 : decode cM_object 7 = .ok (.invokevirtual 72, 3) := by decide +kernel
theorem dM_object_10 : decode cM_object 10 = .ok (.ifCond .ne 5, 3) := by decide +kernel
theorem dM_object_13 : decode cM_object 13 = .ok (.iconst (-1), 1) := by decide +kernel
theorem dM_object_14 : decode cM_object 14 = .ok (.ireturn, 1) := by decide +kernel
theorem dM_object_15 : decode cM_object 15 = .ok (.iload_n 2, 1) := by decide +kernel
theorem dM_object_16 : decode cM_object 16 = .ok (.iconst (-1), 1) := by decide +kernel
theorem dM_object_17 : decode cM_object 17 = .ok (.if_icmp .ne 10, 3) := by decide +kernel
theorem dM_object_20 : decode cM_object 20 = .ok (.aload_n 0, 1) := by decide +kernel
theorem dM_object_21 : decode cM_object 21 = .ok (.getfield 23, 3) := by decide +kernel
theorem dM_object_24 : decode cM_object 24 = .ok (.iload_n 1, 1) := by decide +kernel
theorem dM_object_25 : decode cM_object 25 = .ok (.iaload, 1) := by decide +kernel
theorem dM_object_26 : decode cM_object 26 = .ok (.ireturn, 1) := by decide +kernel
theorem dM_object_27 : decode cM_object 27 = .ok (.iload_n 2, 1) := by decide +kernel
theorem dM_object_28 : decode cM_object 28 = .ok (.bipush (-2), 2) := by decide +kernel
theorem dM_object_30 : decode cM_object 30 = .ok (.if_icmp .ne 10, 3) := by decide +kernel
theorem dM_object_33 : decode cM_object 33 = .ok (.aload_n 0, 1) := by decide +kernel
theorem dM_object_34 : decode cM_object 34 = .ok (.getfield 20, 3) := by decide +kernel
theorem dM_object_37 : decode cM_object 37 = .ok (.iload_n 1, 1) := by decide +kernel
theorem dM_object_38 : decode cM_object 38 = .ok (.iaload, 1) := by decide +kernel
theorem dM_object_39 : decode cM_object 39 = .ok (.ireturn, 1) := by decide +kernel
theorem dM_object_40 : decode cM_object 40 = .ok (.iload_n 2, 1) := by decide +kernel
theorem dM_object_41 : decode cM_object 41 = .ok (.ifCond .lt 29, 3) := by decide +kernel
theorem dM_object_44 : decode cM_object 44 = .ok (.iload_n 2, 1) := by decide +kernel
theorem dM_object_45 : decode cM_object 45 = .ok (.aload_n 0, 1) := by decide +kernel
theorem dM_object_46 : decode cM_object 46 = .ok (.getfield 20, 3) := by decide +kernel
theorem dM_object_49 : decode cM_object 49 = .ok (.iload_n 1, 1) := by decide +kernel
theorem dM_object_50 : decode cM_object 50 = .ok (.iaload, 1) := by decide +kernel
theorem dM_object_51 : decode cM_object 51 = .ok (.if_icmp .ge 19, 3) := by decide +kernel
theorem dM_object_54 : decode cM_object 54 = .ok (.aload_n 0, 1) := by decide +kernel
theorem dM_object_55 : decode cM_object 55 = .ok (.getfield 13, 3) := by decide +kernel
theorem dM_object_58 : decode cM_object 58 = .ok (.aload_n 0, 1) := by decide +kernel
theorem dM_object_59 : decode cM_object 59 = .ok (.getfield 17, 3) := by decide +kernel
theorem dM_object_62 : decode cM_object 62 = .ok (.iload_n 1, 1) := by decide +kernel
theorem dM_object_63 : decode cM_object 63 = .ok (.iaload, 1) := by decide +kernel
theorem dM_object_64 : decode cM_object 64 = .ok (.iload_n 2, 1) := by decide +kernel
theorem dM_object_65 : decode cM_object 65 = .ok (.iadd, 1) := by decide +kernel
theorem dM_object_66 : decode cM_object 66 = .ok (.iaload, 1) := by decide +kernel
theorem dM_object_67 : decode cM_object 67 = .ok (.goto 4, 3) := by decide +kernel
theorem dM_object_70 : decode cM_object 70 = .ok (.iconst (-1), 1) := by decide +kernel
theorem dM_object_71 : decode cM_object 71 = .ok (.ireturn, 1) := by decide +kernel
theorem dM_newPlace_0 : decode cM_newPlace 0 = .ok (.aload_n 0, 1) := by decide +kernel
theorem dM_newPlace_1 : decode cM_newPlace 1 = .ok (.getfield 29, 3) := by decide +kernel
theorem dM_newPlace_4 : decode cM_newPlace 4 = .ok (.aload_n 0, 1) := by decide +kernel
theorem dM_newPlace_5 : decode cM_newPlace 5 = .ok (.getfield 75, 3) := by decide +kernel
theorem dM_newPlace_8 : decode cM_newPlace 8 = .ok (.iload_n 1, 1) := by decide +kernel
theorem dM_newPlace_9 : decode cM_newPlace 9 = .ok (.iastore, 1) := by decide +kernel
theorem dM_newPlace_10 : decode cM_newPlace 10 = .ok (.aload_n 0, 1) := by decide +kernel
theorem dM_newPlace_11 : decode cM_newPlace 11 = .ok (.getfield 32, 3) := by decide +kernel
theorem dM_newPlace_14 : decode cM_newPlace 14 = .ok (.aload_n 0, 1) := by decide +kernel
theorem dM_newPlace_15 : decode cM_newPlace 15 = .ok (.getfield 75, 3) := by decide +kernel
theorem dM_newPlace_18 : decode cM_newPlace 18 = .ok (.iload_n 2, 1) := by decide +kernel
theorem dM_newPlace_19 : decode cM_newPlace 19 = .ok (.iastore, 1) := by decide +kernel
theorem dM_newPlace_20 : decode cM_newPlace 20 = .ok (.aload_n 0, 1) := by decide +kernel
theorem dM_newPlace_21 : decode cM_newPlace 21 = .ok (.getfield 35, 3) := by decide +kernel
theorem dM_newPlace_24 : decode cM_newPlace 24 = .ok (.aload_n 0, 1) := by decide +kernel
theorem dM_newPlace_25 : decode cM_newPlace 25 = .ok (.getfield 75, 3) := by decide +kernel
theorem dM_newPlace_28 : decode cM_newPlace 28 = .ok (.iload_n 3, 1) := by decide +kernel
theorem dM_newPlace_29 : decode cM_newPlace 29 = .ok (.iastore, 1) := by decide +kernel
theorem dM_newPlace_30 : decode cM_newPlace 30 = .ok (.aload_n 0, 1) := by decide +kernel
theorem dM_newPlace_31 : decode cM_newPlace 31 = .ok (.getfield 38, 3) := by decide +kernel
theorem dM_newPlace_34 : decode cM_newPlace 34 = .ok (.aload_n 0, 1) := by decide +kernel
theorem dM_newPlace_35 : decode cM_newPlace 35 = .ok (.getfield 75, 3) := by decide +kernel
theorem dM_newPlace_38 : decode cM_newPlace 38 = .ok (.iload 4, 2) := by decide +kernel
theorem dM_newPlace_40 : decode cM_newPlace 40 = .ok (.bastore, 1) := by decide +kernel
theorem dM_newPlace_41 : decode cM_newPlace 41 = .ok (.aload_n 0, 1) := by decide +kernel
theorem dM_newPlace_42 : decode cM_newPlace 42 = .ok (.dup, 1) := by decide +kernel
theorem dM_newPlace_43 : decode cM_newPlace 43 = .ok (.getfield 75, 3) := by decide +kernel
theorem dM_newPlace_46 : decode cM_newPlace 46 = .ok (.iconst 1, 1) := by decide +kernel
theorem dM_newPlace_47 : decode cM_newPlace 47 = .ok (.iadd, 1) := by decide +kernel
theorem dM_newPlace_48 : decode cM_newPlace 48 = .ok (.putfield 75, 3) := by decide +kernel
theorem dM_newPlace_51 : decode cM_newPlace 51 = .ok (.aload_n 0, 1) := by decide +kernel
theorem dM_newPlace_52 : decode cM_newPlace 52 = .ok (.getfield 75, 3) := by decide +kernel
theorem dM_newPlace_55 : decode cM_newPlace 55 = .ok (.iconst 1, 1) := by decide +kernel
theorem dM_newPlace_56 : decode cM_newPlace 56 = .ok (.isub, 1) := by decide +kernel
theorem dM_newPlace_57 : decode cM_newPlace 57 = .ok (.ireturn, 1) := by decide +kernel
theorem dM_place_0 : decode cM_place 0 = .ok (.aload_n 0, 1) := by decide +kernel
theorem dM_place_1 : decode cM_place 1 = .ok (.iconst 0, 1) := by decide +kernel
theorem dM_place_2 : decode cM_place 2 = .ok (.putfield 49, 3) := by decide +kernel
theorem dM_place_5 : decode cM_place 5 = .ok (.aload_n 0, 1) := by decide +kernel
theorem dM_place_6 : decode cM_place 6 = .ok (.getfield 75, 3) := by decide +kernel
theorem dM_place_9 : decode cM_place 9 = .ok (.bipush 100, 2) := by decide +kernel
theorem dM_place_11 : decode cM_place 11 = .ok (.if_icmp .eq 25, 3) := by decide +kernel
theorem dM_place_14 : decode cM_place 14 = .ok (.aload_n 0, 1) := by decide +kernel
theorem dM_place_15 : decode cM_place 15 = .ok (.iload_n 1, 1) := by decide +kernel
theorem dM_place_16 : decode cM_place 16 = .ok (.invokevirtual 72, 3) := by decide +kernel
theorem dM_place_19 : decode cM_place 19 = .ok (.ifCond .eq 17, 3) := by decide +kernel
theorem dM_place_22 : decode cM_place 22 = .ok (.iload_n 2, 1) := by decide +kernel
theorem dM_place_23 : decode cM_place 23 = .ok (.ifCond .lt 13, 3) := by decide +kernel
theorem dM_place_26 : decode cM_place 26 = .ok (.iload_n 2, 1) := by decide +kernel
theorem dM_place_27 : decode cM_place 27 = .ok (.aload_n 0, 1) := by decide +kernel
theorem dM_place_28 : decode cM_place 28 = .ok (.getfield 20, 3) := by decide +kernel
theorem dM_place_31 : decode cM_place 31 = .ok (.iload_n 1, 1) := by decide +kernel
theorem dM_place_32 : decode cM_place 32 = .ok (.iaload, 1) := by decide +kernel
theorem dM_place_33 : decode cM_place 33 = .ok (.if_icmp .lt 5, 3) := by decide +kernel
theorem dM_place_36 : decode cM_place 36 = .ok (.iconst (-1), 1) := by decide +kernel
theorem dM_place_37 : decode cM_place 37 = .ok (.ireturn, 1) := by decide +kernel
theorem dM_place_38 : decode cM_place 38 = .ok (.aload_n 0, 1) := by decide +kernel
theorem dM_place_39 : decode cM_place 39 = .ok (.aload_n 0, 1) := by decide +kernel
theorem dM_place_40 : decode cM_place 40 = .ok (.getfield 17, 3) := by decide +kernel
theorem dM_place_43 : decode cM_place 43 = .ok (.iload_n 1, 1) := by decide +kernel
theorem dM_place_44 : decode cM_place 44 = .ok (.iaload, 1) := by decide +kernel
theorem dM_place_45 : decode cM_place 45 = .ok (.iload_n 2, 1) := by decide +kernel
theorem dM_place_46 : decode cM_place 46 = .ok (.iadd, 1) := by decide +kernel
theorem dM_place_47 : decode cM_place 47 = .ok (.aload_n 0, 1) := by decide +kernel
theorem dM_place_48 : decode cM_place 48 = .ok (.getfield 13, 3) := by decide +kernel
theorem dM_place_51 : decode cM_place 51 = .ok (.aload_n 0, 1) := by decide +kernel
theorem dM_place_52 : decode cM_place 52 = .ok (.getfield 17, 3) := by decide +kernel
theorem dM_place_55 : decode cM_place 55 = .ok (.iload_n 1, 1) := by decide +kernel
theorem dM_place_56 : decode cM_place 56 = .ok (.iaload, 1) := by decide +kernel
theorem dM_place_57 : decode cM_place 57 = .ok (.iload_n 2, 1) := by decide +kernel
theorem dM_place_58 : decode cM_place 58 = .ok (.iadd, 1) := by decide +kernel
theorem dM_place_59 : decode cM_place 59 = .ok (.iaload, 1) := by decide +kernel
theorem dM_place_60 : decode cM_place 60 = .ok (.iconst 1, 1) := by decide +kernel
theorem dM_place_61 : decode cM_place 61 = .ok (.iconst 1, 1) := by decide +kernel
theorem dM_place_62 : decode cM_place 62 = .ok (.invokevirtual 78, 3) := by decide +kernel
theorem dM_place_65 : decode cM_place 65 = .ok (.ireturn, 1) := by decide +kernel
theorem dM_view_0 : decode cM_view 0 = .ok (.aload_n 0, 1) := by decide +kernel
theorem dM_view_1 : decode cM_view 1 = .ok (.iconst 0, 1) := by decide +kernel
theorem dM_view_2 : decode cM_view 2 = .ok (.putfield 49, 3) := by decide +kernel
theorem dM_view_5 : decode cM_view 5 = .ok (.iload_n 3, 1) := by decide +kernel
theorem dM_view_6 : decode cM_view 6 = .ok (.iconst 3, 1) := by decide +kernel
theorem dM_view_7 : decode cM_view 7 = .ok (.if_icmp .eq 8, 3) := by decide +kernel
theorem dM_view_10 : decode cM_view 10 = .ok (.iload_n 3, 1) := by decide +kernel
theorem dM_view_11 : decode cM_view 11 = .ok (.iconst 4, 1) := by decide +kernel
theorem dM_view_12 : decode cM_view 12 = .ok (.if_icmp .ne 7, 3) := by decide +kernel
theorem dM_view_15 : decode cM_view 15 = .ok (.iconst 2, 1) := by decide +kernel
theorem dM_view_16 : decode cM_view 16 = .ok (.goto 24, 3) := by decide +kernel
theorem dM_view_19 : decode cM_view 19 = .ok (.iload_n 3, 1) := by decide +kernel
theorem dM_view_20 : decode cM_view 20 = .ok (.iconst 5, 1) := by decide +kernel
theorem dM_view_21 : decode cM_view 21 = .ok (.if_icmp .ne 7, 3) := by decide +kernel
theorem dM_view_24 : decode cM_view 24 = .ok (.iconst 4, 1) := by decide +kernel
theorem dM_view_25 : decode cM_view 25 = .ok (.goto 15, 3) := by decide +kernel
theorem dM_view_28 : decode cM_view 28 = .ok (.iload_n 3, 1) := by decide +kernel
theorem dM_view_29 : decode cM_view 29 = .ok (.bipush 6, 2) := by decide +kernel
theorem dM_view_31 : decode cM_view 31 = .ok (.if_icmp .ne 8, 3) := by decide +kernel
theorem dM_view_34 : decode cM_view 34 = .ok (.bipush 8, 2) := by decide +kernel
theorem dM_view_36 : decode cM_view 36 = .ok (.goto 4, 3) := by decide +kernel
theorem dM_view_39 : decode cM_view 39 = .ok (.iconst 0, 1) := by decide +kernel
theorem dM_view_40 : decode cM_view 40 = .ok (.istore 5, 2) := by decide +kernel
theorem dM_view_42 : decode cM_view 42 = .ok (.aload_n 0, 1) := by decide +kernel
theorem dM_view_43 : decode cM_view 43 = .ok (.getfield 75, 3) := by decide +kernel
theorem dM_view_46 : decode cM_view 46 = .ok (.bipush 100, 2) := by decide +kernel
theorem dM_view_48 : decode cM_view 48 = .ok (.if_icmp .eq 43, 3) := by decide +kernel
theorem dM_view_51 : decode cM_view 51 = .ok (.aload_n 0, 1) := by decide +kernel
theorem dM_view_52 : decode cM_view 52 = .ok (.iload_n 1, 1) := by decide +kernel
theorem dM_view_53 : decode cM_view 53 = .ok (.invokevirtual 72, 3) := by decide +kernel
theorem dM_view_56 : decode cM_view 56 = .ok (.ifCond .eq 35, 3) := by decide +kernel
theorem dM_view_59 : decode cM_view 59 = .ok (.aload_n 0, 1) := by decide +kernel
theorem dM_view_60 : decode cM_view 60 = .ok (.getfield 23, 3) := by decide +kernel
theorem dM_view_63 : decode cM_view 63 = .ok (.iload_n 1, 1) := by decide +kernel
theorem dM_view_64 : decode cM_view 64 = .ok (.iaload, 1) := by decide +kernel
theorem dM_view_65 : decode cM_view 65 = .ok (.iconst 2, 1) := by decide +kernel
theorem dM_view_66 : decode cM_view 66 = .ok (.if_icmp .ne 25, 3) := by decide +kernel
theorem dM_view_69 : decode cM_view 69 = .ok (.iload 5, 2) := by decide +kernel
theorem dM_view_71 : decode cM_view 71 = .ok (.ifCond .eq 20, 3) := by decide +kernel
theorem dM_view_74 : decode cM_view 74 = .ok (.iload_n 2, 1) := by decide +kernel
theorem dM_view_75 : decode cM_view 75 = .ok (.ifCond .lt 16, 3) := by decide +kernel
theorem dM_view_78 : decode cM_view 78 = .ok (.iload_n 2, 1) := by decide +kernel
theorem dM_view_79 : decode cM_view 79 = .ok (.aload_n 0, 1) := by decide +kernel
theorem dM_view_80 : decode cM_view 80 = .ok (.getfield 20, 3) := by decide +kernel
theorem dM_view_83 : decode cM_view 83 = .ok (.iload_n 1, 1) := by decide +kernel
theorem dM_view_84 : decode cM_view 84 = .ok (.iaload, 1) := by decide +kernel
theorem dM_view_85 : decode cM_view 85 = .ok (.iload 5, 2) := by decide +kernel
theorem dM_view_87 : decode cM_view 87 = .ok (.isub, 1) := by decide +kernel
theorem dM_view_88 : decode cM_view 88 = .ok (.if_icmp .le 5, 3) := by decide +kernel
theorem dM_view_91 : decode cM_view 91 = .ok (.iconst (-1), 1) := by decide +kernel
theorem dM_view_92 : decode cM_view 92 = .ok (.ireturn, 1) := by decide +kernel
theorem dM_view_93 : decode cM_view 93 = .ok (.aload_n 0, 1) := by decide +kernel
theorem dM_view_94 : decode cM_view 94 = .ok (.aload_n 0, 1) := by decide +kernel
theorem dM_view_95 : decode cM_view 95 = .ok (.getfield 17, 3) := by decide +kernel
theorem dM_view_98 : decode cM_view 98 = .ok (.iload_n 1, 1) := by decide +kernel
theorem dM_view_99 : decode cM_view 99 = .ok (.iaload, 1) := by decide +kernel
theorem dM_view_100 : decode cM_view 100 = .ok (.iload_n 2, 1) := by decide +kernel
theorem dM_view_101 : decode cM_view 101 = .ok (.iadd, 1) := by decide +kernel
theorem dM_view_102 : decode cM_view 102 = .ok (.iload_n 3, 1) := by decide +kernel
theorem dM_view_103 : decode cM_view 103 = .ok (.iload 5, 2) := by decide +kernel
theorem dM_view_105 : decode cM_view 105 = .ok (.iload 4, 2) := by decide +kernel
theorem dM_view_107 : decode cM_view 107 = .ok (.invokevirtual 78, 3) := by decide +kernel
theorem dM_view_110 : decode cM_view 110 = .ok (.ireturn, 1) := by decide +kernel
theorem dM_isPlace_0 : decode cM_isPlace 0 = .ok (.iload_n 1, 1) := by decide +kernel
theorem dM_isPlace_1 : decode cM_isPlace 1 = .ok (.ifCond .lt 15, 3) := by decide +kernel
theorem dM_isPlace_4 : decode cM_isPlace 4 = .ok (.iload_n 1, 1) := by decide +kernel
theorem dM_isPlace_5 : decode cM_isPlace 5 = .ok (.aload_n 0, 1) := by decide +kernel
theorem dM_isPlace_6 : decode cM_isPlace 6 = .ok (.getfield 75, 3) := by decide +kernel
theorem dM_isPlace_9 : decode cM_isPlace 9 = .ok (.if_icmp .ge 7, 3) := by decide +kernel
theorem dM_isPlace_12 : decode cM_isPlace 12 = .ok (.iconst 1, 1) := by decide +kernel
theorem dM_isPlace_13 : decode cM_isPlace 13 = .ok (.goto 4, 3) := by decide +kernel
theorem dM_isPlace_16 : decode cM_isPlace 16 = .ok (.iconst 0, 1) := by decide +kernel
theorem dM_isPlace_17 : decode cM_isPlace 17 = .ok (.ireturn, 1) := by decide +kernel
theorem dM_kindOf_0 : decode cM_kindOf 0 = .ok (.aload_n 0, 1) := by decide +kernel
theorem dM_kindOf_1 : decode cM_kindOf 1 = .ok (.iconst 0, 1) := by decide +kernel
theorem dM_kindOf_2 : decode cM_kindOf 2 = .ok (.putfield 49, 3) := by decide +kernel
theorem dM_kindOf_5 : decode cM_kindOf 5 = .ok (.aload_n 0, 1) := by decide +kernel
theorem dM_kindOf_6 : decode cM_kindOf 6 = .ok (.iload_n 1, 1) := by decide +kernel
theorem dM_kindOf_7 : decode cM_kindOf 7 = .ok (.invokevirtual 82, 3) := by decide +kernel
theorem dM_kindOf_10 : decode cM_kindOf 10 = .ok (.ifCond .eq 12, 3) := by decide +kernel
theorem dM_kindOf_13 : decode cM_kindOf 13 = .ok (.aload_n 0, 1) := by decide +kernel
theorem dM_kindOf_14 : decode cM_kindOf 14 = .ok (.getfield 32, 3) := by decide +kernel
theorem dM_kindOf_17 : decode cM_kindOf 17 = .ok (.iload_n 1, 1) := by decide +kernel
theorem dM_kindOf_18 : decode cM_kindOf 18 = .ok (.iaload, 1) := by decide +kernel
theorem dM_kindOf_19 : decode cM_kindOf 19 = .ok (.goto 4, 3) := by decide +kernel
theorem dM_kindOf_22 : decode cM_kindOf 22 = .ok (.iconst (-1), 1) := by decide +kernel
theorem dM_kindOf_23 : decode cM_kindOf 23 = .ok (.ireturn, 1) := by decide +kernel
theorem dM_as_0 : decode cM_as 0 = .ok (.iload_n 0, 1) := by decide +kernel
theorem dM_as_1 : decode cM_as 1 = .ok (.tableswitch 59 1 5 #[35, 39, 44, 49, 55], 35) := by decide +kernel
theorem dM_as_36 : decode cM_as 36 = .ok (.lload_n 1, 1) := by decide +kernel
theorem dM_as_37 : decode cM_as 37 = .ok (.lconst 1, 1) := by decide +kernel
theorem dM_as_38 : decode cM_as 38 = .ok (.land, 1) := by decide +kernel
theorem dM_as_39 : decode cM_as 39 = .ok (.lreturn, 1) := by decide +kernel
theorem dM_as_40 : decode cM_as 40 = .ok (.lload_n 1, 1) := by decide +kernel
theorem dM_as_41 : decode cM_as 41 = .ok (.l2i, 1) := by decide +kernel
theorem dM_as_42 : decode cM_as 42 = .ok (.i2b, 1) := by decide +kernel
theorem dM_as_43 : decode cM_as 43 = .ok (.i2l, 1) := by decide +kernel
theorem dM_as_44 : decode cM_as 44 = .ok (.lreturn, 1) := by decide +kernel
theorem dM_as_45 : decode cM_as 45 = .ok (.lload_n 1, 1) := by decide +kernel
theorem dM_as_46 : decode cM_as 46 = .ok (.l2i, 1) := by decide +kernel
theorem dM_as_47 : decode cM_as 47 = .ok (.i2s, 1) := by decide +kernel
theorem dM_as_48 : decode cM_as 48 = .ok (.i2l, 1) := by decide +kernel
theorem dM_as_49 : decode cM_as 49 = .ok (.lreturn, 1) := by decide +kernel
theorem dM_as_50 : decode cM_as 50 = .ok (.lload_n 1, 1) := by decide +kernel
theorem dM_as_51 : decode cM_as 51 = .ok (.ldc2_w 85, 3) := by decide +kernel
theorem dM_as_54 : decode cM_as 54 = .ok (.land, 1) := by decide +kernel
theorem dM_as_55 : decode cM_as 55 = .ok (.lreturn, 1) := by decide +kernel
theorem dM_as_56 : decode cM_as 56 = .ok (.lload_n 1, 1) := by decide +kernel
theorem dM_as_57 : decode cM_as 57 = .ok (.l2i, 1) := by decide +kernel
theorem dM_as_58 : decode cM_as 58 = .ok (.i2l, 1) := by decide +kernel
theorem dM_as_59 : decode cM_as 59 = .ok (.lreturn, 1) := by decide +kernel
theorem dM_as_60 : decode cM_as 60 = .ok (.lload_n 1, 1) := by decide +kernel
theorem dM_as_61 : decode cM_as 61 = .ok (.lreturn, 1) := by decide +kernel
theorem dM_isValue_0 : decode cM_isValue 0 = .ok (.iload_n 1, 1) := by decide +kernel
theorem dM_isValue_1 : decode cM_isValue 1 = .ok (.bipush 7, 2) := by decide +kernel
theorem dM_isValue_3 : decode cM_isValue 3 = .ok (.if_icmp .ne 27, 3) := by decide +kernel
theorem dM_isValue_6 : decode cM_isValue 6 = .ok (.lload_n 2, 1) := by decide +kernel
theorem dM_isValue_7 : decode cM_isValue 7 = .ok (.ldc2_w 59, 3) := by decide +kernel
theorem dM_isValue_10 : decode cM_isValue 10 = .ok (.lcmp, 1) := by decide +kernel
theorem dM_isValue_11 : decode cM_isValue 11 = .ok (.ifCond .lt 17, 3) := by decide +kernel
theorem dM_isValue_14 : decode cM_isValue 14 = .ok (.lload_n 2, 1) := by decide +kernel
theorem dM_isValue_15 : decode cM_isValue 15 = .ok (.aload_n 0, 1) := by decide +kernel
theorem dM_isValue_16 : decode cM_isValue 16 = .ok (.getfield 53, 3) := by decide +kernel
theorem dM_isValue_19 : decode cM_isValue 19 = .ok (.i2l, 1) := by decide +kernel
theorem dM_isValue_20 : decode cM_isValue 20 = .ok (.lcmp, 1) := by decide +kernel
theorem dM_isValue_21 : decode cM_isValue 21 = .ok (.ifCond .ge 7, 3) := by decide +kernel
theorem dM_isValue_24 : decode cM_isValue 24 = .ok (.iconst 1, 1) := by decide +kernel
theorem dM_isValue_25 : decode cM_isValue 25 = .ok (.goto 4, 3) := by decide +kernel
theorem dM_isValue_28 : decode cM_isValue 28 = .ok (.iconst 0, 1) := by decide +kernel
theorem dM_isValue_29 : decode cM_isValue 29 = .ok (.ireturn, 1) := by decide +kernel
theorem dM_isValue_30 : decode cM_isValue 30 = .ok (.iload_n 1, 1) := by decide +kernel
theorem dM_isValue_31 : decode cM_isValue 31 = .ok (.iconst 1, 1) := by decide +kernel
theorem dM_isValue_32 : decode cM_isValue 32 = .ok (.if_icmp .ne 23, 3) := by decide +kernel
theorem dM_isValue_35 : decode cM_isValue 35 = .ok (.lload_n 2, 1) := by decide +kernel
theorem dM_isValue_36 : decode cM_isValue 36 = .ok (.lconst 0, 1) := by decide +kernel
theorem dM_isValue_37 : decode cM_isValue 37 = .ok (.lcmp, 1) := by decide +kernel
theorem dM_isValue_38 : decode cM_isValue 38 = .ok (.ifCond .eq 9, 3) := by decide +kernel
theorem dM_isValue_41 : decode cM_isValue 41 = .ok (.lload_n 2, 1) := by decide +kernel
theorem dM_isValue_42 : decode cM_isValue 42 = .ok (.lconst 1, 1) := by decide +kernel
theorem dM_isValue_43 : decode cM_isValue 43 = .ok (.lcmp, 1) := by decide +kernel
theorem dM_isValue_44 : decode cM_isValue 44 = .ok (.ifCond .ne 7, 3) := by decide +kernel
theorem dM_isValue_47 : decode cM_isValue 47 = .ok (.iconst 1, 1) := by decide +kernel
theorem dM_isValue_48 : decode cM_isValue 48 = .ok (.goto 22, 3) := by decide +kernel
theorem dM_isValue_51 : decode cM_isValue 51 = .ok (.iconst 0, 1) := by decide +kernel
theorem dM_isValue_52 : decode cM_isValue 52 = .ok (.goto 18, 3) := by decide +kernel
theorem dM_isValue_55 : decode cM_isValue 55 = .ok (.iload_n 1, 1) := by decide +kernel
theorem dM_isValue_56 : decode cM_isValue 56 = .ok (.lload_n 2, 1) := by decide +kernel
theorem dM_isValue_57 : decode cM_isValue 57 = .ok (.invokestatic 87, 3) := by decide +kernel
theorem dM_isValue_60 : decode cM_isValue 60 = .ok (.lload_n 2, 1) := by decide +kernel
theorem dM_isValue_61 : decode cM_isValue 61 = .ok (.lcmp, 1) := by decide +kernel
theorem dM_isValue_62 : decode cM_isValue 62 = .ok (.ifCond .ne 7, 3) := by decide +kernel
theorem dM_isValue_65 : decode cM_isValue 65 = .ok (.iconst 1, 1) := by decide +kernel
theorem dM_isValue_66 : decode cM_isValue 66 = .ok (.goto 4, 3) := by decide +kernel
theorem dM_isValue_69 : decode cM_isValue 69 = .ok (.iconst 0, 1) := by decide +kernel
theorem dM_isValue_70 : decode cM_isValue 70 = .ok (.ireturn, 1) := by decide +kernel
theorem dM_get_0 : decode cM_get 0 = .ok (.aload_n 0, 1) := by decide +kernel
theorem dM_get_1 : decode cM_get 1 = .ok (.getfield 35, 3) := by decide +kernel
theorem dM_get_4 : decode cM_get 4 = .ok (.iload_n 1, 1) := by decide +kernel
theorem dM_get_5 : decode cM_get 5 = .ok (.iaload, 1) := by decide +kernel
theorem dM_get_6 : decode cM_get 6 = .ok (.istore_n 2, 1) := by decide +kernel
theorem dM_get_7 : decode cM_get 7 = .ok (.iload_n 2, 1) := by decide +kernel
theorem dM_get_8 : decode cM_get 8 = .ok (.iconst 1, 1) := by decide +kernel
theorem dM_get_9 : decode cM_get 9 = .ok (.if_icmp .ne 15, 3) := by decide +kernel
theorem dM_get_12 : decode cM_get 12 = .ok (.aload_n 0, 1) := by decide +kernel
theorem dM_get_13 : decode cM_get 13 = .ok (.getfield 7, 3) := by decide +kernel
theorem dM_get_16 : decode cM_get 16 = .ok (.aload_n 0, 1) := by decide +kernel
theorem dM_get_17 : decode cM_get 17 = .ok (.getfield 29, 3) := by decide +kernel
theorem dM_get_20 : decode cM_get 20 = .ok (.iload_n 1, 1) := by decide +kernel
theorem dM_get_21 : decode cM_get 21 = .ok (.iaload, 1) := by decide +kernel
theorem dM_get_22 : decode cM_get 22 = .ok (.laload, 1) := by decide +kernel
theorem dM_get_23 : decode cM_get 23 = .ok (.lreturn, 1) := by decide +kernel
theorem dM_get_24 : decode cM_get 24 = .ok (.lconst 0, 1) := by decide +kernel
theorem dM_get_25 : decode cM_get 25 = .ok (.lstore_n 3, 1) := by decide +kernel
theorem dM_get_26 : decode cM_get 26 = .ok (.iconst 0, 1) := by decide +kernel
theorem dM_get_27 : decode cM_get 27 = .ok (.istore 5, 2) := by decide +kernel
theorem dM_get_29 : decode cM_get 29 = .ok (.iload 5, 2) := by decide +kernel
theorem dM_get_31 : decode cM_get 31 = .ok (.iload_n 2, 1) := by decide +kernel
theorem dM_get_32 : decode cM_get 32 = .ok (.if_icmp .ge 51, 3) := by decide +kernel
theorem dM_get_35 : decode cM_get 35 = .ok (.lload_n 3, 1) := by decide +kernel
theorem dM_get_36 : decode cM_get 36 = .ok (.bipush 8, 2) := by decide +kernel
theorem dM_get_38 : decode cM_get 38 = .ok (.lshl, 1) := by decide +kernel
theorem dM_get_39 : decode cM_get 39 = .ok (.aload_n 0, 1) := by decide +kernel
theorem dM_get_40 : decode cM_get 40 = .ok (.getfield 7, 3) := by decide +kernel
theorem dM_get_43 : decode cM_get 43 = .ok (.aload_n 0, 1) := by decide +kernel
theorem dM_get_44 : decode cM_get 44 = .ok (.getfield 29, 3) := by decide +kernel
theorem dM_get_47 : decode cM_get 47 = .ok (.iload_n 1, 1) := by decide +kernel
theorem dM_get_48 : decode cM_get 48 = .ok (.iaload, 1) := by decide +kernel
theorem dM_get_49 : decode cM_get 49 = .ok (.aload_n 0, 1) := by decide +kernel
theorem dM_get_50 : decode cM_get 50 = .ok (.getfield 38, 3) := by decide +kernel
theorem dM_get_53 : decode cM_get 53 = .ok (.iload_n 1, 1) := by decide +kernel
theorem dM_get_54 : decode cM_get 54 = .ok (.baload, 1) := by decide +kernel
theorem dM_get_55 : decode cM_get 55 = .ok (.ifCond .eq 12, 3) := by decide +kernel
theorem dM_get_58 : decode cM_get 58 = .ok (.iload_n 2, 1) := by decide +kernel
theorem dM_get_59 : decode cM_get 59 = .ok (.iconst 1, 1) := by decide +kernel
theorem dM_get_60 : decode cM_get 60 = .ok (.isub, 1) := by decide +kernel
theorem dM_get_61 : decode cM_get 61 = .ok (.iload 5, 2) := by decide +kernel
theorem dM_get_63 : decode cM_get 63 = .ok (.isub, 1) := by decide +kernel
theorem dM_get_64 : decode cM_get 64 = .ok (.goto 5, 3) := by decide +kernel
theorem dM_get_67 : decode cM_get 67 = .ok (.iload 5, 2) := by decide +kernel
theorem dM_get_69 : decode cM_get 69 = .ok (.iadd, 1) := by decide +kernel
theorem dM_get_70 : decode cM_get 70 = .ok (.laload, 1) := by decide +kernel
theorem dM_get_71 : decode cM_get 71 = .ok (.ldc2_w 91, 3) := by decide +kernel
theorem dM_get_74 : decode cM_get 74 = .ok (.land, 1) := by decide +kernel
theorem dM_get_75 : decode cM_get 75 = .ok (.lor, 1) := by decide +kernel
theorem dM_get_76 : decode cM_get 76 = .ok (.lstore_n 3, 1) := by decide +kernel
theorem dM_get_77 : decode cM_get 77 = .ok (.iinc 5 1, 3) := by decide +kernel
theorem dM_get_80 : decode cM_get 80 = .ok (.goto (-51), 3) := by decide +kernel
theorem dM_get_83 : decode cM_get 83 = .ok (.aload_n 0, 1) := by decide +kernel
theorem dM_get_84 : decode cM_get 84 = .ok (.getfield 32, 3) := by decide +kernel
theorem dM_get_87 : decode cM_get 87 = .ok (.iload_n 1, 1) := by decide +kernel
theorem dM_get_88 : decode cM_get 88 = .ok (.iaload, 1) := by decide +kernel
theorem dM_get_89 : decode cM_get 89 = .ok (.lload_n 3, 1) := by decide +kernel
theorem dM_get_90 : decode cM_get 90 = .ok (.invokestatic 87, 3) := by decide +kernel
theorem dM_get_93 : decode cM_get 93 = .ok (.lreturn, 1) := by decide +kernel
theorem dM_set_0 : decode cM_set 0 = .ok (.aload_n 0, 1) := by decide +kernel
theorem dM_set_1 : decode cM_set 1 = .ok (.getfield 35, 3) := by decide +kernel
theorem dM_set_4 : decode cM_set 4 = .ok (.iload_n 1, 1) := by decide +kernel
theorem dM_set_5 : decode cM_set 5 = .ok (.iaload, 1) := by decide +kernel
theorem dM_set_6 : decode cM_set 6 = .ok (.istore 4, 2) := by decide +kernel
theorem dM_set_8 : decode cM_set 8 = .ok (.iload 4, 2) := by decide +kernel
theorem dM_set_10 : decode cM_set 10 = .ok (.iconst 1, 1) := by decide +kernel
theorem dM_set_11 : decode cM_set 11 = .ok (.if_icmp .ne 15, 3) := by decide +kernel
theorem dM_set_14 : decode cM_set 14 = .ok (.aload_n 0, 1) := by decide +kernel
theorem dM_set_15 : decode cM_set 15 = .ok (.getfield 7, 3) := by decide +kernel
theorem dM_set_18 : decode cM_set 18 = .ok (.aload_n 0, 1) := by decide +kernel
theorem dM_set_19 : decode cM_set 19 = .ok (.getfield 29, 3) := by decide +kernel
theorem dM_set_22 : decode cM_set 22 = .ok (.iload_n 1, 1) := by decide +kernel
theorem dM_set_23 : decode cM_set 23 = .ok (.iaload, 1) := by decide +kernel
theorem dM_set_24 : decode cM_set 24 = .ok (.lload_n 2, 1) := by decide +kernel
theorem dM_set_25 : decode cM_set 25 = .ok (.lastore, 1) := by decide +kernel
theorem dM_set_26 : decode cM_set 26 = .ok (.iconst 0, 1) := by decide +kernel
theorem dM_set_27 : decode cM_set 27 = .ok (.istore 5, 2) := by decide +kernel
theorem dM_set_29 : decode cM_set 29 = .ok (.iload 4, 2) := by decide +kernel
theorem dM_set_31 : decode cM_set 31 = .ok (.iconst 1, 1) := by decide +kernel
theorem dM_set_32 : decode cM_set 32 = .ok (.if_icmp .le 59, 3) := by decide +kernel
theorem dM_set_35 : decode cM_set 35 = .ok (.iload 5, 2) := by decide +kernel
theorem dM_set_37 : decode cM_set 37 = .ok (.iload 4, 2) := by decide +kernel
theorem dM_set_39 : decode cM_set 39 = .ok (.if_icmp .ge 52, 3) := by decide +kernel
theorem dM_set_42 : decode cM_set 42 = .ok (.aload_n 0, 1) := by decide +kernel
theorem dM_set_43 : decode cM_set 43 = .ok (.getfield 7, 3) := by decide +kernel
theorem dM_set_46 : decode cM_set 46 = .ok (.aload_n 0, 1) := by decide +kernel
theorem dM_set_47 : decode cM_set 47 = .ok (.getfield 29, 3) := by decide +kernel
theorem dM_set_50 : decode cM_set 50 = .ok (.iload_n 1, 1) := by decide +kernel
theorem dM_set_51 : decode cM_set 51 = .ok (.iaload, 1) := by decide +kernel
theorem dM_set_52 : decode cM_set 52 = .ok (.aload_n 0, 1) := by decide +kernel
theorem dM_set_53 : decode cM_set 53 = .ok (.getfield 38, 3) := by decide +kernel
theorem dM_set_56 : decode cM_set 56 = .ok (.iload_n 1, 1) := by decide +kernel
theorem dM_set_57 : decode cM_set 57 = .ok (.baload, 1) := by decide +kernel
theorem dM_set_58 : decode cM_set 58 = .ok (.ifCond .eq 8, 3) := by decide +kernel
theorem dM_set_61 : decode cM_set 61 = .ok (.iload 5, 2) := by decide +kernel
theorem dM_set_63 : decode cM_set 63 = .ok (.goto 10, 3) := by decide +kernel
theorem dM_set_66 : decode cM_set 66 = .ok (.iload 4, 2) := by decide +kernel
theorem dM_set_68 : decode cM_set 68 = .ok (.iconst 1, 1) := by decide +kernel
theorem dM_set_69 : decode cM_set 69 = .ok (.isub, 1) := by decide +kernel
theorem dM_set_70 : decode cM_set 70 = .ok (.iload 5, 2) := by decide +kernel
theorem dM_set_72 : decode cM_set 72 = .ok (.isub, 1) := by decide +kernel
theorem dM_set_73 : decode cM_set 73 = .ok (.iadd, 1) := by decide +kernel
theorem dM_set_74 : decode cM_set 74 = .ok (.lload_n 2, 1) := by decide +kernel
theorem dM_set_75 : decode cM_set 75 = .ok (.bipush 8, 2) := by decide +kernel
theorem dM_set_77 : decode cM_set 77 = .ok (.iload 5, 2) := by decide +kernel
theorem dM_set_79 : decode cM_set 79 = .ok (.imul, 1) := by decide +kernel
theorem dM_set_80 : decode cM_set 80 = .ok (.lshr, 1) := by decide +kernel
theorem dM_set_81 : decode cM_set 81 = .ok (.l2i, 1) := by decide +kernel
theorem dM_set_82 : decode cM_set 82 = .ok (.i2b, 1) := by decide +kernel
theorem dM_set_83 : decode cM_set 83 = .ok (.i2l, 1) := by decide +kernel
theorem dM_set_84 : decode cM_set 84 = .ok (.lastore, 1) := by decide +kernel
theorem dM_set_85 : decode cM_set 85 = .ok (.iinc 5 1, 3) := by decide +kernel
theorem dM_set_88 : decode cM_set 88 = .ok (.goto (-59), 3) := by decide +kernel
theorem dM_set_91 : decode cM_set 91 = .ok (.return_, 1) := by decide +kernel
theorem dM_act_0 : decode cM_act 0 = .ok (.aload_n 0, 1) := by decide +kernel
theorem dM_act_1 : decode cM_act 1 = .ok (.iload_n 1, 1) := by decide +kernel
theorem dM_act_2 : decode cM_act 2 = .ok (.invokevirtual 82, 3) := by decide +kernel
theorem dM_act_5 : decode cM_act 5 = .ok (.ifCond .eq 17, 3) := by decide +kernel
theorem dM_act_8 : decode cM_act 8 = .ok (.iload_n 2, 1) := by decide +kernel
theorem dM_act_9 : decode cM_act 9 = .ok (.ifCond .lt 13, 3) := by decide +kernel
theorem dM_act_12 : decode cM_act 12 = .ok (.iload_n 2, 1) := by decide +kernel
theorem dM_act_13 : decode cM_act 13 = .ok (.bipush 7, 2) := by decide +kernel
theorem dM_act_15 : decode cM_act 15 = .ok (.if_icmp .gt 7, 3) := by decide +kernel
theorem dM_act_18 : decode cM_act 18 = .ok (.iconst 1, 1) := by decide +kernel
theorem dM_act_19 : decode cM_act 19 = .ok (.goto 4, 3) := by decide +kernel
theorem dM_act_22 : decode cM_act 22 = .ok (.iconst 0, 1) := by decide +kernel
theorem dM_act_23 : decode cM_act 23 = .ok (.istore 7, 2) := by decide +kernel
theorem dM_act_25 : decode cM_act 25 = .ok (.iload 7, 2) := by decide +kernel
theorem dM_act_27 : decode cM_act 27 = .ok (.ifCond .eq 12, 3) := by decide +kernel
theorem dM_act_30 : decode cM_act 30 = .ok (.aload_n 0, 1) := by decide +kernel
theorem dM_act_31 : decode cM_act 31 = .ok (.getfield 32, 3) := by decide +kernel
theorem dM_act_34 : decode cM_act 34 = .ok (.iload_n 1, 1) := by decide +kernel
theorem dM_act_35 : decode cM_act 35 = .ok (.iaload, 1) := by decide +kernel
theorem dM_act_36 : decode cM_act 36 = .ok (.goto 4, 3) := by decide +kernel
theorem dM_act_39 : decode cM_act 39 = .ok (.iconst 0, 1) := by decide +kernel
theorem dM_act_40 : decode cM_act 40 = .ok (.istore 8, 2) := by decide +kernel
theorem dM_act_42 : decode cM_act 42 = .ok (.iload 7, 2) := by decide +kernel
theorem dM_act_44 : decode cM_act 44 = .ok (.ifCond .eq 30, 3) := by decide +kernel
theorem dM_act_47 : decode cM_act 47 = .ok (.iload_n 2, 1) := by decide +kernel
theorem dM_act_48 : decode cM_act 48 = .ok (.iconst 4, 1) := by decide +kernel
theorem dM_act_49 : decode cM_act 49 = .ok (.if_icmp .ne 9, 3) := by decide +kernel
theorem dM_act_52 : decode cM_act 52 = .ok (.iload 8, 2) := by decide +kernel
theorem dM_act_54 : decode cM_act 54 = .ok (.iconst 1, 1) := by decide +kernel
theorem dM_act_55 : decode cM_act 55 = .ok (.if_icmp .eq 19, 3) := by decide +kernel
theorem dM_act_58 : decode cM_act 58 = .ok (.iload_n 2, 1) := by decide +kernel
theorem dM_act_59 : decode cM_act 59 = .ok (.iconst 3, 1) := by decide +kernel
theorem dM_act_60 : decode cM_act 60 = .ok (.if_icmp .le 10, 3) := by decide +kernel
theorem dM_act_63 : decode cM_act 63 = .ok (.iload 8, 2) := by decide +kernel
theorem dM_act_65 : decode cM_act 65 = .ok (.bipush 7, 2) := by decide +kernel
theorem dM_act_67 : decode cM_act 67 = .ok (.if_icmp .eq 7, 3) := by decide +kernel
theorem dM_act_70 : decode cM_act 70 = .ok (.iconst 1, 1) := by decide +kernel
theorem dM_act_71 : decode cM_act 71 = .ok (.goto 4, 3) := by decide +kernel
theorem dM_act_74 : decode cM_act 74 = .ok (.iconst 0, 1) := by decide +kernel
theorem dM_act_75 : decode cM_act 75 = .ok (.istore 7, 2) := by decide +kernel
theorem dM_act_77 : decode cM_act 77 = .ok (.iload 7, 2) := by decide +kernel
theorem dM_act_79 : decode cM_act 79 = .ok (.ifCond .eq 37, 3) := by decide +kernel
theorem dM_act_82 : decode cM_act 82 = .ok (.iload_n 2, 1) := by decide +kernel
theorem dM_act_83 : decode cM_act 83 = .ok (.ifCond .eq 13, 3) := by decide +kernel
theorem dM_act_86 : decode cM_act 86 = .ok (.aload_n 0, 1) := by decide +kernel
theorem dM_act_87 : decode cM_act 87 = .ok (.iload 8, 2) := by decide +kernel
theorem dM_act_89 : decode cM_act 89 = .ok (.lload_n 3, 1) := by decide +kernel
theorem dM_act_90 : decode cM_act 90 = .ok (.invokevirtual 93, 3) := by decide +kernel
theorem dM_act_93 : decode cM_act 93 = .ok (.ifCond .eq 23, 3) := by decide +kernel
theorem dM_act_96 : decode cM_act 96 = .ok (.iload_n 2, 1) := by decide +kernel
theorem dM_act_97 : decode cM_act 97 = .ok (.iconst 3, 1) := by decide +kernel
theorem dM_act_98 : decode cM_act 98 = .ok (.if_icmp .ne 14, 3) := by decide +kernel
theorem dM_act_101 : decode cM_act 101 = .ok (.aload_n 0, 1) := by decide +kernel
theorem dM_act_102 : decode cM_act 102 = .ok (.iload 8, 2) := by decide +kernel
theorem dM_act_104 : decode cM_act 104 = .ok (.lload 5, 2) := by decide +kernel
theorem dM_act_106 : decode cM_act 106 = .ok (.invokevirtual 93, 3) := by decide +kernel
theorem dM_act_109 : decode cM_act 109 = .ok (.ifCond .eq 7, 3) := by decide +kernel
theorem dM_act_112 : decode cM_act 112 = .ok (.iconst 1, 1) := by decide +kernel
theorem dM_act_113 : decode cM_act 113 = .ok (.goto 4, 3) := by decide +kernel
theorem dM_act_116 : decode cM_act 116 = .ok (.iconst 0, 1) := by decide +kernel
theorem dM_act_117 : decode cM_act 117 = .ok (.istore 7, 2) := by decide +kernel
theorem dM_act_119 : decode cM_act 119 = .ok (.aload_n 0, 1) := by decide +kernel
theorem dM_act_120 : decode cM_act 120 = .ok (.iload 7, 2) := by decide +kernel
theorem dM_act_122 : decode cM_act 122 = .ok (.ifCond .eq 7, 3) := by decide +kernel
theorem dM_act_125 : decode cM_act 125 = .ok (.iconst 0, 1) := by decide +kernel
theorem dM_act_126 : decode cM_act 126 = .ok (.goto 4, 3) := by decide +kernel
theorem dM_act_129 : decode cM_act 129 = .ok (.iconst 1, 1) := by decide +kernel
theorem dM_act_130 : decode cM_act 130 = .ok (.putfield 49, 3) := by decide +kernel
theorem dM_act_133 : decode cM_act 133 = .ok (.iload 7, 2) := by decide +kernel
theorem dM_act_135 : decode cM_act 135 = .ok (.ifCond .ne 5, 3) := by decide +kernel
theorem dM_act_138 : decode cM_act 138 = .ok (.lconst 0, 1) := by decide +kernel
theorem dM_act_139 : decode cM_act 139 = .ok (.lreturn, 1) := by decide +kernel
theorem dM_act_140 : decode cM_act 140 = .ok (.aload_n 0, 1) := by decide +kernel
theorem dM_act_141 : decode cM_act 141 = .ok (.iload_n 1, 1) := by decide +kernel
theorem dM_act_142 : decode cM_act 142 = .ok (.invokevirtual 97, 3) := by decide +kernel
theorem dM_act_145 : decode cM_act 145 = .ok (.lstore 9, 2) := by decide +kernel
theorem dM_act_147 : decode cM_act 147 = .ok (.iload_n 2, 1) := by decide +kernel
theorem dM_act_148 : decode cM_act 148 = .ok (.tableswitch 142 0 6 #[44, 47, 55, 64, 91, 108, 125], 44) := by decide +kernel
theorem dM_act_192 : decode cM_act 192 = .ok (.lload 9, 2) := by decide +kernel
theorem dM_act_194 : decode cM_act 194 = .ok (.lreturn, 1) := by decide +kernel
theorem dM_act_195 : decode cM_act 195 = .ok (.aload_n 0, 1) := by decide +kernel
theorem dM_act_196 : decode cM_act 196 = .ok (.iload_n 1, 1) := by decide +kernel
theorem dM_act_197 : decode cM_act 197 = .ok (.lload_n 3, 1) := by decide +kernel
theorem dM_act_198 : decode cM_act 198 = .ok (.invokevirtual 101, 3) := by decide +kernel
theorem dM_act_201 : decode cM_act 201 = .ok (.lconst 0, 1) := by decide +kernel
theorem dM_act_202 : decode cM_act 202 = .ok (.lreturn, 1) := by decide +kernel
theorem dM_act_203 : decode cM_act 203 = .ok (.aload_n 0, 1) := by decide +kernel
theorem dM_act_204 : decode cM_act 204 = .ok (.iload_n 1, 1) := by decide +kernel
theorem dM_act_205 : decode cM_act 205 = .ok (.lload_n 3, 1) := by decide +kernel
theorem dM_act_206 : decode cM_act 206 = .ok (.invokevirtual 101, 3) := by decide +kernel
theorem dM_act_209 : decode cM_act 209 = .ok (.goto 99, 3) := by decide +kernel
theorem dM_act_212 : decode cM_act 212 = .ok (.lload 9, 2) := by decide +kernel
theorem dM_act_214 : decode cM_act 214 = .ok (.lload_n 3, 1) := by decide +kernel
theorem dM_act_215 : decode cM_act 215 = .ok (.lcmp, 1) := by decide +kernel
theorem dM_act_216 : decode cM_act 216 = .ok (.ifCond .ne 10, 3) := by decide +kernel
theorem dM_act_219 : decode cM_act 219 = .ok (.aload_n 0, 1) := by decide +kernel
theorem dM_act_220 : decode cM_act 220 = .ok (.iload_n 1, 1) := by decide +kernel
theorem dM_act_221 : decode cM_act 221 = .ok (.lload 5, 2) := by decide +kernel
theorem dM_act_223 : decode cM_act 223 = .ok (.invokevirtual 101, 3) := by decide +kernel
theorem dM_act_226 : decode cM_act 226 = .ok (.lload 9, 2) := by decide +kernel
theorem dM_act_228 : decode cM_act 228 = .ok (.lload_n 3, 1) := by decide +kernel
theorem dM_act_229 : decode cM_act 229 = .ok (.lcmp, 1) := by decide +kernel
theorem dM_act_230 : decode cM_act 230 = .ok (.ifCond .ne 7, 3) := by decide +kernel
theorem dM_act_233 : decode cM_act 233 = .ok (.lconst 1, 1) := by decide +kernel
theorem dM_act_234 : decode cM_act 234 = .ok (.goto 4, 3) := by decide +kernel
theorem dM_act_237 : decode cM_act 237 = .ok (.lconst 0, 1) := by decide +kernel
theorem dM_act_238 : decode cM_act 238 = .ok (.lreturn, 1) := by decide +kernel
theorem dM_act_239 : decode cM_act 239 = .ok (.aload_n 0, 1) := by decide +kernel
theorem dM_act_240 : decode cM_act 240 = .ok (.iload_n 1, 1) := by decide +kernel
theorem dM_act_241 : decode cM_act 241 = .ok (.iload 8, 2) := by decide +kernel
theorem dM_act_243 : decode cM_act 243 = .ok (.lload 9, 2) := by decide +kernel
theorem dM_act_245 : decode cM_act 245 = .ok (.lload_n 3, 1) := by decide +kernel
theorem dM_act_246 : decode cM_act 246 = .ok (.ladd, 1) := by decide +kernel
theorem dM_act_247 : decode cM_act 247 = .ok (.invokestatic 87, 3) := by decide +kernel
theorem dM_act_250 : decode cM_act 250 = .ok (.invokevirtual 101, 3) := by decide +kernel
theorem dM_act_253 : decode cM_act 253 = .ok (.goto 55, 3) := by decide +kernel
theorem dM_act_256 : decode cM_act 256 = .ok (.aload_n 0, 1) := by decide +kernel
theorem dM_act_257 : decode cM_act 257 = .ok (.iload_n 1, 1) := by decide +kernel
theorem dM_act_258 : decode cM_act 258 = .ok (.iload 8, 2) := by decide +kernel
theorem dM_act_260 : decode cM_act 260 = .ok (.lload 9, 2) := by decide +kernel
theorem dM_act_262 : decode cM_act 262 = .ok (.lload_n 3, 1) := by decide +kernel
theorem dM_act_263 : decode cM_act 263 = .ok (.land, 1) := by decide +kernel
theorem dM_act_264 : decode cM_act 264 = .ok (.invokestatic 87, 3) := by decide +kernel
theorem dM_act_267 : decode cM_act 267 = .ok (.invokevirtual 101, 3) := by decide +kernel
theorem dM_act_270 : decode cM_act 270 = .ok (.goto 38, 3) := by decide +kernel
theorem dM_act_273 : decode cM_act 273 = .ok (.aload_n 0, 1) := by decide +kernel
theorem dM_act_274 : decode cM_act 274 = .ok (.iload_n 1, 1) := by decide +kernel
theorem dM_act_275 : decode cM_act 275 = .ok (.iload 8, 2) := by decide +kernel
theorem dM_act_277 : decode cM_act 277 = .ok (.lload 9, 2) := by decide +kernel
theorem dM_act_279 : decode cM_act 279 = .ok (.lload_n 3, 1) := by decide +kernel
theorem dM_act_280 : decode cM_act 280 = .ok (.lor, 1) := by decide +kernel
theorem dM_act_281 : decode cM_act 281 = .ok (.invokestatic 87, 3) := by decide +kernel
theorem dM_act_284 : decode cM_act 284 = .ok (.invokevirtual 101, 3) := by decide +kernel
theorem dM_act_287 : decode cM_act 287 = .ok (.goto 21, 3) := by decide +kernel
theorem dM_act_290 : decode cM_act 290 = .ok (.aload_n 0, 1) := by decide +kernel
theorem dM_act_291 : decode cM_act 291 = .ok (.iload_n 1, 1) := by decide +kernel
theorem dM_act_292 : decode cM_act 292 = .ok (.lload 9, 2) := by decide +kernel
theorem dM_act_294 : decode cM_act 294 = .ok (.lload_n 3, 1) := by decide +kernel
theorem dM_act_295 : decode cM_act 295 = .ok (.lcmp, 1) := by decide +kernel
theorem dM_act_296 : decode cM_act 296 = .ok (.ifCond .le 8, 3) := by decide +kernel
theorem dM_act_299 : decode cM_act 299 = .ok (.lload 9, 2) := by decide +kernel
theorem dM_act_301 : decode cM_act 301 = .ok (.goto 4, 3) := by decide +kernel
theorem dM_act_304 : decode cM_act 304 = .ok (.lload_n 3, 1) := by decide +kernel
theorem dM_act_305 : decode cM_act 305 = .ok (.invokevirtual 101, 3) := by decide +kernel
theorem dM_act_308 : decode cM_act 308 = .ok (.lload 9, 2) := by decide +kernel
theorem dM_act_310 : decode cM_act 310 = .ok (.lreturn, 1) := by decide +kernel
theorem dM_copy_0 : decode cM_copy 0 = .ok (.aload_n 0, 1) := by decide +kernel
theorem dM_copy_1 : decode cM_copy 1 = .ok (.iconst 0, 1) := by decide +kernel
theorem dM_copy_2 : decode cM_copy 2 = .ok (.putfield 49, 3) := by decide +kernel
theorem dM_copy_5 : decode cM_copy 5 = .ok (.aload_n 0, 1) := by decide +kernel
theorem dM_copy_6 : decode cM_copy 6 = .ok (.iload_n 1, 1) := by decide +kernel
theorem dM_copy_7 : decode cM_copy 7 = .ok (.invokevirtual 72, 3) := by decide +kernel
theorem dM_copy_10 : decode cM_copy 10 = .ok (.ifCond .eq 40, 3) := by decide +kernel
theorem dM_copy_13 : decode cM_copy 13 = .ok (.aload_n 0, 1) := by decide +kernel
theorem dM_copy_14 : decode cM_copy 14 = .ok (.iload_n 3, 1) := by decide +kernel
theorem dM_copy_15 : decode cM_copy 15 = .ok (.invokevirtual 72, 3) := by decide +kernel
theorem dM_copy_18 : decode cM_copy 18 = .ok (.ifCond .eq 32, 3) := by decide +kernel
theorem dM_copy_21 : decode cM_copy 21 = .ok (.aload_n 0, 1) := by decide +kernel
theorem dM_copy_22 : decode cM_copy 22 = .ok (.getfield 23, 3) := by decide +kernel
theorem dM_copy_25 : decode cM_copy 25 = .ok (.iload_n 1, 1) := by decide +kernel
theorem dM_copy_26 : decode cM_copy 26 = .ok (.iaload, 1) := by decide +kernel
theorem dM_copy_27 : decode cM_copy 27 = .ok (.ifCond .eq 23, 3) := by decide +kernel
theorem dM_copy_30 : decode cM_copy 30 = .ok (.aload_n 0, 1) := by decide +kernel
theorem dM_copy_31 : decode cM_copy 31 = .ok (.getfield 23, 3) := by decide +kernel
theorem dM_copy_34 : decode cM_copy 34 = .ok (.iload_n 1, 1) := by decide +kernel
theorem dM_copy_35 : decode cM_copy 35 = .ok (.iaload, 1) := by decide +kernel
theorem dM_copy_36 : decode cM_copy 36 = .ok (.aload_n 0, 1) := by decide +kernel
theorem dM_copy_37 : decode cM_copy 37 = .ok (.getfield 23, 3) := by decide +kernel
theorem dM_copy_40 : decode cM_copy 40 = .ok (.iload_n 3, 1) := by decide +kernel
theorem dM_copy_41 : decode cM_copy 41 = .ok (.iaload, 1) := by decide +kernel
theorem dM_copy_42 : decode cM_copy 42 = .ok (.if_icmp .ne 8, 3) := by decide +kernel
theorem dM_copy_45 : decode cM_copy 45 = .ok (.iload 5, 2) := by decide +kernel
theorem dM_copy_47 : decode cM_copy 47 = .ok (.ifCond .ge 5, 3) := by decide +kernel
theorem dM_copy_50 : decode cM_copy 50 = .ok (.iconst 0, 1) := by decide +kernel
theorem dM_copy_51 : decode cM_copy 51 = .ok (.ireturn, 1) := by decide +kernel
theorem dM_copy_52 : decode cM_copy 52 = .ok (.iload_n 2, 1) := by decide +kernel
theorem dM_copy_53 : decode cM_copy 53 = .ok (.ifCond .lt 43, 3) := by decide +kernel
theorem dM_copy_56 : decode cM_copy 56 = .ok (.iload 4, 2) := by decide +kernel
theorem dM_copy_58 : decode cM_copy 58 = .ok (.ifCond .lt 38, 3) := by decide +kernel
theorem dM_copy_61 : decode cM_copy 61 = .ok (.iload_n 2, 1) := by decide +kernel
theorem dM_copy_62 : decode cM_copy 62 = .ok (.i2l, 1) := by decide +kernel
theorem dM_copy_63 : decode cM_copy 63 = .ok (.iload 5, 2) := by decide +kernel
theorem dM_copy_65 : decode cM_copy 65 = .ok (.i2l, 1) := by decide +kernel
theorem dM_copy_66 : decode cM_copy 66 = .ok (.ladd, 1) := by decide +kernel
theorem dM_copy_67 : decode cM_copy 67 = .ok (.aload_n 0, 1) := by decide +kernel
theorem dM_copy_68 : decode cM_copy 68 = .ok (.getfield 20, 3) := by decide +kernel
theorem dM_copy_71 : decode cM_copy 71 = .ok (.iload_n 1, 1) := by decide +kernel
theorem dM_copy_72 : decode cM_copy 72 = .ok (.iaload, 1) := by decide +kernel
theorem dM_copy_73 : decode cM_copy 73 = .ok (.i2l, 1) := by decide +kernel
theorem dM_copy_74 : decode cM_copy 74 = .ok (.lcmp, 1) := by decide +kernel
theorem dM_copy_75 : decode cM_copy 75 = .ok (.ifCond .gt 21, 3) := by decide +kernel
theorem dM_copy_78 : decode cM_copy 78 = .ok (.iload 4, 2) := by decide +kernel
theorem dM_copy_80 : decode cM_copy 80 = .ok (.i2l, 1) := by decide +kernel
theorem dM_copy_81 : decode cM_copy 81 = .ok (.iload 5, 2) := by decide +kernel
theorem dM_copy_83 : decode cM_copy 83 = .ok (.i2l, 1) := by decide +kernel
theorem dM_copy_84 : decode cM_copy 84 = .ok (.ladd, 1) := by decide +kernel
theorem dM_copy_85 : decode cM_copy 85 = .ok (.aload_n 0, 1) := by decide +kernel
theorem dM_copy_86 : decode cM_copy 86 = .ok (.getfield 20, 3) := by decide +kernel
theorem dM_copy_89 : decode cM_copy 89 = .ok (.iload_n 3, 1) := by decide +kernel
theorem dM_copy_90 : decode cM_copy 90 = .ok (.iaload, 1) := by decide +kernel
theorem dM_copy_91 : decode cM_copy 91 = .ok (.i2l, 1) := by decide +kernel
theorem dM_copy_92 : decode cM_copy 92 = .ok (.lcmp, 1) := by decide +kernel
theorem dM_copy_93 : decode cM_copy 93 = .ok (.ifCond .le 5, 3) := by decide +kernel
theorem dM_copy_96 : decode cM_copy 96 = .ok (.iconst 0, 1) := by decide +kernel
theorem dM_copy_97 : decode cM_copy 97 = .ok (.ireturn, 1) := by decide +kernel
theorem dM_copy_98 : decode cM_copy 98 = .ok (.aload_n 0, 1) := by decide +kernel
theorem dM_copy_99 : decode cM_copy 99 = .ok (.getfield 17, 3) := by decide +kernel
theorem dM_copy_102 : decode cM_copy 102 = .ok (.iload_n 1, 1) := by decide +kernel
theorem dM_copy_103 : decode cM_copy 103 = .ok (.iaload, 1) := by decide +kernel
theorem dM_copy_104 : decode cM_copy 104 = .ok (.iload_n 2, 1) := by decide +kernel
theorem dM_copy_105 : decode cM_copy 105 = .ok (.iadd, 1) := by decide +kernel
theorem dM_copy_106 : decode cM_copy 106 = .ok (.istore 6, 2) := by decide +kernel
theorem dM_copy_108 : decode cM_copy 108 = .ok (.aload_n 0, 1) := by decide +kernel
theorem dM_copy_109 : decode cM_copy 109 = .ok (.getfield 17, 3) := by decide +kernel
theorem dM_copy_112 : decode cM_copy 112 = .ok (.iload_n 3, 1) := by decide +kernel
theorem dM_copy_113 : decode cM_copy 113 = .ok (.iaload, 1) := by decide +kernel
theorem dM_copy_114 : decode cM_copy 114 = .ok (.iload 4, 2) := by decide +kernel
theorem dM_copy_116 : decode cM_copy 116 = .ok (.iadd, 1) := by decide +kernel
theorem dM_copy_117 : decode cM_copy 117 = .ok (.istore 7, 2) := by decide +kernel
theorem dM_copy_119 : decode cM_copy 119 = .ok (.iconst 0, 1) := by decide +kernel
theorem dM_copy_120 : decode cM_copy 120 = .ok (.istore 8, 2) := by decide +kernel
theorem dM_copy_122 : decode cM_copy 122 = .ok (.iload 8, 2) := by decide +kernel
theorem dM_copy_124 : decode cM_copy 124 = .ok (.iload 5, 2) := by decide +kernel
theorem dM_copy_126 : decode cM_copy 126 = .ok (.if_icmp .ge 50, 3) := by decide +kernel
theorem dM_copy_129 : decode cM_copy 129 = .ok (.iload 6, 2) := by decide +kernel
theorem dM_copy_131 : decode cM_copy 131 = .ok (.iload 7, 2) := by decide +kernel
theorem dM_copy_133 : decode cM_copy 133 = .ok (.if_icmp .ge 13, 3) := by decide +kernel
theorem dM_copy_136 : decode cM_copy 136 = .ok (.iload 5, 2) := by decide +kernel
theorem dM_copy_138 : decode cM_copy 138 = .ok (.iconst 1, 1) := by decide +kernel
theorem dM_copy_139 : decode cM_copy 139 = .ok (.isub, 1) := by decide +kernel
theorem dM_copy_140 : decode cM_copy 140 = .ok (.iload 8, 2) := by decide +kernel
theorem dM_copy_142 : decode cM_copy 142 = .ok (.isub, 1) := by decide +kernel
theorem dM_copy_143 : decode cM_copy 143 = .ok (.goto 5, 3) := by decide +kernel
theorem dM_copy_146 : decode cM_copy 146 = .ok (.iload 8, 2) := by decide +kernel
theorem dM_copy_148 : decode cM_copy 148 = .ok (.istore 9, 2) := by decide +kernel
theorem dM_copy_150 : decode cM_copy 150 = .ok (.aload_n 0, 1) := by decide +kernel
theorem dM_copy_151 : decode cM_copy 151 = .ok (.getfield 7, 3) := by decide +kernel
theorem dM_copy_154 : decode cM_copy 154 = .ok (.iload 7, 2) := by decide +kernel
theorem dM_copy_156 : decode cM_copy 156 = .ok (.iload 9, 2) := by decide +kernel
theorem dM_copy_158 : decode cM_copy 158 = .ok (.iadd, 1) := by decide +kernel
theorem dM_copy_159 : decode cM_copy 159 = .ok (.aload_n 0, 1) := by decide +kernel
theorem dM_copy_160 : decode cM_copy 160 = .ok (.getfield 7, 3) := by decide +kernel
theorem dM_copy_163 : decode cM_copy 163 = .ok (.iload 6, 2) := by decide +kernel
theorem dM_copy_165 : decode cM_copy 165 = .ok (.iload 9, 2) := by decide +kernel
theorem dM_copy_167 : decode cM_copy 167 = .ok (.iadd, 1) := by decide +kernel
theorem dM_copy_168 : decode cM_copy 168 = .ok (.laload, 1) := by decide +kernel
theorem dM_copy_169 : decode cM_copy 169 = .ok (.lastore, 1) := by decide +kernel
theorem dM_copy_170 : decode cM_copy 170 = .ok (.iinc 8 1, 3) := by decide +kernel
theorem dM_copy_173 : decode cM_copy 173 = .ok (.goto (-51), 3) := by decide +kernel
theorem dM_copy_176 : decode cM_copy 176 = .ok (.iconst 1, 1) := by decide +kernel
theorem dM_copy_177 : decode cM_copy 177 = .ok (.ireturn, 1) := by decide +kernel
theorem dM_meet_0 : decode cM_meet 0 = .ok (.aload_n 0, 1) := by decide +kernel
theorem dM_meet_1 : decode cM_meet 1 = .ok (.iconst 0, 1) := by decide +kernel
theorem dM_meet_2 : decode cM_meet 2 = .ok (.putfield 49, 3) := by decide +kernel
theorem dM_meet_5 : decode cM_meet 5 = .ok (.aload_n 0, 1) := by decide +kernel
theorem dM_meet_6 : decode cM_meet 6 = .ok (.iload_n 1, 1) := by decide +kernel
theorem dM_meet_7 : decode cM_meet 7 = .ok (.invokevirtual 82, 3) := by decide +kernel
theorem dM_meet_10 : decode cM_meet 10 = .ok (.ifCond .eq 59, 3) := by decide +kernel
theorem dM_meet_13 : decode cM_meet 13 = .ok (.aload_n 0, 1) := by decide +kernel
theorem dM_meet_14 : decode cM_meet 14 = .ok (.iload_n 2, 1) := by decide +kernel
theorem dM_meet_15 : decode cM_meet 15 = .ok (.invokevirtual 82, 3) := by decide +kernel
theorem dM_meet_18 : decode cM_meet 18 = .ok (.ifCond .eq 51, 3) := by decide +kernel
theorem dM_meet_21 : decode cM_meet 21 = .ok (.aload_n 0, 1) := by decide +kernel
theorem dM_meet_22 : decode cM_meet 22 = .ok (.getfield 29, 3) := by decide +kernel
theorem dM_meet_25 : decode cM_meet 25 = .ok (.iload_n 1, 1) := by decide +kernel
theorem dM_meet_26 : decode cM_meet 26 = .ok (.iaload, 1) := by decide +kernel
theorem dM_meet_27 : decode cM_meet 27 = .ok (.aload_n 0, 1) := by decide +kernel
theorem dM_meet_28 : decode cM_meet 28 = .ok (.getfield 29, 3) := by decide +kernel
theorem dM_meet_31 : decode cM_meet 31 = .ok (.iload_n 2, 1) := by decide +kernel
theorem dM_meet_32 : decode cM_meet 32 = .ok (.iaload, 1) := by decide +kernel
theorem dM_meet_33 : decode cM_meet 33 = .ok (.aload_n 0, 1) := by decide +kernel
theorem dM_meet_34 : decode cM_meet 34 = .ok (.getfield 35, 3) := by decide +kernel
theorem dM_meet_37 : decode cM_meet 37 = .ok (.iload_n 2, 1) := by decide +kernel
theorem dM_meet_38 : decode cM_meet 38 = .ok (.iaload, 1) := by decide +kernel
theorem dM_meet_39 : decode cM_meet 39 = .ok (.iadd, 1) := by decide +kernel
theorem dM_meet_40 : decode cM_meet 40 = .ok (.if_icmp .ge 29, 3) := by decide +kernel
theorem dM_meet_43 : decode cM_meet 43 = .ok (.aload_n 0, 1) := by decide +kernel
theorem dM_meet_44 : decode cM_meet 44 = .ok (.getfield 29, 3) := by decide +kernel
theorem dM_meet_47 : decode cM_meet 47 = .ok (.iload_n 2, 1) := by decide +kernel
theorem dM_meet_48 : decode cM_meet 48 = .ok (.iaload, 1) := by decide +kernel
theorem dM_meet_49 : decode cM_meet 49 = .ok (.aload_n 0, 1) := by decide +kernel
theorem dM_meet_50 : decode cM_meet 50 = .ok (.getfield 29, 3) := by decide +kernel
theorem dM_meet_53 : decode cM_meet 53 = .ok (.iload_n 1, 1) := by decide +kernel
theorem dM_meet_54 : decode cM_meet 54 = .ok (.iaload, 1) := by decide +kernel
theorem dM_meet_55 : decode cM_meet 55 = .ok (.aload_n 0, 1) := by decide +kernel
theorem dM_meet_56 : decode cM_meet 56 = .ok (.getfield 35, 3) := by decide +kernel
theorem dM_meet_59 : decode cM_meet 59 = .ok (.iload_n 1, 1) := by decide +kernel
theorem dM_meet_60 : decode cM_meet 60 = .ok (.iaload, 1) := by decide +kernel
theorem dM_meet_61 : decode cM_meet 61 = .ok (.iadd, 1) := by decide +kernel
theorem dM_meet_62 : decode cM_meet 62 = .ok (.if_icmp .ge 7, 3) := by decide +kernel
theorem dM_meet_65 : decode cM_meet 65 = .ok (.iconst 1, 1) := by decide +kernel
theorem dM_meet_66 : decode cM_meet 66 = .ok (.goto 4, 3) := by decide +kernel
theorem dM_meet_69 : decode cM_meet 69 = .ok (.iconst 0, 1) := by decide +kernel
theorem dM_meet_70 : decode cM_meet 70 = .ok (.ireturn, 1) := by decide +kernel
theorem dM_mark_0 : decode cM_mark 0 = .ok (.aload_n 0, 1) := by decide +kernel
theorem dM_mark_1 : decode cM_mark 1 = .ok (.iconst 0, 1) := by decide +kernel
theorem dM_mark_2 : decode cM_mark 2 = .ok (.putfield 49, 3) := by decide +kernel
theorem dM_mark_5 : decode cM_mark 5 = .ok (.aload_n 0, 1) := by decide +kernel
theorem dM_mark_6 : decode cM_mark 6 = .ok (.getfield 105, 3) := by decide +kernel
theorem dM_mark_9 : decode cM_mark 9 = .ok (.bipush 20, 2) := by decide +kernel
theorem dM_mark_11 : decode cM_mark 11 = .ok (.if_icmp .ne 5, 3) := by decide +kernel
theorem dM_mark_14 : decode cM_mark 14 = .ok (.iconst (-1), 1) := by decide +kernel
theorem dM_mark_15 : decode cM_mark 15 = .ok (.ireturn, 1) := by decide +kernel
theorem dM_mark_16 : decode cM_mark 16 = .ok (.iconst 0, 1) := by decide +kernel
theorem dM_mark_17 : decode cM_mark 17 = .ok (.istore_n 1, 1) := by decide +kernel
theorem dM_mark_18 : decode cM_mark 18 = .ok (.iload_n 1, 1) := by decide +kernel
theorem dM_mark_19 : decode cM_mark 19 = .ok (.aload_n 0, 1) := by decide +kernel
theorem dM_mark_20 : decode cM_mark 20 = .ok (.getfield 56, 3) := by decide +kernel
theorem dM_mark_23 : decode cM_mark 23 = .ok (.if_icmp .ge 30, 3) := by decide +kernel
theorem dM_mark_26 : decode cM_mark 26 = .ok (.aload_n 0, 1) := by decide +kernel
theorem dM_mark_27 : decode cM_mark 27 = .ok (.getfield 43, 3) := by decide +kernel
theorem dM_mark_30 : decode cM_mark 30 = .ok (.sipush 4000, 3) := by decide +kernel
theorem dM_mark_33 : decode cM_mark 33 = .ok (.aload_n 0, 1) := by decide +kernel
theorem dM_mark_34 : decode cM_mark 34 = .ok (.getfield 105, 3) := by decide +kernel
theorem dM_mark_37 : decode cM_mark 37 = .ok (.imul, 1) := by decide +kernel
theorem dM_mark_38 : decode cM_mark 38 = .ok (.iload_n 1, 1) := by decide +kernel
theorem dM_mark_39 : decode cM_mark 39 = .ok (.iadd, 1) := by decide +kernel
theorem dM_mark_40 : decode cM_mark 40 = .ok (.aload_n 0, 1) := by decide +kernel
theorem dM_mark_41 : decode cM_mark 41 = .ok (.getfield 7, 3) := by decide +kernel
theorem dM_mark_44 : decode cM_mark 44 = .ok (.iload_n 1, 1) := by decide +kernel
theorem dM_mark_45 : decode cM_mark 45 = .ok (.laload, 1) := by decide +kernel
theorem dM_mark_46 : decode cM_mark 46 = .ok (.lastore, 1) := by decide +kernel
theorem dM_mark_47 : decode cM_mark 47 = .ok (.iinc 1 1, 3) := by decide +kernel
theorem dM_mark_50 : decode cM_mark 50 = .ok (.goto (-32), 3) := by decide +kernel
theorem dM_mark_53 : decode cM_mark 53 = .ok (.aload_n 0, 1) := by decide +kernel
theorem dM_mark_54 : decode cM_mark 54 = .ok (.getfield 46, 3) := by decide +kernel
theorem dM_mark_57 : decode cM_mark 57 = .ok (.aload_n 0, 1) := by decide +kernel
theorem dM_mark_58 : decode cM_mark 58 = .ok (.getfield 105, 3) := by decide +kernel
theorem dM_mark_61 : decode cM_mark 61 = .ok (.aload_n 0, 1) := by decide +kernel
theorem dM_mark_62 : decode cM_mark 62 = .ok (.getfield 56, 3) := by decide +kernel
theorem dM_mark_65 : decode cM_mark 65 = .ok (.iastore, 1) := by decide +kernel
theorem dM_mark_66 : decode cM_mark 66 = .ok (.aload_n 0, 1) := by decide +kernel
theorem dM_mark_67 : decode cM_mark 67 = .ok (.dup, 1) := by decide +kernel
theorem dM_mark_68 : decode cM_mark 68 = .ok (.getfield 105, 3) := by decide +kernel
theorem dM_mark_71 : decode cM_mark 71 = .ok (.iconst 1, 1) := by decide +kernel
theorem dM_mark_72 : decode cM_mark 72 = .ok (.iadd, 1) := by decide +kernel
theorem dM_mark_73 : decode cM_mark 73 = .ok (.putfield 105, 3) := by decide +kernel
theorem dM_mark_76 : decode cM_mark 76 = .ok (.aload_n 0, 1) := by decide +kernel
theorem dM_mark_77 : decode cM_mark 77 = .ok (.getfield 105, 3) := by decide +kernel
theorem dM_mark_80 : decode cM_mark 80 = .ok (.iconst 1, 1) := by decide +kernel
theorem dM_mark_81 : decode cM_mark 81 = .ok (.isub, 1) := by decide +kernel
theorem dM_mark_82 : decode cM_mark 82 = .ok (.ireturn, 1) := by decide +kernel
theorem dM_differ_0 : decode cM_differ 0 = .ok (.iconst 0, 1) := by decide +kernel
theorem dM_differ_1 : decode cM_differ 1 = .ok (.istore_n 2, 1) := by decide +kernel
theorem dM_differ_2 : decode cM_differ 2 = .ok (.iconst 0, 1) := by decide +kernel
theorem dM_differ_3 : decode cM_differ 3 = .ok (.istore_n 3, 1) := by decide +kernel
theorem dM_differ_4 : decode cM_differ 4 = .ok (.iload_n 3, 1) := by decide +kernel
theorem dM_differ_5 : decode cM_differ 5 = .ok (.aload_n 0, 1) := by decide +kernel
theorem dM_differ_6 : decode cM_differ 6 = .ok (.getfield 46, 3) := by decide +kernel
theorem dM_differ_9 : decode cM_differ 9 = .ok (.iload_n 1, 1) := by decide +kernel
theorem dM_differ_10 : decode cM_differ 10 = .ok (.iaload, 1) := by decide +kernel
theorem dM_differ_11 : decode cM_differ 11 = .ok (.if_icmp .ge 39, 3) := by decide +kernel
theorem dM_differ_14 : decode cM_differ 14 = .ok (.iload_n 2, 1) := by decide +kernel
theorem dM_differ_15 : decode cM_differ 15 = .ok (.aload_n 0, 1) := by decide +kernel
theorem dM_differ_16 : decode cM_differ 16 = .ok (.getfield 7, 3) := by decide +kernel
theorem dM_differ_19 : decode cM_differ 19 = .ok (.iload_n 3, 1) := by decide +kernel
theorem dM_differ_20 : decode cM_differ 20 = .ok (.laload, 1) := by decide +kernel
theorem dM_differ_21 : decode cM_differ 21 = .ok (.aload_n 0, 1) := by decide +kernel
theorem dM_differ_22 : decode cM_differ 22 = .ok (.getfield 43, 3) := by decide +kernel
theorem dM_differ_25 : decode cM_differ 25 = .ok (.sipush 4000, 3) := by decide +kernel
theorem dM_differ_28 : decode cM_differ 28 = .ok (.iload_n 1, 1) := by decide +kernel
theorem dM_differ_29 : decode cM_differ 29 = .ok (.imul, 1) := by decide +kernel
theorem dM_differ_30 : decode cM_differ 30 = .ok (.iload_n 3, 1) := by decide +kernel
theorem dM_differ_31 : decode cM_differ 31 = .ok (.iadd, 1) := by decide +kernel
theorem dM_differ_32 : decode cM_differ 32 = .ok (.laload, 1) := by decide +kernel
theorem dM_differ_33 : decode cM_differ 33 = .ok (.lcmp, 1) := by decide +kernel
theorem dM_differ_34 : decode cM_differ 34 = .ok (.ifCond .eq 7, 3) := by decide +kernel
theorem dM_differ_37 : decode cM_differ 37 = .ok (.iconst 1, 1) := by decide +kernel
theorem dM_differ_38 : decode cM_differ 38 = .ok (.goto 4, 3) := by decide +kernel
theorem dM_differ_41 : decode cM_differ 41 = .ok (.iconst 0, 1) := by decide +kernel
theorem dM_differ_42 : decode cM_differ 42 = .ok (.iadd, 1) := by decide +kernel
theorem dM_differ_43 : decode cM_differ 43 = .ok (.istore_n 2, 1) := by decide +kernel
theorem dM_differ_44 : decode cM_differ 44 = .ok (.iinc 3 1, 3) := by decide +kernel
theorem dM_differ_47 : decode cM_differ 47 = .ok (.goto (-43), 3) := by decide +kernel
theorem dM_differ_50 : decode cM_differ 50 = .ok (.iload_n 2, 1) := by decide +kernel
theorem dM_differ_51 : decode cM_differ 51 = .ok (.ireturn, 1) := by decide +kernel
theorem dM_back_0 : decode cM_back 0 = .ok (.aload_n 0, 1) := by decide +kernel
theorem dM_back_1 : decode cM_back 1 = .ok (.iconst 0, 1) := by decide +kernel
theorem dM_back_2 : decode cM_back 2 = .ok (.putfield 49, 3) := by decide +kernel
theorem dM_back_5 : decode cM_back 5 = .ok (.iload_n 1, 1) := by decide +kernel
theorem dM_back_6 : decode cM_back 6 = .ok (.ifCond .lt 11, 3) := by decide +kernel
theorem dM_back_9 : decode cM_back 9 = .ok (.iload_n 1, 1) := by decide +kernel
theorem dM_back_10 : decode cM_back 10 = .ok (.aload_n 0, 1) := by decide +kernel
theorem dM_back_11 : decode cM_back 11 = .ok (.getfield 105, 3) := by decide +kernel
theorem dM_back_14 : decode cM_back 14 = .ok (.if_icmp .lt 5, 3) := by decide +kernel
theorem dM_back_17 : decode cM_back 17 = .ok (.iconst (-1), 1) := by decide +kernel
theorem dM_back_18 : decode cM_back 18 = .ok (.ireturn, 1) := by decide +kernel
theorem dM_back_19 : decode cM_back 19 = .ok (.aload_n 0, 1) := by decide +kernel
theorem dM_back_20 : decode cM_back 20 = .ok (.iload_n 1, 1) := by decide +kernel
theorem dM_back_21 : decode cM_back 21 = .ok (.invokevirtual 108, 3) := by decide +kernel
theorem dM_back_24 : decode cM_back 24 = .ok (.istore_n 2, 1) := by decide +kernel
theorem dM_back_25 : decode cM_back 25 = .ok (.iconst 0, 1) := by decide +kernel
theorem dM_back_26 : decode cM_back 26 = .ok (.istore_n 3, 1) := by decide +kernel
theorem dM_back_27 : decode cM_back 27 = .ok (.iload_n 3, 1) := by decide +kernel
theorem dM_back_28 : decode cM_back 28 = .ok (.aload_n 0, 1) := by decide +kernel
theorem dM_back_29 : decode cM_back 29 = .ok (.getfield 46, 3) := by decide +kernel
theorem dM_back_32 : decode cM_back 32 = .ok (.iload_n 1, 1) := by decide +kernel
theorem dM_back_33 : decode cM_back 33 = .ok (.iaload, 1) := by decide +kernel
theorem dM_back_34 : decode cM_back 34 = .ok (.if_icmp .ge 27, 3) := by decide +kernel
theorem dM_back_37 : decode cM_back 37 = .ok (.aload_n 0, 1) := by decide +kernel
theorem dM_back_38 : decode cM_back 38 = .ok (.getfield 7, 3) := by decide +kernel
theorem dM_back_41 : decode cM_back 41 = .ok (.iload_n 3, 1) := by decide +kernel
theorem dM_back_42 : decode cM_back 42 = .ok (.aload_n 0, 1) := by decide +kernel
theorem dM_back_43 : decode cM_back 43 = .ok (.getfield 43, 3) := by decide +kernel
theorem dM_back_46 : decode cM_back 46 = .ok (.sipush 4000, 3) := by decide +kernel
theorem dM_back_49 : decode cM_back 49 = .ok (.iload_n 1, 1) := by decide +kernel
theorem dM_back_50 : decode cM_back 50 = .ok (.imul, 1) := by decide +kernel
theorem dM_back_51 : decode cM_back 51 = .ok (.iload_n 3, 1) := by decide +kernel
theorem dM_back_52 : decode cM_back 52 = .ok (.iadd, 1) := by decide +kernel
theorem dM_back_53 : decode cM_back 53 = .ok (.laload, 1) := by decide +kernel
theorem dM_back_54 : decode cM_back 54 = .ok (.lastore, 1) := by decide +kernel
theorem dM_back_55 : decode cM_back 55 = .ok (.iinc 3 1, 3) := by decide +kernel
theorem dM_back_58 : decode cM_back 58 = .ok (.goto (-31), 3) := by decide +kernel
theorem dM_back_61 : decode cM_back 61 = .ok (.aload_n 0, 1) := by decide +kernel
theorem dM_back_62 : decode cM_back 62 = .ok (.iload_n 1, 1) := by decide +kernel
theorem dM_back_63 : decode cM_back 63 = .ok (.iconst 1, 1) := by decide +kernel
theorem dM_back_64 : decode cM_back 64 = .ok (.iadd, 1) := by decide +kernel
theorem dM_back_65 : decode cM_back 65 = .ok (.putfield 105, 3) := by decide +kernel
theorem dM_back_68 : decode cM_back 68 = .ok (.iload_n 2, 1) := by decide +kernel
theorem dM_back_69 : decode cM_back 69 = .ok (.ireturn, 1) := by decide +kernel
theorem dM_changed_0 : decode cM_changed 0 = .ok (.aload_n 0, 1) := by decide +kernel
theorem dM_changed_1 : decode cM_changed 1 = .ok (.iconst 0, 1) := by decide +kernel
theorem dM_changed_2 : decode cM_changed 2 = .ok (.putfield 49, 3) := by decide +kernel
theorem dM_changed_5 : decode cM_changed 5 = .ok (.iload_n 1, 1) := by decide +kernel
theorem dM_changed_6 : decode cM_changed 6 = .ok (.ifCond .lt 11, 3) := by decide +kernel
theorem dM_changed_9 : decode cM_changed 9 = .ok (.iload_n 1, 1) := by decide +kernel
theorem dM_changed_10 : decode cM_changed 10 = .ok (.aload_n 0, 1) := by decide +kernel
theorem dM_changed_11 : decode cM_changed 11 = .ok (.getfield 105, 3) := by decide +kernel
theorem dM_changed_14 : decode cM_changed 14 = .ok (.if_icmp .lt 7, 3) := by decide +kernel
theorem dM_changed_17 : decode cM_changed 17 = .ok (.iconst (-1), 1) := by decide +kernel
theorem dM_changed_18 : decode cM_changed 18 = .ok (.goto 8, 3) := by decide +kernel
theorem dM_changed_21 : decode cM_changed 21 = .ok (.aload_n 0, 1) := by decide +kernel
theorem dM_changed_22 : decode cM_changed 22 = .ok (.iload_n 1, 1) := by decide +kernel
theorem dM_changed_23 : decode cM_changed 23 = .ok (.invokevirtual 108, 3) := by decide +kernel
theorem dM_changed_26 : decode cM_changed 26 = .ok (.ireturn, 1) := by decide +kernel
