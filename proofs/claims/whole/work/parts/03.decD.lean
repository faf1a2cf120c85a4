theorem dD_init_0 : decode cD_init 0 = .ok (.aload_n 0, 1) := by decide +kernel
theorem dD_init_1 : decode cD_init 1 = .ok (.invokespecial 1, 3) := by decide +kernel
theorem dD_init_4 : decode cD_init 4 = .ok (.aload_n 0, 1) := by decide +kernel
theorem dD_init_5 : decode cD_init 5 = .ok (.sipush 4000, 3) := by decide +kernel
theorem dD_init_8 : decode cD_init 8 = .ok (.newarray .long, 2) := by decide +kernel
theorem dD_init_10 : decode cD_init 10 = .ok (.putfield 9, 3) := by decide +kernel
theorem dD_init_13 : decode cD_init 13 = .ok (.aload_n 0, 1) := by decide +kernel
theorem dD_init_14 : decode cD_init 14 = .ok (.sipush 4000, 3) := by decide +kernel
theorem dD_init_17 : decode cD_init 17 = .ok (.newarray .int, 2) := by decide +kernel
theorem dD_init_19 : decode cD_init 19 = .ok (.putfield 13, 3) := by decide +kernel
theorem dD_init_22 : decode cD_init 22 = .ok (.aload_n 0, 1) := by decide +kernel
theorem dD_init_23 : decode cD_init 23 = .ok (.iconst 0, 1) := by decide +kernel
theorem dD_init_24 : decode cD_init 24 = .ok (.putfield 17, 3) := by decide +kernel
theorem dD_init_27 : decode cD_init 27 = .ok (.aload_n 0, 1) := by decide +kernel
theorem dD_init_28 : decode cD_init 28 = .ok (.sipush 300, 3) := by decide +kernel
theorem dD_init_31 : decode cD_init 31 = .ok (.anewarray 21, 3) := by decide +kernel
theorem dD_init_34 : decode cD_init 34 = .ok (.putfield 23, 3) := by decide +kernel
theorem dD_init_37 : decode cD_init 37 = .ok (.aload_n 0, 1) := by decide +kernel
theorem dD_init_38 : decode cD_init 38 = .ok (.iconst 0, 1) := by decide +kernel
theorem dD_init_39 : decode cD_init 39 = .ok (.putfield 27, 3) := by decide +kernel
theorem dD_init_42 : decode cD_init 42 = .ok (.aload_n 0, 1) := by decide +kernel
theorem dD_init_43 : decode cD_init 43 = .ok (.bipush 12, 2) := by decide +kernel
theorem dD_init_45 : decode cD_init 45 = .ok (.newarray .int, 2) := by decide +kernel
theorem dD_init_47 : decode cD_init 47 = .ok (.putfield 30, 3) := by decide +kernel
theorem dD_init_50 : decode cD_init 50 = .ok (.aload_n 0, 1) := by decide +kernel
theorem dD_init_51 : decode cD_init 51 = .ok (.iconst 0, 1) := by decide +kernel
theorem dD_init_52 : decode cD_init 52 = .ok (.putfield 33, 3) := by decide +kernel
theorem dD_init_55 : decode cD_init 55 = .ok (.aload_n 0, 1) := by decide +kernel
theorem dD_init_56 : decode cD_init 56 = .ok (.bipush 100, 2) := by decide +kernel
theorem dD_init_58 : decode cD_init 58 = .ok (.anewarray 36, 3) := by decide +kernel
theorem dD_init_61 : decode cD_init 61 = .ok (.putfield 38, 3) := by decide +kernel
theorem dD_init_64 : decode cD_init 64 = .ok (.aload_n 0, 1) := by decide +kernel
theorem dD_init_65 : decode cD_init 65 = .ok (.iconst 0, 1) := by decide +kernel
theorem dD_init_66 : decode cD_init 66 = .ok (.putfield 42, 3) := by decide +kernel
theorem dD_init_69 : decode cD_init 69 = .ok (.aload_n 0, 1) := by decide +kernel
theorem dD_init_70 : decode cD_init 70 = .ok (.bipush 20, 2) := by decide +kernel
theorem dD_init_72 : decode cD_init 72 = .ok (.anewarray 45, 3) := by decide +kernel
theorem dD_init_75 : decode cD_init 75 = .ok (.putfield 47, 3) := by decide +kernel
theorem dD_init_78 : decode cD_init 78 = .ok (.aload_n 0, 1) := by decide +kernel
theorem dD_init_79 : decode cD_init 79 = .ok (.iconst 0, 1) := by decide +kernel
theorem dD_init_80 : decode cD_init 80 = .ok (.putfield 51, 3) := by decide +kernel
theorem dD_init_83 : decode cD_init 83 = .ok (.return_, 1) := by decide +kernel
theorem dD_row_0 : decode cD_row 0 = .ok (.iload_n 1, 1) := by decide +kernel
theorem dD_row_1 : decode cD_row 1 = .ok (.invokestatic 54, 3) := by decide +kernel
theorem dD_row_4 : decode cD_row 4 = .ok (.ifCond .eq 22, 3) := by decide +kernel
theorem dD_row_7 : decode cD_row 7 = .ok (.iload_n 2, 1) := by decide +kernel
theorem dD_row_8 : decode cD_row 8 = .ok (.ifCond .lt 18, 3) := by decide +kernel
theorem dD_row_11 : decode cD_row 11 = .ok (.iload_n 2, 1) := by decide +kernel
theorem dD_row_12 : decode cD_row 12 = .ok (.sipush 200, 3) := by decide +kernel
theorem dD_row_15 : decode cD_row 15 = .ok (.if_icmp .gt 11, 3) := by decide +kernel
theorem dD_row_18 : decode cD_row 18 = .ok (.aload_n 0, 1) := by decide +kernel
theorem dD_row_19 : decode cD_row 19 = .ok (.iload_n 2, 1) := by decide +kernel
theorem dD_row_20 : decode cD_row 20 = .ok (.invokevirtual 58, 3) := by decide +kernel
theorem dD_row_23 : decode cD_row 23 = .ok (.ifCond .ne 5, 3) := by decide +kernel
theorem dD_row_26 : decode cD_row 26 = .ok (.iconst (-1), 1) := by decide +kernel
theorem dD_row_27 : decode cD_row 27 = .ok (.ireturn, 1) := by decide +kernel
theorem dD_row_28 : decode cD_row 28 = .ok (.iconst 0, 1) := by decide +kernel
theorem dD_row_29 : decode cD_row 29 = .ok (.istore_n 3, 1) := by decide +kernel
theorem dD_row_30 : decode cD_row 30 = .ok (.iload_n 3, 1) := by decide +kernel
theorem dD_row_31 : decode cD_row 31 = .ok (.iload_n 2, 1) := by decide +kernel
theorem dD_row_32 : decode cD_row 32 = .ok (.if_icmp .ge 21, 3) := by decide +kernel
theorem dD_row_35 : decode cD_row 35 = .ok (.aload_n 0, 1) := by decide +kernel
theorem dD_row_36 : decode cD_row 36 = .ok (.getfield 13, 3) := by decide +kernel
theorem dD_row_39 : decode cD_row 39 = .ok (.aload_n 0, 1) := by decide +kernel
theorem dD_row_40 : decode cD_row 40 = .ok (.getfield 17, 3) := by decide +kernel
theorem dD_row_43 : decode cD_row 43 = .ok (.iload_n 3, 1) := by decide +kernel
theorem dD_row_44 : decode cD_row 44 = .ok (.iadd, 1) := by decide +kernel
theorem dD_row_45 : decode cD_row 45 = .ok (.iload_n 1, 1) := by decide +kernel
theorem dD_row_46 : decode cD_row 46 = .ok (.iastore, 1) := by decide +kernel
theorem dD_row_47 : decode cD_row 47 = .ok (.iinc 3 1, 3) := by decide +kernel
theorem dD_row_50 : decode cD_row 50 = .ok (.goto (-20), 3) := by decide +kernel
theorem dD_row_53 : decode cD_row 53 = .ok (.aload_n 0, 1) := by decide +kernel
theorem dD_row_54 : decode cD_row 54 = .ok (.iload_n 1, 1) := by decide +kernel
theorem dD_row_55 : decode cD_row 55 = .ok (.iload_n 2, 1) := by decide +kernel
theorem dD_row_56 : decode cD_row 56 = .ok (.invokevirtual 61, 3) := by decide +kernel
theorem dD_row_59 : decode cD_row 59 = .ok (.ireturn, 1) := by decide +kernel
theorem dD_put_0 : decode cD_put 0 = .ok (.aload_n 0, 1) := by decide +kernel
theorem dD_put_1 : decode cD_put 1 = .ok (.getfield 33, 3) := by decide +kernel
theorem dD_put_4 : decode cD_put 4 = .ok (.bipush 12, 2) := by decide +kernel
theorem dD_put_6 : decode cD_put 6 = .ok (.if_icmp .ge 10, 3) := by decide +kernel
theorem dD_put_9 : decode cD_put 9 = .ok (.iload_n 1, 1) := by decide +kernel
theorem dD_put_10 : decode cD_put 10 = .ok (.invokestatic 54, 3) := by decide +kernel
theorem dD_put_13 : decode cD_put 13 = .ok (.ifCond .ne 5, 3) := by decide +kernel
theorem dD_put_16 : decode cD_put 16 = .ok (.iconst 0, 1) := by decide +kernel
theorem dD_put_17 : decode cD_put 17 = .ok (.ireturn, 1) := by decide +kernel
theorem dD_put_18 : decode cD_put 18 = .ok (.aload_n 0, 1) := by decide +kernel
theorem dD_put_19 : decode cD_put 19 = .ok (.getfield 30, 3) := by decide +kernel
theorem dD_put_22 : decode cD_put 22 = .ok (.aload_n 0, 1) := by decide +kernel
theorem dD_put_23 : decode cD_put 23 = .ok (.getfield 33, 3) := by decide +kernel
theorem dD_put_26 : decode cD_put 26 = .ok (.iload_n 1, 1) := by decide +kernel
theorem dD_put_27 : decode cD_put 27 = .ok (.iastore, 1) := by decide +kernel
theorem dD_put_28 : decode cD_put 28 = .ok (.aload_n 0, 1) := by decide +kernel
theorem dD_put_29 : decode cD_put 29 = .ok (.dup, 1) := by decide +kernel
theorem dD_put_30 : decode cD_put 30 = .ok (.getfield 33, 3) := by decide +kernel
theorem dD_put_33 : decode cD_put 33 = .ok (.iconst 1, 1) := by decide +kernel
theorem dD_put_34 : decode cD_put 34 = .ok (.iadd, 1) := by decide +kernel
theorem dD_put_35 : decode cD_put 35 = .ok (.putfield 33, 3) := by decide +kernel
theorem dD_put_38 : decode cD_put 38 = .ok (.iconst 1, 1) := by decide +kernel
theorem dD_put_39 : decode cD_put 39 = .ok (.ireturn, 1) := by decide +kernel
theorem dD_instance_0 : decode cD_instance 0 = .ok (.aload_n 0, 1) := by decide +kernel
theorem dD_instance_1 : decode cD_instance 1 = .ok (.getfield 33, 3) := by decide +kernel
theorem dD_instance_4 : decode cD_instance 4 = .ok (.istore_n 1, 1) := by decide +kernel
theorem dD_instance_5 : decode cD_instance 5 = .ok (.aload_n 0, 1) := by decide +kernel
theorem dD_instance_6 : decode cD_instance 6 = .ok (.iconst 0, 1) := by decide +kernel
theorem dD_instance_7 : decode cD_instance 7 = .ok (.putfield 33, 3) := by decide +kernel
theorem dD_instance_10 : decode cD_instance 10 = .ok (.iload_n 1, 1) := by decide +kernel
theorem dD_instance_11 : decode cD_instance 11 = .ok (.ifCond .eq 11, 3) := by decide +kernel
theorem dD_instance_14 : decode cD_instance 14 = .ok (.aload_n 0, 1) := by decide +kernel
theorem dD_instance_15 : decode cD_instance 15 = .ok (.iload_n 1, 1) := by decide +kernel
theorem dD_instance_16 : decode cD_instance 16 = .ok (.invokevirtual 58, 3) := by decide +kernel
theorem dD_instance_19 : decode cD_instance 19 = .ok (.ifCond .ne 5, 3) := by decide +kernel
theorem dD_instance_22 : decode cD_instance 22 = .ok (.iconst (-1), 1) := by decide +kernel
theorem dD_instance_23 : decode cD_instance 23 = .ok (.ireturn, 1) := by decide +kernel
theorem dD_instance_24 : decode cD_instance 24 = .ok (.aload_n 0, 1) := by decide +kernel
theorem dD_instance_25 : decode cD_instance 25 = .ok (.getfield 30, 3) := by decide +kernel
theorem dD_instance_28 : decode cD_instance 28 = .ok (.iconst 0, 1) := by decide +kernel
theorem dD_instance_29 : decode cD_instance 29 = .ok (.aload_n 0, 1) := by decide +kernel
theorem dD_instance_30 : decode cD_instance 30 = .ok (.getfield 13, 3) := by decide +kernel
theorem dD_instance_33 : decode cD_instance 33 = .ok (.aload_n 0, 1) := by decide +kernel
theorem dD_instance_34 : decode cD_instance 34 = .ok (.getfield 17, 3) := by decide +kernel
theorem dD_instance_37 : decode cD_instance 37 = .ok (.iload_n 1, 1) := by decide +kernel
theorem dD_instance_38 : decode cD_instance 38 = .ok (.invokestatic 65, 3) := by decide +kernel
theorem dD_instance_41 : decode cD_instance 41 = .ok (.aload_n 0, 1) := by decide +kernel
theorem dD_instance_42 : decode cD_instance 42 = .ok (.iconst 0, 1) := by decide +kernel
theorem dD_instance_43 : decode cD_instance 43 = .ok (.iload_n 1, 1) := by decide +kernel
theorem dD_instance_44 : decode cD_instance 44 = .ok (.invokevirtual 61, 3) := by decide +kernel
theorem dD_instance_47 : decode cD_instance 47 = .ok (.ireturn, 1) := by decide +kernel
theorem dD_object_0 : decode cD_object 0 = .ok (.aload_n 0, 1) := by decide +kernel
theorem dD_object_1 : decode cD_object 1 = .ok (.iload_n 1, 1) := by decide +kernel
theorem dD_object_2 : decode cD_object 2 = .ok (.invokevirtual 71, 3) := by decide +kernel
theorem dD_object_5 : decode cD_object 5 = .ok (.astore_n 3, 1) := by decide +kernel
theorem dD_object_6 : decode cD_object 6 = .ok (.aload_n 3, 1) := by decide +kernel
theorem dD_object_7 : decode cD_object 7 = .ok (.ifnonnull 5, 3) := by decide +kernel
theorem dD_object_10 : decode cD_object 10 = .ok (.iconst (-1), 1) := by decide +kernel
theorem dD_object_11 : decode cD_object 11 = .ok (.ireturn, 1) := by decide +kernel
theorem dD_object_12 : decode cD_object 12 = .ok (.iload_n 2, 1) := by decide +kernel
theorem dD_object_13 : decode cD_object 13 = .ok (.iconst (-1), 1) := by decide +kernel
theorem dD_object_14 : decode cD_object 14 = .ok (.if_icmp .ne 8, 3) := by decide +kernel
theorem dD_object_17 : decode cD_object 17 = .ok (.aload_n 3, 1) := by decide +kernel
theorem dD_object_18 : decode cD_object 18 = .ok (.getfield 75, 3) := by decide +kernel
theorem dD_object_21 : decode cD_object 21 = .ok (.ireturn, 1) := by decide +kernel
theorem dD_object_22 : decode cD_object 22 = .ok (.iload_n 2, 1) := by decide +kernel
theorem dD_object_23 : decode cD_object 23 = .ok (.bipush (-2), 2) := by decide +kernel
theorem dD_object_25 : decode cD_object 25 = .ok (.if_icmp .ne 8, 3) := by decide +kernel
theorem dD_object_28 : decode cD_object 28 = .ok (.aload_n 3, 1) := by decide +kernel
theorem dD_object_29 : decode cD_object 29 = .ok (.getfield 78, 3) := by decide +kernel
theorem dD_object_32 : decode cD_object 32 = .ok (.ireturn, 1) := by decide +kernel
theorem dD_object_33 : decode cD_object 33 = .ok (.aload_n 3, 1) := by decide +kernel
theorem dD_object_34 : decode cD_object 34 = .ok (.iload_n 2, 1) := by decide +kernel
theorem dD_object_35 : decode cD_object 35 = .ok (.iconst 1, 1) := by decide +kernel
theorem dD_object_36 : decode cD_object 36 = .ok (.invokevirtual 81, 3) := by decide +kernel
theorem dD_object_39 : decode cD_object 39 = .ok (.ifCond .eq 17, 3) := by decide +kernel
theorem dD_object_42 : decode cD_object 42 = .ok (.aload_n 0, 1) := by decide +kernel
theorem dD_object_43 : decode cD_object 43 = .ok (.getfield 13, 3) := by decide +kernel
theorem dD_object_46 : decode cD_object 46 = .ok (.aload_n 3, 1) := by decide +kernel
theorem dD_object_47 : decode cD_object 47 = .ok (.getfield 85, 3) := by decide +kernel
theorem dD_object_50 : decode cD_object 50 = .ok (.iload_n 2, 1) := by decide +kernel
theorem dD_object_51 : decode cD_object 51 = .ok (.iadd, 1) := by decide +kernel
theorem dD_object_52 : decode cD_object 52 = .ok (.iaload, 1) := by decide +kernel
theorem dD_object_53 : decode cD_object 53 = .ok (.goto 4, 3) := by decide +kernel
theorem dD_object_56 : decode cD_object 56 = .ok (.iconst (-1), 1) := by decide +kernel
theorem dD_object_57 : decode cD_object 57 = .ok (.ireturn, 1) := by decide +kernel
theorem dD_place_0 : decode cD_place 0 = .ok (.aload_n 0, 1) := by decide +kernel
theorem dD_place_1 : decode cD_place 1 = .ok (.iload_n 1, 1) := by decide +kernel
theorem dD_place_2 : decode cD_place 2 = .ok (.invokevirtual 71, 3) := by decide +kernel
theorem dD_place_5 : decode cD_place 5 = .ok (.astore_n 3, 1) := by decide +kernel
theorem dD_place_6 : decode cD_place 6 = .ok (.aload_n 3, 1) := by decide +kernel
theorem dD_place_7 : decode cD_place 7 = .ok (.ifnull 12, 3) := by decide +kernel
theorem dD_place_10 : decode cD_place 10 = .ok (.aload_n 3, 1) := by decide +kernel
theorem dD_place_11 : decode cD_place 11 = .ok (.iload_n 2, 1) := by decide +kernel
theorem dD_place_12 : decode cD_place 12 = .ok (.iconst 1, 1) := by decide +kernel
theorem dD_place_13 : decode cD_place 13 = .ok (.invokevirtual 81, 3) := by decide +kernel
theorem dD_place_16 : decode cD_place 16 = .ok (.ifCond .ne 5, 3) := by decide +kernel
theorem dD_place_19 : decode cD_place 19 = .ok (.iconst (-1), 1) := by decide +kernel
theorem dD_place_20 : decode cD_place 20 = .ok (.ireturn, 1) := by decide +kernel
theorem dD_place_21 : decode cD_place 21 = .ok (.aload_n 3, 1) := by decide +kernel
theorem dD_place_22 : decode cD_place 22 = .ok (.getfield 85, 3) := by decide +kernel
theorem dD_place_25 : decode cD_place 25 = .ok (.iload_n 2, 1) := by decide +kernel
theorem dD_place_26 : decode cD_place 26 = .ok (.iadd, 1) := by decide +kernel
theorem dD_place_27 : decode cD_place 27 = .ok (.istore 4, 2) := by decide +kernel
theorem dD_place_29 : decode cD_place 29 = .ok (.aload_n 0, 1) := by decide +kernel
theorem dD_place_30 : decode cD_place 30 = .ok (.aload_n 0, 1) := by decide +kernel
theorem dD_place_31 : decode cD_place 31 = .ok (.getfield 13, 3) := by decide +kernel
theorem dD_place_34 : decode cD_place 34 = .ok (.iload 4, 2) := by decide +kernel
theorem dD_place_36 : decode cD_place 36 = .ok (.iaload, 1) := by decide +kernel
theorem dD_place_37 : decode cD_place 37 = .ok (.iload 4, 2) := by decide +kernel
theorem dD_place_39 : decode cD_place 39 = .ok (.iconst 1, 1) := by decide +kernel
theorem dD_place_40 : decode cD_place 40 = .ok (.iconst 0, 1) := by decide +kernel
theorem dD_place_41 : decode cD_place 41 = .ok (.invokevirtual 88, 3) := by decide +kernel
theorem dD_place_44 : decode cD_place 44 = .ok (.ireturn, 1) := by decide +kernel
theorem dD_view_0 : decode cD_view 0 = .ok (.aload_n 0, 1) := by decide +kernel
theorem dD_view_1 : decode cD_view 1 = .ok (.iload_n 1, 1) := by decide +kernel
theorem dD_view_2 : decode cD_view 2 = .ok (.invokevirtual 71, 3) := by decide +kernel
theorem dD_view_5 : decode cD_view 5 = .ok (.astore 5, 2) := by decide +kernel
theorem dD_view_7 : decode cD_view 7 = .ok (.iload_n 3, 1) := by decide +kernel
theorem dD_view_8 : decode cD_view 8 = .ok (.invokestatic 92, 3) := by decide +kernel
theorem dD_view_11 : decode cD_view 11 = .ok (.istore 6, 2) := by decide +kernel
theorem dD_view_13 : decode cD_view 13 = .ok (.aload 5, 2) := by decide +kernel
theorem dD_view_15 : decode cD_view 15 = .ok (.ifnull 28, 3) := by decide +kernel
theorem dD_view_18 : decode cD_view 18 = .ok (.aload 5, 2) := by decide +kernel
theorem dD_view_20 : decode cD_view 20 = .ok (.getfield 75, 3) := by decide +kernel
theorem dD_view_23 : decode cD_view 23 = .ok (.iconst 2, 1) := by decide +kernel
theorem dD_view_24 : decode cD_view 24 = .ok (.if_icmp .ne 19, 3) := by decide +kernel
theorem dD_view_27 : decode cD_view 27 = .ok (.iload 6, 2) := by decide +kernel
theorem dD_view_29 : decode cD_view 29 = .ok (.ifCond .eq 14, 3) := by decide +kernel
theorem dD_view_32 : decode cD_view 32 = .ok (.aload 5, 2) := by decide +kernel
theorem dD_view_34 : decode cD_view 34 = .ok (.iload_n 2, 1) := by decide +kernel
theorem dD_view_35 : decode cD_view 35 = .ok (.iload 6, 2) := by decide +kernel
theorem dD_view_37 : decode cD_view 37 = .ok (.invokevirtual 81, 3) := by decide +kernel
theorem dD_view_40 : decode cD_view 40 = .ok (.ifCond .ne 5, 3) := by decide +kernel
theorem dD_view_43 : decode cD_view 43 = .ok (.iconst (-1), 1) := by decide +kernel
theorem dD_view_44 : decode cD_view 44 = .ok (.ireturn, 1) := by decide +kernel
theorem dD_view_45 : decode cD_view 45 = .ok (.aload_n 0, 1) := by decide +kernel
theorem dD_view_46 : decode cD_view 46 = .ok (.iload_n 3, 1) := by decide +kernel
theorem dD_view_47 : decode cD_view 47 = .ok (.aload 5, 2) := by decide +kernel
theorem dD_view_49 : decode cD_view 49 = .ok (.getfield 85, 3) := by decide +kernel
theorem dD_view_52 : decode cD_view 52 = .ok (.iload_n 2, 1) := by decide +kernel
theorem dD_view_53 : decode cD_view 53 = .ok (.iadd, 1) := by decide +kernel
theorem dD_view_54 : decode cD_view 54 = .ok (.iload 6, 2) := by decide +kernel
theorem dD_view_56 : decode cD_view 56 = .ok (.iload 4, 2) := by decide +kernel
theorem dD_view_58 : decode cD_view 58 = .ok (.invokevirtual 88, 3) := by decide +kernel
theorem dD_view_61 : decode cD_view 61 = .ok (.ireturn, 1) := by decide +kernel
theorem dD_kindOf_0 : decode cD_kindOf 0 = .ok (.aload_n 0, 1) := by decide +kernel
theorem dD_kindOf_1 : decode cD_kindOf 1 = .ok (.iload_n 1, 1) := by decide +kernel
theorem dD_kindOf_2 : decode cD_kindOf 2 = .ok (.invokevirtual 96, 3) := by decide +kernel
theorem dD_kindOf_5 : decode cD_kindOf 5 = .ok (.astore_n 2, 1) := by decide +kernel
theorem dD_kindOf_6 : decode cD_kindOf 6 = .ok (.aload_n 2, 1) := by decide +kernel
theorem dD_kindOf_7 : decode cD_kindOf 7 = .ok (.ifnonnull 7, 3) := by decide +kernel
theorem dD_kindOf_10 : decode cD_kindOf 10 = .ok (.iconst (-1), 1) := by decide +kernel
theorem dD_kindOf_11 : decode cD_kindOf 11 = .ok (.goto 7, 3) := by decide +kernel
theorem dD_kindOf_14 : decode cD_kindOf 14 = .ok (.aload_n 2, 1) := by decide +kernel
theorem dD_kindOf_15 : decode cD_kindOf 15 = .ok (.getfield 100, 3) := by decide +kernel
theorem dD_kindOf_18 : decode cD_kindOf 18 = .ok (.ireturn, 1) := by decide +kernel
theorem dD_act_0 : decode cD_act 0 = .ok (.aload_n 0, 1) := by decide +kernel
theorem dD_act_1 : decode cD_act 1 = .ok (.iload_n 1, 1) := by decide +kernel
theorem dD_act_2 : decode cD_act 2 = .ok (.invokevirtual 96, 3) := by decide +kernel
theorem dD_act_5 : decode cD_act 5 = .ok (.astore 7, 2) := by decide +kernel
theorem dD_act_7 : decode cD_act 7 = .ok (.aload 7, 2) := by decide +kernel
theorem dD_act_9 : decode cD_act 9 = .ok (.ifnonnull 13, 3) := by decide +kernel
theorem dD_act_12 : decode cD_act 12 = .ok (.new 101, 3) := by decide +kernel
theorem dD_act_15 : decode cD_act 15 = .ok (.dup, 1) := by decide +kernel
theorem dD_act_16 : decode cD_act 16 = .ok (.ldc 103, 2) := by decide +kernel
theorem dD_act_18 : decode cD_act 18 = .ok (.invokespecial 105, 3) := by decide +kernel
theorem dD_act_21 : decode cD_act 21 = .ok (.athrow, 1) := by decide +kernel
theorem dD_act_22 : decode cD_act 22 = .ok (.iload_n 2, 1) := by decide +kernel
theorem dD_act_23 : decode cD_act 23 = .ok (.aload 7, 2) := by decide +kernel
theorem dD_act_25 : decode cD_act 25 = .ok (.getfield 100, 3) := by decide +kernel
theorem dD_act_28 : decode cD_act 28 = .ok (.invokestatic 108, 3) := by decide +kernel
theorem dD_act_31 : decode cD_act 31 = .ok (.ifCond .ne 13, 3) := by decide +kernel
theorem dD_act_34 : decode cD_act 34 = .ok (.new 101, 3) := by decide +kernel
theorem dD_act_37 : decode cD_act 37 = .ok (.dup, 1) := by decide +kernel
theorem dD_act_38 : decode cD_act 38 = .ok (.ldc 111, 2) := by decide +kernel
theorem dD_act_40 : decode cD_act 40 = .ok (.invokespecial 105, 3) := by decide +kernel
theorem dD_act_43 : decode cD_act 43 = .ok (.athrow, 1) := by decide +kernel
theorem dD_act_44 : decode cD_act 44 = .ok (.iload_n 2, 1) := by decide +kernel
theorem dD_act_45 : decode cD_act 45 = .ok (.ifCond .eq 26, 3) := by decide +kernel
theorem dD_act_48 : decode cD_act 48 = .ok (.aload_n 0, 1) := by decide +kernel
theorem dD_act_49 : decode cD_act 49 = .ok (.aload 7, 2) := by decide +kernel
theorem dD_act_51 : decode cD_act 51 = .ok (.getfield 100, 3) := by decide +kernel
theorem dD_act_54 : decode cD_act 54 = .ok (.lload_n 3, 1) := by decide +kernel
theorem dD_act_55 : decode cD_act 55 = .ok (.invokevirtual 113, 3) := by decide +kernel
theorem dD_act_58 : decode cD_act 58 = .ok (.ifCond .ne 13, 3) := by decide +kernel
theorem dD_act_61 : decode cD_act 61 = .ok (.new 101, 3) := by decide +kernel
theorem dD_act_64 : decode cD_act 64 = .ok (.dup, 1) := by decide +kernel
theorem dD_act_65 : decode cD_act 65 = .ok (.ldc 117, 2) := by decide +kernel
theorem dD_act_67 : decode cD_act 67 = .ok (.invokespecial 105, 3) := by decide +kernel
theorem dD_act_70 : decode cD_act 70 = .ok (.athrow, 1) := by decide +kernel
theorem dD_act_71 : decode cD_act 71 = .ok (.iload_n 2, 1) := by decide +kernel
theorem dD_act_72 : decode cD_act 72 = .ok (.iconst 3, 1) := by decide +kernel
theorem dD_act_73 : decode cD_act 73 = .ok (.if_icmp .ne 27, 3) := by decide +kernel
theorem dD_act_76 : decode cD_act 76 = .ok (.aload_n 0, 1) := by decide +kernel
theorem dD_act_77 : decode cD_act 77 = .ok (.aload 7, 2) := by decide +kernel
theorem dD_act_79 : decode cD_act 79 = .ok (.getfield 100, 3) := by decide +kernel
theorem dD_act_82 : decode cD_act 82 = .ok (.lload 5, 2) := by decide +kernel
theorem dD_act_84 : decode cD_act 84 = .ok (.invokevirtual 113, 3) := by decide +kernel
theorem dD_act_87 : decode cD_act 87 = .ok (.ifCond .ne 13, 3) := by decide +kernel
theorem dD_act_90 : decode cD_act 90 = .ok (.new 101, 3) := by decide +kernel
theorem dD_act_93 : decode cD_act 93 = .ok (.dup, 1) := by decide +kernel
theorem dD_act_94 : decode cD_act 94 = .ok (.ldc 119, 2) := by decide +kernel
theorem dD_act_96 : decode cD_act 96 = .ok (.invokespecial 105, 3) := by decide +kernel
theorem dD_act_99 : decode cD_act 99 = .ok (.athrow, 1) := by decide +kernel
theorem dD_act_100 : decode cD_act 100 = .ok (.aload_n 0, 1) := by decide +kernel
theorem dD_act_101 : decode cD_act 101 = .ok (.aload 7, 2) := by decide +kernel
theorem dD_act_103 : decode cD_act 103 = .ok (.iload_n 2, 1) := by decide +kernel
theorem dD_act_104 : decode cD_act 104 = .ok (.lload_n 3, 1) := by decide +kernel
theorem dD_act_105 : decode cD_act 105 = .ok (.lload 5, 2) := by decide +kernel
theorem dD_act_107 : decode cD_act 107 = .ok (.invokevirtual 121, 3) := by decide +kernel
theorem dD_act_110 : decode cD_act 110 = .ok (.lreturn, 1) := by decide +kernel
theorem dD_copy_0 : decode cD_copy 0 = .ok (.aload_n 0, 1) := by decide +kernel
theorem dD_copy_1 : decode cD_copy 1 = .ok (.iload_n 1, 1) := by decide +kernel
theorem dD_copy_2 : decode cD_copy 2 = .ok (.invokevirtual 71, 3) := by decide +kernel
theorem dD_copy_5 : decode cD_copy 5 = .ok (.astore 6, 2) := by decide +kernel
theorem dD_copy_7 : decode cD_copy 7 = .ok (.aload_n 0, 1) := by decide +kernel
theorem dD_copy_8 : decode cD_copy 8 = .ok (.iload_n 3, 1) := by decide +kernel
theorem dD_copy_9 : decode cD_copy 9 = .ok (.invokevirtual 71, 3) := by decide +kernel
theorem dD_copy_12 : decode cD_copy 12 = .ok (.astore 7, 2) := by decide +kernel
theorem dD_copy_14 : decode cD_copy 14 = .ok (.aload 6, 2) := by decide +kernel
theorem dD_copy_16 : decode cD_copy 16 = .ok (.ifnull 8, 3) := by decide +kernel
theorem dD_copy_19 : decode cD_copy 19 = .ok (.aload 7, 2) := by decide +kernel
theorem dD_copy_21 : decode cD_copy 21 = .ok (.ifnonnull 5, 3) := by decide +kernel
theorem dD_copy_24 : decode cD_copy 24 = .ok (.iconst 0, 1) := by decide +kernel
theorem dD_copy_25 : decode cD_copy 25 = .ok (.ireturn, 1) := by decide +kernel
theorem dD_copy_26 : decode cD_copy 26 = .ok (.aload 6, 2) := by decide +kernel
theorem dD_copy_28 : decode cD_copy 28 = .ok (.getfield 75, 3) := by decide +kernel
theorem dD_copy_31 : decode cD_copy 31 = .ok (.ifCond .eq 16, 3) := by decide +kernel
theorem dD_copy_34 : decode cD_copy 34 = .ok (.aload 6, 2) := by decide +kernel
theorem dD_copy_36 : decode cD_copy 36 = .ok (.getfield 75, 3) := by decide +kernel
theorem dD_copy_39 : decode cD_copy 39 = .ok (.aload 7, 2) := by decide +kernel
theorem dD_copy_41 : decode cD_copy 41 = .ok (.getfield 75, 3) := by decide +kernel
theorem dD_copy_44 : decode cD_copy 44 = .ok (.if_icmp .eq 5, 3) := by decide +kernel
theorem dD_copy_47 : decode cD_copy 47 = .ok (.iconst 0, 1) := by decide +kernel
theorem dD_copy_48 : decode cD_copy 48 = .ok (.ireturn, 1) := by decide +kernel
theorem dD_copy_49 : decode cD_copy 49 = .ok (.aload 6, 2) := by decide +kernel
theorem dD_copy_51 : decode cD_copy 51 = .ok (.iload_n 2, 1) := by decide +kernel
theorem dD_copy_52 : decode cD_copy 52 = .ok (.iload 5, 2) := by decide +kernel
theorem dD_copy_54 : decode cD_copy 54 = .ok (.invokevirtual 81, 3) := by decide +kernel
theorem dD_copy_57 : decode cD_copy 57 = .ok (.ifCond .eq 15, 3) := by decide +kernel
theorem dD_copy_60 : decode cD_copy 60 = .ok (.aload 7, 2) := by decide +kernel
theorem dD_copy_62 : decode cD_copy 62 = .ok (.iload 4, 2) := by decide +kernel
theorem dD_copy_64 : decode cD_copy 64 = .ok (.iload 5, 2) := by decide +kernel
theorem dD_copy_66 : decode cD_copy 66 = .ok (.invokevirtual 81, 3) := by decide +kernel
theorem dD_copy_69 : decode cD_copy 69 = .ok (.ifCond .ne 5, 3) := by decide +kernel
theorem dD_copy_72 : decode cD_copy 72 = .ok (.iconst 0, 1) := by decide +kernel
theorem dD_copy_73 : decode cD_copy 73 = .ok (.ireturn, 1) := by decide +kernel
theorem dD_copy_74 : decode cD_copy 74 = .ok (.aload_n 0, 1) := by decide +kernel
theorem dD_copy_75 : decode cD_copy 75 = .ok (.getfield 9, 3) := by decide +kernel
theorem dD_copy_78 : decode cD_copy 78 = .ok (.aload 6, 2) := by decide +kernel
theorem dD_copy_80 : decode cD_copy 80 = .ok (.getfield 85, 3) := by decide +kernel
theorem dD_copy_83 : decode cD_copy 83 = .ok (.iload_n 2, 1) := by decide +kernel
theorem dD_copy_84 : decode cD_copy 84 = .ok (.iadd, 1) := by decide +kernel
theorem dD_copy_85 : decode cD_copy 85 = .ok (.aload_n 0, 1) := by decide +kernel
theorem dD_copy_86 : decode cD_copy 86 = .ok (.getfield 9, 3) := by decide +kernel
theorem dD_copy_89 : decode cD_copy 89 = .ok (.aload 7, 2) := by decide +kernel
theorem dD_copy_91 : decode cD_copy 91 = .ok (.getfield 85, 3) := by decide +kernel
theorem dD_copy_94 : decode cD_copy 94 = .ok (.iload 4, 2) := by decide +kernel
theorem dD_copy_96 : decode cD_copy 96 = .ok (.iadd, 1) := by decide +kernel
theorem dD_copy_97 : decode cD_copy 97 = .ok (.iload 5, 2) := by decide +kernel
theorem dD_copy_99 : decode cD_copy 99 = .ok (.invokestatic 65, 3) := by decide +kernel
theorem dD_copy_102 : decode cD_copy 102 = .ok (.iconst 1, 1) := by decide +kernel
theorem dD_copy_103 : decode cD_copy 103 = .ok (.ireturn, 1) := by decide +kernel
theorem dD_meet_0 : decode cD_meet 0 = .ok (.aload_n 0, 1) := by decide +kernel
theorem dD_meet_1 : decode cD_meet 1 = .ok (.iload_n 1, 1) := by decide +kernel
theorem dD_meet_2 : decode cD_meet 2 = .ok (.invokevirtual 96, 3) := by decide +kernel
theorem dD_meet_5 : decode cD_meet 5 = .ok (.astore_n 3, 1) := by decide +kernel
theorem dD_meet_6 : decode cD_meet 6 = .ok (.aload_n 0, 1) := by decide +kernel
theorem dD_meet_7 : decode cD_meet 7 = .ok (.iload_n 2, 1) := by decide +kernel
theorem dD_meet_8 : decode cD_meet 8 = .ok (.invokevirtual 96, 3) := by decide +kernel
theorem dD_meet_11 : decode cD_meet 11 = .ok (.astore 4, 2) := by decide +kernel
theorem dD_meet_13 : decode cD_meet 13 = .ok (.aload_n 3, 1) := by decide +kernel
theorem dD_meet_14 : decode cD_meet 14 = .ok (.ifnull 21, 3) := by decide +kernel
theorem dD_meet_17 : decode cD_meet 17 = .ok (.aload 4, 2) := by decide +kernel
theorem dD_meet_19 : decode cD_meet 19 = .ok (.ifnull 16, 3) := by decide +kernel
theorem dD_meet_22 : decode cD_meet 22 = .ok (.aload_n 3, 1) := by decide +kernel
theorem dD_meet_23 : decode cD_meet 23 = .ok (.aload 4, 2) := by decide +kernel
theorem dD_meet_25 : decode cD_meet 25 = .ok (.invokevirtual 125, 3) := by decide +kernel
theorem dD_meet_28 : decode cD_meet 28 = .ok (.ifCond .eq 7, 3) := by decide +kernel
theorem dD_meet_31 : decode cD_meet 31 = .ok (.iconst 1, 1) := by decide +kernel
theorem dD_meet_32 : decode cD_meet 32 = .ok (.goto 4, 3) := by decide +kernel
theorem dD_meet_35 : decode cD_meet 35 = .ok (.iconst 0, 1) := by decide +kernel
theorem dD_meet_36 : decode cD_meet 36 = .ok (.ireturn, 1) := by decide +kernel
theorem dD_mark_0 : decode cD_mark 0 = .ok (.aload_n 0, 1) := by decide +kernel
theorem dD_mark_1 : decode cD_mark 1 = .ok (.getfield 51, 3) := by decide +kernel
theorem dD_mark_4 : decode cD_mark 4 = .ok (.bipush 20, 2) := by decide +kernel
theorem dD_mark_6 : decode cD_mark 6 = .ok (.if_icmp .lt 5, 3) := by decide +kernel
theorem dD_mark_9 : decode cD_mark 9 = .ok (.iconst (-1), 1) := by decide +kernel
theorem dD_mark_10 : decode cD_mark 10 = .ok (.ireturn, 1) := by decide +kernel
theorem dD_mark_11 : decode cD_mark 11 = .ok (.aload_n 0, 1) := by decide +kernel
theorem dD_mark_12 : decode cD_mark 12 = .ok (.getfield 47, 3) := by decide +kernel
theorem dD_mark_15 : decode cD_mark 15 = .ok (.aload_n 0, 1) := by decide +kernel
theorem dD_mark_16 : decode cD_mark 16 = .ok (.getfield 51, 3) := by decide +kernel
theorem dD_mark_19 : decode cD_mark 19 = .ok (.aaload, 1) := by decide +kernel
theorem dD_mark_20 : decode cD_mark 20 = .ok (.astore_n 1, 1) := by decide +kernel
theorem dD_mark_21 : decode cD_mark 21 = .ok (.aload_n 1, 1) := by decide +kernel
theorem dD_mark_22 : decode cD_mark 22 = .ok (.ifnonnull 21, 3) := by decide +kernel
theorem dD_mark_25 : decode cD_mark 25 = .ok (.new 45, 3) := by decide +kernel
theorem dD_mark_28 : decode cD_mark 28 = .ok (.dup, 1) := by decide +kernel
theorem dD_mark_29 : decode cD_mark 29 = .ok (.invokespecial 129, 3) := by decide +kernel
theorem dD_mark_32 : decode cD_mark 32 = .ok (.astore_n 1, 1) := by decide +kernel
theorem dD_mark_33 : decode cD_mark 33 = .ok (.aload_n 0, 1) := by decide +kernel
theorem dD_mark_34 : decode cD_mark 34 = .ok (.getfield 47, 3) := by decide +kernel
theorem dD_mark_37 : decode cD_mark 37 = .ok (.aload_n 0, 1) := by decide +kernel
theorem dD_mark_38 : decode cD_mark 38 = .ok (.getfield 51, 3) := by decide +kernel
theorem dD_mark_41 : decode cD_mark 41 = .ok (.aload_n 1, 1) := by decide +kernel
theorem dD_mark_42 : decode cD_mark 42 = .ok (.aastore, 1) := by decide +kernel
theorem dD_mark_43 : decode cD_mark 43 = .ok (.aload_n 1, 1) := by decide +kernel
theorem dD_mark_44 : decode cD_mark 44 = .ok (.aload_n 0, 1) := by decide +kernel
theorem dD_mark_45 : decode cD_mark 45 = .ok (.getfield 9, 3) := by decide +kernel
theorem dD_mark_48 : decode cD_mark 48 = .ok (.aload_n 0, 1) := by decide +kernel
theorem dD_mark_49 : decode cD_mark 49 = .ok (.getfield 17, 3) := by decide +kernel
theorem dD_mark_52 : decode cD_mark 52 = .ok (.invokevirtual 130, 3) := by decide +kernel
theorem dD_mark_55 : decode cD_mark 55 = .ok (.aload_n 0, 1) := by decide +kernel
theorem dD_mark_56 : decode cD_mark 56 = .ok (.dup, 1) := by decide +kernel
theorem dD_mark_57 : decode cD_mark 57 = .ok (.getfield 51, 3) := by decide +kernel
theorem dD_mark_60 : decode cD_mark 60 = .ok (.iconst 1, 1) := by decide +kernel
theorem dD_mark_61 : decode cD_mark 61 = .ok (.iadd, 1) := by decide +kernel
theorem dD_mark_62 : decode cD_mark 62 = .ok (.putfield 51, 3) := by decide +kernel
theorem dD_mark_65 : decode cD_mark 65 = .ok (.aload_n 0, 1) := by decide +kernel
theorem dD_mark_66 : decode cD_mark 66 = .ok (.getfield 51, 3) := by decide +kernel
theorem dD_mark_69 : decode cD_mark 69 = .ok (.iconst 1, 1) := by decide +kernel
theorem dD_mark_70 : decode cD_mark 70 = .ok (.isub, 1) := by decide +kernel
theorem dD_mark_71 : decode cD_mark 71 = .ok (.ireturn, 1) := by decide +kernel
theorem dD_back_0 : decode cD_back 0 = .ok (.aload_n 0, 1) := by decide +kernel
theorem dD_back_1 : decode cD_back 1 = .ok (.iload_n 1, 1) := by decide +kernel
theorem dD_back_2 : decode cD_back 2 = .ok (.invokevirtual 134, 3) := by decide +kernel
theorem dD_back_5 : decode cD_back 5 = .ok (.astore_n 2, 1) := by decide +kernel
theorem dD_back_6 : decode cD_back 6 = .ok (.aload_n 2, 1) := by decide +kernel
theorem dD_back_7 : decode cD_back 7 = .ok (.ifnonnull 5, 3) := by decide +kernel
theorem dD_back_10 : decode cD_back 10 = .ok (.iconst (-1), 1) := by decide +kernel
theorem dD_back_11 : decode cD_back 11 = .ok (.ireturn, 1) := by decide +kernel
theorem dD_back_12 : decode cD_back 12 = .ok (.aload_n 2, 1) := by decide +kernel
theorem dD_back_13 : decode cD_back 13 = .ok (.aload_n 0, 1) := by decide +kernel
theorem dD_back_14 : decode cD_back 14 = .ok (.getfield 9, 3) := by decide +kernel
theorem dD_back_17 : decode cD_back 17 = .ok (.invokevirtual 138, 3) := by decide +kernel
theorem dD_back_20 : decode cD_back 20 = .ok (.istore_n 3, 1) := by decide +kernel
theorem dD_back_21 : decode cD_back 21 = .ok (.aload_n 2, 1) := by decide +kernel
theorem dD_back_22 : decode cD_back 22 = .ok (.aload_n 0, 1) := by decide +kernel
theorem dD_back_23 : decode cD_back 23 = .ok (.getfield 9, 3) := by decide +kernel
theorem dD_back_26 : decode cD_back 26 = .ok (.invokevirtual 142, 3) := by decide +kernel
theorem dD_back_29 : decode cD_back 29 = .ok (.aload_n 0, 1) := by decide +kernel
theorem dD_back_30 : decode cD_back 30 = .ok (.iload_n 1, 1) := by decide +kernel
theorem dD_back_31 : decode cD_back 31 = .ok (.iconst 1, 1) := by decide +kernel
theorem dD_back_32 : decode cD_back 32 = .ok (.iadd, 1) := by decide +kernel
theorem dD_back_33 : decode cD_back 33 = .ok (.putfield 51, 3) := by decide +kernel
theorem dD_back_36 : decode cD_back 36 = .ok (.iload_n 3, 1) := by decide +kernel
theorem dD_back_37 : decode cD_back 37 = .ok (.ireturn, 1) := by decide +kernel
theorem dD_changed_0 : decode cD_changed 0 = .ok (.aload_n 0, 1) := by decide +kernel
theorem dD_changed_1 : decode cD_changed 1 = .ok (.iload_n 1, 1) := by decide +kernel
theorem dD_changed_2 : decode cD_changed 2 = .ok (.invokevirtual 134, 3) := by decide +kernel
theorem dD_changed_5 : decode cD_changed 5 = .ok (.astore_n 2, 1) := by decide +kernel
theorem dD_changed_6 : decode cD_changed 6 = .ok (.aload_n 2, 1) := by decide +kernel
theorem dD_changed_7 : decode cD_changed 7 = .ok (.ifnonnull 7, 3) := by decide +kernel
theorem dD_changed_10 : decode cD_changed 10 = .ok (.iconst (-1), 1) := by decide +kernel
theorem dD_changed_11 : decode cD_changed 11 = .ok (.goto 11, 3) := by decide +kernel
theorem dD_changed_14 : decode cD_changed 14 = .ok (.aload_n 2, 1) := by decide +kernel
theorem dD_changed_15 : decode cD_changed 15 = .ok (.aload_n 0, 1) := by decide +kernel
theorem dD_changed_16 : decode cD_changed 16 = .ok (.getfield 9, 3) := by decide +kernel
theorem dD_changed_19 : decode cD_changed 19 = .ok (.invokevirtual 138, 3) := by decide +kernel
theorem dD_changed_22 : decode cD_changed 22 = .ok (.ireturn, 1) := by decide +kernel
theorem dD_isKind_0 : decode cD_isKind 0 = .ok (.iload_n 0, 1) := by decide +kernel
theorem dD_isKind_1 : decode cD_isKind 1 = .ok (.iconst 1, 1) := by decide +kernel
theorem dD_isKind_2 : decode cD_isKind 2 = .ok (.if_icmp .lt 13, 3) := by decide +kernel
theorem dD_isKind_5 : decode cD_isKind 5 = .ok (.iload_n 0, 1) := by decide +kernel
theorem dD_isKind_6 : decode cD_isKind 6 = .ok (.bipush 7, 2) := by decide +kernel
theorem dD_isKind_8 : decode cD_isKind 8 = .ok (.if_icmp .gt 7, 3) := by decide +kernel
theorem dD_isKind_11 : decode cD_isKind 11 = .ok (.iconst 1, 1) := by decide +kernel
theorem dD_isKind_12 : decode cD_isKind 12 = .ok (.goto 4, 3) := by decide +kernel
theorem dD_isKind_15 : decode cD_isKind 15 = .ok (.iconst 0, 1) := by decide +kernel
theorem dD_isKind_16 : decode cD_isKind 16 = .ok (.ireturn, 1) := by decide +kernel
theorem dD_widthOfView_0 : decode cD_widthOfView 0 = .ok (.iload_n 0, 1) := by decide +kernel
theorem dD_widthOfView_1 : decode cD_widthOfView 1 = .ok (.tableswitch 38 3 6 #[31, 31, 33, 35], 31) := by decide +kernel
theorem dD_widthOfView_32 : decode cD_widthOfView 32 = .ok (.iconst 2, 1) := by decide +kernel
theorem dD_widthOfView_33 : decode cD_widthOfView 33 = .ok (.ireturn, 1) := by decide +kernel
theorem dD_widthOfView_34 : decode cD_widthOfView 34 = .ok (.iconst 4, 1) := by decide +kernel
theorem dD_widthOfView_35 : decode cD_widthOfView 35 = .ok (.ireturn, 1) := by decide +kernel
theorem dD_widthOfView_36 : decode cD_widthOfView 36 = .ok (.bipush 8, 2) := by decide +kernel
theorem dD_widthOfView_38 : decode cD_widthOfView 38 = .ok (.ireturn, 1) := by decide +kernel
theorem dD_widthOfView_39 : decode cD_widthOfView 39 = .ok (.iconst 0, 1) := by decide +kernel
theorem dD_widthOfView_40 : decode cD_widthOfView 40 = .ok (.ireturn, 1) := by decide +kernel
theorem dD_isActOf_0 : decode cD_isActOf 0 = .ok (.iload_n 0, 1) := by decide +kernel
theorem dD_isActOf_1 : decode cD_isActOf 1 = .ok (.tableswitch 78 0 7 #[47, 47, 47, 47, 49, 66, 66, 66], 47) := by decide +kernel
theorem dD_isActOf_48 : decode cD_isActOf 48 = .ok (.iconst 1, 1) := by decide +kernel
theorem dD_isActOf_49 : decode cD_isActOf 49 = .ok (.ireturn, 1) := by decide +kernel
theorem dD_isActOf_50 : decode cD_isActOf 50 = .ok (.iload_n 1, 1) := by decide +kernel
theorem dD_isActOf_51 : decode cD_isActOf 51 = .ok (.iconst 1, 1) := by decide +kernel
theorem dD_isActOf_52 : decode cD_isActOf 52 = .ok (.if_icmp .eq 13, 3) := by decide +kernel
theorem dD_isActOf_55 : decode cD_isActOf 55 = .ok (.iload_n 1, 1) := by decide +kernel
theorem dD_isActOf_56 : decode cD_isActOf 56 = .ok (.bipush 7, 2) := by decide +kernel
theorem dD_isActOf_58 : decode cD_isActOf 58 = .ok (.if_icmp .eq 7, 3) := by decide +kernel
theorem dD_isActOf_61 : decode cD_isActOf 61 = .ok (.iconst 1, 1) := by decide +kernel
theorem dD_isActOf_62 : decode cD_isActOf 62 = .ok (.goto 4, 3) := by decide +kernel
theorem dD_isActOf_65 : decode cD_isActOf 65 = .ok (.iconst 0, 1) := by decide +kernel
theorem dD_isActOf_66 : decode cD_isActOf 66 = .ok (.ireturn, 1) := by decide +kernel
theorem dD_isActOf_67 : decode cD_isActOf 67 = .ok (.iload_n 1, 1) := by decide +kernel
theorem dD_isActOf_68 : decode cD_isActOf 68 = .ok (.bipush 7, 2) := by decide +kernel
theorem dD_isActOf_70 : decode cD_isActOf 70 = .ok (.if_icmp .eq 7, 3) := by decide +kernel
theorem dD_isActOf_73 : decode cD_isActOf 73 = .ok (.iconst 1, 1) := by decide +kernel
theorem dD_isActOf_74 : decode cD_isActOf 74 = .ok (.goto 4, 3) := by decide +kernel
theorem dD_isActOf_77 : decode cD_isActOf 77 = .ok (.iconst 0, 1) := by decide +kernel
theorem dD_isActOf_78 : decode cD_isActOf 78 = .ok (.ireturn, 1) := by decide +kernel
theorem dD_isActOf_79 : decode cD_isActOf 79 = .ok (.iconst 0, 1) := by decide +kernel
theorem dD_isActOf_80 : decode cD_isActOf 80 = .ok (.ireturn, 1) := by decide +kernel
theorem dD_isValue_0 : decode cD_isValue 0 = .ok (.iload_n 1, 1) := by decide +kernel
theorem dD_isValue_1 : decode cD_isValue 1 = .ok (.bipush 7, 2) := by decide +kernel
theorem dD_isValue_3 : decode cD_isValue 3 = .ok (.if_icmp .ne 27, 3) := by decide +kernel
theorem dD_isValue_6 : decode cD_isValue 6 = .ok (.lload_n 2, 1) := by decide +kernel
theorem dD_isValue_7 : decode cD_isValue 7 = .ok (.ldc2_w 146, 3) := by decide +kernel
theorem dD_isValue_10 : decode cD_isValue 10 = .ok (.lcmp, 1) := by decide +kernel
theorem dD_isValue_11 : decode cD_isValue 11 = .ok (.ifCond .lt 17, 3) := by decide +kernel
theorem dD_isValue_14 : decode cD_isValue 14 = .ok (.lload_n 2, 1) := by decide +kernel
theorem dD_isValue_15 : decode cD_isValue 15 = .ok (.aload_n 0, 1) := by decide +kernel
theorem dD_isValue_16 : decode cD_isValue 16 = .ok (.getfield 27, 3) := by decide +kernel
theorem dD_isValue_19 : decode cD_isValue 19 = .ok (.i2l, 1) := by decide +kernel
theorem dD_isValue_20 : decode cD_isValue 20 = .ok (.lcmp, 1) := by decide +kernel
theorem dD_isValue_21 : decode cD_isValue 21 = .ok (.ifCond .ge 7, 3) := by decide +kernel
theorem dD_isValue_24 : decode cD_isValue 24 = .ok (.iconst 1, 1) := by decide +kernel
theorem dD_isValue_25 : decode cD_isValue 25 = .ok (.goto 4, 3) := by decide +kernel
theorem dD_isValue_28 : decode cD_isValue 28 = .ok (.iconst 0, 1) := by decide +kernel
theorem dD_isValue_29 : decode cD_isValue 29 = .ok (.ireturn, 1) := by decide +kernel
theorem dD_isValue_30 : decode cD_isValue 30 = .ok (.iload_n 1, 1) := by decide +kernel
theorem dD_isValue_31 : decode cD_isValue 31 = .ok (.lload_n 2, 1) := by decide +kernel
theorem dD_isValue_32 : decode cD_isValue 32 = .ok (.invokestatic 148, 3) := by decide +kernel
theorem dD_isValue_35 : decode cD_isValue 35 = .ok (.lload_n 2, 1) := by decide +kernel
theorem dD_isValue_36 : decode cD_isValue 36 = .ok (.lcmp, 1) := by decide +kernel
theorem dD_isValue_37 : decode cD_isValue 37 = .ok (.ifCond .ne 7, 3) := by decide +kernel
theorem dD_isValue_40 : decode cD_isValue 40 = .ok (.iconst 1, 1) := by decide +kernel
theorem dD_isValue_41 : decode cD_isValue 41 = .ok (.goto 4, 3) := by decide +kernel
theorem dD_isValue_44 : decode cD_isValue 44 = .ok (.iconst 0, 1) := by decide +kernel
theorem dD_isValue_45 : decode cD_isValue 45 = .ok (.ireturn, 1) := by decide +kernel
theorem dD_lowestBits_0 : decode cD_lowestBits 0 = .ok (.iload_n 0, 1) := by decide +kernel
theorem dD_lowestBits_1 : decode cD_lowestBits 1 = .ok (.tableswitch 59 1 5 #[35, 39, 44, 49, 55], 35) := by decide +kernel
theorem dD_lowestBits_36 : decode cD_lowestBits 36 = .ok (.lload_n 1, 1) := by decide +kernel
theorem dD_lowestBits_37 : decode cD_lowestBits 37 = .ok (.lconst 1, 1) := by decide +kernel
theorem dD_lowestBits_38 : decode cD_lowestBits 38 = .ok (.land, 1) := by decide +kernel
theorem dD_lowestBits_39 : decode cD_lowestBits 39 = .ok (.lreturn, 1) := by decide +kernel
theorem dD_lowestBits_40 : decode cD_lowestBits 40 = .ok (.lload_n 1, 1) := by decide +kernel
theorem dD_lowestBits_41 : decode cD_lowestBits 41 = .ok (.l2i, 1) := by decide +kernel
theorem dD_lowestBits_42 : decode cD_lowestBits 42 = .ok (.i2b, 1) := by decide +kernel
theorem dD_lowestBits_43 : decode cD_lowestBits 43 = .ok (.i2l, 1) := by decide +kernel
theorem dD_lowestBits_44 : decode cD_lowestBits 44 = .ok (.lreturn, 1) := by decide +kernel
theorem dD_lowestBits_45 : decode cD_lowestBits 45 = .ok (.lload_n 1, 1) := by decide +kernel
theorem dD_lowestBits_46 : decode cD_lowestBits 46 = .ok (.l2i, 1) := by decide +kernel
theorem dD_lowestBits_47 : decode cD_lowestBits 47 = .ok (.i2s, 1) := by decide +kernel
theorem dD_lowestBits_48 : decode cD_lowestBits 48 = .ok (.i2l, 1) := by decide +kernel
theorem dD_lowestBits_49 : decode cD_lowestBits 49 = .ok (.lreturn, 1) := by decide +kernel
theorem dD_lowestBits_50 : decode cD_lowestBits 50 = .ok (.lload_n 1, 1) := by decide +kernel
theorem dD_lowestBits_51 : decode cD_lowestBits 51 = .ok (.ldc2_w 152, 3) := by decide +kernel
theorem dD_lowestBits_54 : decode cD_lowestBits 54 = .ok (.land, 1) := by decide +kernel
theorem dD_lowestBits_55 : decode cD_lowestBits 55 = .ok (.lreturn, 1) := by decide +kernel
theorem dD_lowestBits_56 : decode cD_lowestBits 56 = .ok (.lload_n 1, 1) := by decide +kernel
theorem dD_lowestBits_57 : decode cD_lowestBits 57 = .ok (.l2i, 1) := by decide +kernel
theorem dD_lowestBits_58 : decode cD_lowestBits 58 = .ok (.i2l, 1) := by decide +kernel
theorem dD_lowestBits_59 : decode cD_lowestBits 59 = .ok (.lreturn, 1) := by decide +kernel
theorem dD_lowestBits_60 : decode cD_lowestBits 60 = .ok (.lload_n 1, 1) := by decide +kernel
theorem dD_lowestBits_61 : decode cD_lowestBits 61 = .ok (.lreturn, 1) := by decide +kernel
theorem dD_hasRoomFor_0 : decode cD_hasRoomFor 0 = .ok (.aload_n 0, 1) := by decide +kernel
theorem dD_hasRoomFor_1 : decode cD_hasRoomFor 1 = .ok (.getfield 27, 3) := by decide +kernel
theorem dD_hasRoomFor_4 : decode cD_hasRoomFor 4 = .ok (.sipush 300, 3) := by decide +kernel
theorem dD_hasRoomFor_7 : decode cD_hasRoomFor 7 = .ok (.if_icmp .ge 19, 3) := by decide +kernel
theorem dD_hasRoomFor_10 : decode cD_hasRoomFor 10 = .ok (.iload_n 1, 1) := by decide +kernel
theorem dD_hasRoomFor_11 : decode cD_hasRoomFor 11 = .ok (.sipush 4000, 3) := by decide +kernel
theorem dD_hasRoomFor_14 : decode cD_hasRoomFor 14 = .ok (.aload_n 0, 1) := by decide +kernel
theorem dD_hasRoomFor_15 : decode cD_hasRoomFor 15 = .ok (.getfield 17, 3) := by decide +kernel
theorem dD_hasRoomFor_18 : decode cD_hasRoomFor 18 = .ok (.isub, 1) := by decide +kernel
theorem dD_hasRoomFor_19 : decode cD_hasRoomFor 19 = .ok (.if_icmp .gt 7, 3) := by decide +kernel
theorem dD_hasRoomFor_22 : decode cD_hasRoomFor 22 = .ok (.iconst 1, 1) := by decide +kernel
theorem dD_hasRoomFor_23 : decode cD_hasRoomFor 23 = .ok (.goto 4, 3) := by decide +kernel
theorem dD_hasRoomFor_26 : decode cD_hasRoomFor 26 = .ok (.iconst 0, 1) := by decide +kernel
theorem dD_hasRoomFor_27 : decode cD_hasRoomFor 27 = .ok (.ireturn, 1) := by decide +kernel
theorem dD_addThing_0 : decode cD_addThing 0 = .ok (.aload_n 0, 1) := by decide +kernel
theorem dD_addThing_1 : decode cD_addThing 1 = .ok (.getfield 17, 3) := by decide +kernel
theorem dD_addThing_4 : decode cD_addThing 4 = .ok (.istore_n 3, 1) := by decide +kernel
theorem dD_addThing_5 : decode cD_addThing 5 = .ok (.iload_n 3, 1) := by decide +kernel
theorem dD_addThing_6 : decode cD_addThing 6 = .ok (.aload_n 0, 1) := by decide +kernel
theorem dD_addThing_7 : decode cD_addThing 7 = .ok (.getfield 17, 3) := by decide +kernel
theorem dD_addThing_10 : decode cD_addThing 10 = .ok (.iload_n 2, 1) := by decide +kernel
theorem dD_addThing_11 : decode cD_addThing 11 = .ok (.iadd, 1) := by decide +kernel
theorem dD_addThing_12 : decode cD_addThing 12 = .ok (.if_icmp .ge 33, 3) := by decide +kernel
theorem dD_addThing_15 : decode cD_addThing 15 = .ok (.aload_n 0, 1) := by decide +kernel
theorem dD_addThing_16 : decode cD_addThing 16 = .ok (.getfield 9, 3) := by decide +kernel
theorem dD_addThing_19 : decode cD_addThing 19 = .ok (.iload_n 3, 1) := by decide +kernel
theorem dD_addThing_20 : decode cD_addThing 20 = .ok (.aload_n 0, 1) := by decide +kernel
theorem dD_addThing_21 : decode cD_addThing 21 = .ok (.getfield 13, 3) := by decide +kernel
theorem dD_addThing_24 : decode cD_addThing 24 = .ok (.iload_n 3, 1) := by decide +kernel
theorem dD_addThing_25 : decode cD_addThing 25 = .ok (.iaload, 1) := by decide +kernel
theorem dD_addThing_26 : decode cD_addThing 26 = .ok (.bipush 7, 2) := by decide +kernel
theorem dD_addThing_28 : decode cD_addThing 28 = .ok (.if_icmp .ne 9, 3) := by decide +kernel
theorem dD_addThing_31 : decode cD_addThing 31 = .ok (.ldc2_w 146, 3) := by decide +kernel
theorem dD_addThing_34 : decode cD_addThing 34 = .ok (.goto 4, 3) := by decide +kernel
theorem dD_addThing_37 : decode cD_addThing 37 = .ok (.lconst 0, 1) := by decide +kernel
theorem dD_addThing_38 : decode cD_addThing 38 = .ok (.lastore, 1) := by decide +kernel
theorem dD_addThing_39 : decode cD_addThing 39 = .ok (.iinc 3 1, 3) := by decide +kernel
theorem dD_addThing_42 : decode cD_addThing 42 = .ok (.goto (-37), 3) := by decide +kernel
theorem dD_addThing_45 : decode cD_addThing 45 = .ok (.aload_n 0, 1) := by decide +kernel
theorem dD_addThing_46 : decode cD_addThing 46 = .ok (.getfield 23, 3) := by decide +kernel
theorem dD_addThing_49 : decode cD_addThing 49 = .ok (.aload_n 0, 1) := by decide +kernel
theorem dD_addThing_50 : decode cD_addThing 50 = .ok (.getfield 27, 3) := by decide +kernel
theorem dD_addThing_53 : decode cD_addThing 53 = .ok (.new 21, 3) := by decide +kernel
theorem dD_addThing_56 : decode cD_addThing 56 = .ok (.dup, 1) := by decide +kernel
theorem dD_addThing_57 : decode cD_addThing 57 = .ok (.iload_n 1, 1) := by decide +kernel
theorem dD_addThing_58 : decode cD_addThing 58 = .ok (.aload_n 0, 1) := by decide +kernel
theorem dD_addThing_59 : decode cD_addThing 59 = .ok (.getfield 17, 3) := by decide +kernel
theorem dD_addThing_62 : decode cD_addThing 62 = .ok (.iload_n 2, 1) := by decide +kernel
theorem dD_addThing_63 : decode cD_addThing 63 = .ok (.invokespecial 154, 3) := by decide +kernel
theorem dD_addThing_66 : decode cD_addThing 66 = .ok (.aastore, 1) := by decide +kernel
theorem dD_addThing_67 : decode cD_addThing 67 = .ok (.aload_n 0, 1) := by decide +kernel
theorem dD_addThing_68 : decode cD_addThing 68 = .ok (.dup, 1) := by decide +kernel
theorem dD_addThing_69 : decode cD_addThing 69 = .ok (.getfield 17, 3) := by decide +kernel
theorem dD_addThing_72 : decode cD_addThing 72 = .ok (.iload_n 2, 1) := by decide +kernel
theorem dD_addThing_73 : decode cD_addThing 73 = .ok (.iadd, 1) := by decide +kernel
theorem dD_addThing_74 : decode cD_addThing 74 = .ok (.putfield 17, 3) := by decide +kernel
theorem dD_addThing_77 : decode cD_addThing 77 = .ok (.aload_n 0, 1) := by decide +kernel
theorem dD_addThing_78 : decode cD_addThing 78 = .ok (.dup, 1) := by decide +kernel
theorem dD_addThing_79 : decode cD_addThing 79 = .ok (.getfield 27, 3) := by decide +kernel
theorem dD_addThing_82 : decode cD_addThing 82 = .ok (.iconst 1, 1) := by decide +kernel
theorem dD_addThing_83 : decode cD_addThing 83 = .ok (.iadd, 1) := by decide +kernel
theorem dD_addThing_84 : decode cD_addThing 84 = .ok (.putfield 27, 3) := by decide +kernel
theorem dD_addThing_87 : decode cD_addThing 87 = .ok (.aload_n 0, 1) := by decide +kernel
theorem dD_addThing_88 : decode cD_addThing 88 = .ok (.getfield 27, 3) := by decide +kernel
theorem dD_addThing_91 : decode cD_addThing 91 = .ok (.iconst 1, 1) := by decide +kernel
theorem dD_addThing_92 : decode cD_addThing 92 = .ok (.isub, 1) := by decide +kernel
theorem dD_addThing_93 : decode cD_addThing 93 = .ok (.ireturn, 1) := by decide +kernel
theorem dD_addSpot_0 : decode cD_addSpot 0 = .ok (.aload_n 0, 1) := by decide +kernel
theorem dD_addSpot_1 : decode cD_addSpot 1 = .ok (.getfield 42, 3) := by decide +kernel
theorem dD_addSpot_4 : decode cD_addSpot 4 = .ok (.bipush 100, 2) := by decide +kernel
theorem dD_addSpot_6 : decode cD_addSpot 6 = .ok (.if_icmp .lt 5, 3) := by decide +kernel
theorem dD_addSpot_9 : decode cD_addSpot 9 = .ok (.iconst (-1), 1) := by decide +kernel
theorem dD_addSpot_10 : decode cD_addSpot 10 = .ok (.ireturn, 1) := by decide +kernel
theorem dD_addSpot_11 : decode cD_addSpot 11 = .ok (.aload_n 0, 1) := by decide +kernel
theorem dD_addSpot_12 : decode cD_addSpot 12 = .ok (.getfield 38, 3) := by decide +kernel
theorem dD_addSpot_15 : decode cD_addSpot 15 = .ok (.aload_n 0, 1) := by decide +kernel
theorem dD_addSpot_16 : decode cD_addSpot 16 = .ok (.getfield 42, 3) := by decide +kernel
theorem dD_addSpot_19 : decode cD_addSpot 19 = .ok (.new 36, 3) := by decide +kernel
theorem dD_addSpot_22 : decode cD_addSpot 22 = .ok (.dup, 1) := by decide +kernel
theorem dD_addSpot_23 : decode cD_addSpot 23 = .ok (.iload_n 1, 1) := by decide +kernel
theorem dD_addSpot_24 : decode cD_addSpot 24 = .ok (.iload_n 2, 1) := by decide +kernel
theorem dD_addSpot_25 : decode cD_addSpot 25 = .ok (.iload_n 3, 1) := by decide +kernel
theorem dD_addSpot_26 : decode cD_addSpot 26 = .ok (.iload 4, 2) := by decide +kernel
theorem dD_addSpot_28 : decode cD_addSpot 28 = .ok (.invokespecial 157, 3) := by decide +kernel
theorem dD_addSpot_31 : decode cD_addSpot 31 = .ok (.aastore, 1) := by decide +kernel
theorem dD_addSpot_32 : decode cD_addSpot 32 = .ok (.aload_n 0, 1) := by decide +kernel
theorem dD_addSpot_33 : decode cD_addSpot 33 = .ok (.dup, 1) := by decide +kernel
theorem dD_addSpot_34 : decode cD_addSpot 34 = .ok (.getfield 42, 3) := by decide +kernel
theorem dD_addSpot_37 : decode cD_addSpot 37 = .ok (.iconst 1, 1) := by decide +kernel
theorem dD_addSpot_38 : decode cD_addSpot 38 = .ok (.iadd, 1) := by decide +kernel
theorem dD_addSpot_39 : decode cD_addSpot 39 = .ok (.putfield 42, 3) := by decide +kernel
theorem dD_addSpot_42 : decode cD_addSpot 42 = .ok (.aload_n 0, 1) := by decide +kernel
theorem dD_addSpot_43 : decode cD_addSpot 43 = .ok (.getfield 42, 3) := by decide +kernel
theorem dD_addSpot_46 : decode cD_addSpot 46 = .ok (.iconst 1, 1) := by decide +kernel
theorem dD_addSpot_47 : decode cD_addSpot 47 = .ok (.isub, 1) := by decide +kernel
theorem dD_addSpot_48 : decode cD_addSpot 48 = .ok (.ireturn, 1) := by decide +kernel
theorem dD_findThing_0 : decode cD_findThing 0 = .ok (.iload_n 1, 1) := by decide +kernel
theorem dD_findThing_1 : decode cD_findThing 1 = .ok (.ifCond .lt 20, 3) := by decide +kernel
theorem dD_findThing_4 : decode cD_findThing 4 = .ok (.iload_n 1, 1) := by decide +kernel
theorem dD_findThing_5 : decode cD_findThing 5 = .ok (.aload_n 0, 1) := by decide +kernel
theorem dD_findThing_6 : decode cD_findThing 6 = .ok (.getfield 27, 3) := by decide +kernel
theorem dD_findThing_9 : decode cD_findThing 9 = .ok (.if_icmp .ge 12, 3) := by decide +kernel
theorem dD_findThing_12 : decode cD_findThing 12 = .ok (.aload_n 0, 1) := by decide +kernel
theorem dD_findThing_13 : decode cD_findThing 13 = .ok (.getfield 23, 3) := by decide +kernel
theorem dD_findThing_16 : decode cD_findThing 16 = .ok (.iload_n 1, 1) := by decide +kernel
theorem dD_findThing_17 : decode cD_findThing 17 = .ok (.aaload, 1) := by decide +kernel
theorem dD_findThing_18 : decode cD_findThing 18 = .ok (.goto 4, 3) := by decide +kernel
theorem dD_findThing_21 : decode cD_findThing 21 = .ok (.aconst_null, 1) := by decide +kernel
theorem dD_findThing_22 : decode cD_findThing 22 = .ok (.areturn, 1) := by decide +kernel
theorem dD_findSpot_0 : decode cD_findSpot 0 = .ok (.iload_n 1, 1) := by decide +kernel
theorem dD_findSpot_1 : decode cD_findSpot 1 = .ok (.ifCond .lt 20, 3) := by decide +kernel
theorem dD_findSpot_4 : decode cD_findSpot 4 = .ok (.iload_n 1, 1) := by decide +kernel
theorem dD_findSpot_5 : decode cD_findSpot 5 = .ok (.aload_n 0, 1) := by decide +kernel
theorem dD_findSpot_6 : decode cD_findSpot 6 = .ok (.getfield 42, 3) := by decide +kernel
theorem dD_findSpot_9 : decode cD_findSpot 9 = .ok (.if_icmp .ge 12, 3) := by decide +kernel
theorem dD_findSpot_12 : decode cD_findSpot 12 = .ok (.aload_n 0, 1) := by decide +kernel
theorem dD_findSpot_13 : decode cD_findSpot 13 = .ok (.getfield 38, 3) := by decide +kernel
theorem dD_findSpot_16 : decode cD_findSpot 16 = .ok (.iload_n 1, 1) := by decide +kernel
theorem dD_findSpot_17 : decode cD_findSpot 17 = .ok (.aaload, 1) := by decide +kernel
theorem dD_findSpot_18 : decode cD_findSpot 18 = .ok (.goto 4, 3) := by decide +kernel
theorem dD_findSpot_21 : decode cD_findSpot 21 = .ok (.aconst_null, 1) := by decide +kernel
theorem dD_findSpot_22 : decode cD_findSpot 22 = .ok (.areturn, 1) := by decide +kernel
theorem dD_findSnapshot_0 : decode cD_findSnapshot 0 = .ok (.iload_n 1, 1) := by decide +kernel
theorem dD_findSnapshot_1 : decode cD_findSnapshot 1 = .ok (.ifCond .lt 20, 3) := by decide +kernel
theorem dD_findSnapshot_4 : decode cD_findSnapshot 4 = .ok (.iload_n 1, 1) := by decide +kernel
theorem dD_findSnapshot_5 : decode cD_findSnapshot 5 = .ok (.aload_n 0, 1) := by decide +kernel
theorem dD_findSnapshot_6 : decode cD_findSnapshot 6 = .ok (.getfield 51, 3) := by decide +kernel
theorem dD_findSnapshot_9 : decode cD_findSnapshot 9 = .ok (.if_icmp .ge 12, 3) := by decide +kernel
theorem dD_findSnapshot_12 : decode cD_findSnapshot 12 = .ok (.aload_n 0, 1) := by decide +kernel
theorem dD_findSnapshot_13 : decode cD_findSnapshot 13 = .ok (.getfield 47, 3) := by decide +kernel
theorem dD_findSnapshot_16 : decode cD_findSnapshot 16 = .ok (.iload_n 1, 1) := by decide +kernel
theorem dD_findSnapshot_17 : decode cD_findSnapshot 17 = .ok (.aaload, 1) := by decide +kernel
theorem dD_findSnapshot_18 : decode cD_findSnapshot 18 = .ok (.goto 4, 3) := by decide +kernel
theorem dD_findSnapshot_21 : decode cD_findSnapshot 21 = .ok (.aconst_null, 1) := by decide +kernel
theorem dD_findSnapshot_22 : decode cD_findSnapshot 22 = .ok (.areturn, 1) := by decide +kernel
theorem dD_perform_0 : decode cD_perform 0 = .ok (.aload_n 0, 1) := by decide +kernel
theorem dD_perform_1 : decode cD_perform 1 = .ok (.aload_n 1, 1) := by decide +kernel
theorem dD_perform_2 : decode cD_perform 2 = .ok (.invokevirtual 160, 3) := by decide +kernel
theorem dD_perform_5 : decode cD_perform 5 = .ok (.lstore 7, 2) := by decide +kernel
theorem dD_perform_7 : decode cD_perform 7 = .ok (.iload_n 2, 1) := by decide +kernel
theorem dD_perform_8 : decode cD_perform 8 = .ok (.tableswitch 136 1 7 #[44, 52, 61, 79, 98, 110, 122], 44) := by decide +kernel
theorem dD_perform_52 : decode cD_perform 52 = .ok (.aload_n 0, 1) := by decide +kernel
theorem dD_perform_53 : decode cD_perform 53 = .ok (.aload_n 1, 1) := by decide +kernel
theorem dD_perform_54 : decode cD_perform 54 = .ok (.lload_n 3, 1) := by decide +kernel
theorem dD_perform_55 : decode cD_perform 55 = .ok (.invokevirtual 164, 3) := by decide +kernel
theorem dD_perform_58 : decode cD_perform 58 = .ok (.lconst 0, 1) := by decide +kernel
theorem dD_perform_59 : decode cD_perform 59 = .ok (.lreturn, 1) := by decide +kernel
theorem dD_perform_60 : decode cD_perform 60 = .ok (.aload_n 0, 1) := by decide +kernel
theorem dD_perform_61 : decode cD_perform 61 = .ok (.aload_n 1, 1) := by decide +kernel
theorem dD_perform_62 : decode cD_perform 62 = .ok (.lload_n 3, 1) := by decide +kernel
theorem dD_perform_63 : decode cD_perform 63 = .ok (.invokevirtual 164, 3) := by decide +kernel
theorem dD_perform_66 : decode cD_perform 66 = .ok (.lload 7, 2) := by decide +kernel
theorem dD_perform_68 : decode cD_perform 68 = .ok (.lreturn, 1) := by decide +kernel
theorem dD_perform_69 : decode cD_perform 69 = .ok (.lload 7, 2) := by decide +kernel
theorem dD_perform_71 : decode cD_perform 71 = .ok (.lload_n 3, 1) := by decide +kernel
theorem dD_perform_72 : decode cD_perform 72 = .ok (.lcmp, 1) := by decide +kernel
theorem dD_perform_73 : decode cD_perform 73 = .ok (.ifCond .eq 5, 3) := by decide +kernel
theorem dD_perform_76 : decode cD_perform 76 = .ok (.lconst 0, 1) := by decide +kernel
theorem dD_perform_77 : decode cD_perform 77 = .ok (.lreturn, 1) := by decide +kernel
theorem dD_perform_78 : decode cD_perform 78 = .ok (.aload_n 0, 1) := by decide +kernel
theorem dD_perform_79 : decode cD_perform 79 = .ok (.aload_n 1, 1) := by decide +kernel
theorem dD_perform_80 : decode cD_perform 80 = .ok (.lload 5, 2) := by decide +kernel
theorem dD_perform_82 : decode cD_perform 82 = .ok (.invokevirtual 164, 3) := by decide +kernel
theorem dD_perform_85 : decode cD_perform 85 = .ok (.lconst 1, 1) := by decide +kernel
theorem dD_perform_86 : decode cD_perform 86 = .ok (.lreturn, 1) := by decide +kernel
theorem dD_perform_87 : decode cD_perform 87 = .ok (.aload_n 0, 1) := by decide +kernel
theorem dD_perform_88 : decode cD_perform 88 = .ok (.aload_n 1, 1) := by decide +kernel
theorem dD_perform_89 : decode cD_perform 89 = .ok (.aload_n 1, 1) := by decide +kernel
theorem dD_perform_90 : decode cD_perform 90 = .ok (.getfield 100, 3) := by decide +kernel
theorem dD_perform_93 : decode cD_perform 93 = .ok (.lload 7, 2) := by decide +kernel
theorem dD_perform_95 : decode cD_perform 95 = .ok (.lload_n 3, 1) := by decide +kernel
theorem dD_perform_96 : decode cD_perform 96 = .ok (.ladd, 1) := by decide +kernel
theorem dD_perform_97 : decode cD_perform 97 = .ok (.invokestatic 148, 3) := by decide +kernel
theorem dD_perform_100 : decode cD_perform 100 = .ok (.invokevirtual 164, 3) := by decide +kernel
theorem dD_perform_103 : decode cD_perform 103 = .ok (.lload 7, 2) := by decide +kernel
theorem dD_perform_105 : decode cD_perform 105 = .ok (.lreturn, 1) := by decide +kernel
theorem dD_perform_106 : decode cD_perform 106 = .ok (.aload_n 0, 1) := by decide +kernel
theorem dD_perform_107 : decode cD_perform 107 = .ok (.aload_n 1, 1) := by decide +kernel
theorem dD_perform_108 : decode cD_perform 108 = .ok (.lload 7, 2) := by decide +kernel
theorem dD_perform_110 : decode cD_perform 110 = .ok (.lload_n 3, 1) := by decide +kernel
theorem dD_perform_111 : decode cD_perform 111 = .ok (.land, 1) := by decide +kernel
theorem dD_perform_112 : decode cD_perform 112 = .ok (.invokevirtual 164, 3) := by decide +kernel
theorem dD_perform_115 : decode cD_perform 115 = .ok (.lload 7, 2) := by decide +kernel
theorem dD_perform_117 : decode cD_perform 117 = .ok (.lreturn, 1) := by decide +kernel
theorem dD_perform_118 : decode cD_perform 118 = .ok (.aload_n 0, 1) := by decide +kernel
theorem dD_perform_119 : decode cD_perform 119 = .ok (.aload_n 1, 1) := by decide +kernel
theorem dD_perform_120 : decode cD_perform 120 = .ok (.lload 7, 2) := by decide +kernel
theorem dD_perform_122 : decode cD_perform 122 = .ok (.lload_n 3, 1) := by decide +kernel
theorem dD_perform_123 : decode cD_perform 123 = .ok (.lor, 1) := by decide +kernel
theorem dD_perform_124 : decode cD_perform 124 = .ok (.invokevirtual 164, 3) := by decide +kernel
theorem dD_perform_127 : decode cD_perform 127 = .ok (.lload 7, 2) := by decide +kernel
theorem dD_perform_129 : decode cD_perform 129 = .ok (.lreturn, 1) := by decide +kernel
theorem dD_perform_130 : decode cD_perform 130 = .ok (.aload_n 0, 1) := by decide +kernel
theorem dD_perform_131 : decode cD_perform 131 = .ok (.aload_n 1, 1) := by decide +kernel
theorem dD_perform_132 : decode cD_perform 132 = .ok (.lload 7, 2) := by decide +kernel
theorem dD_perform_134 : decode cD_perform 134 = .ok (.lload_n 3, 1) := by decide +kernel
theorem dD_perform_135 : decode cD_perform 135 = .ok (.invokestatic 168, 3) := by decide +kernel
theorem dD_perform_138 : decode cD_perform 138 = .ok (.invokevirtual 164, 3) := by decide +kernel
theorem dD_perform_141 : decode cD_perform 141 = .ok (.lload 7, 2) := by decide +kernel
theorem dD_perform_143 : decode cD_perform 143 = .ok (.lreturn, 1) := by decide +kernel
theorem dD_perform_144 : decode cD_perform 144 = .ok (.lload 7, 2) := by decide +kernel
theorem dD_perform_146 : decode cD_perform 146 = .ok (.lreturn, 1) := by decide +kernel
theorem dD_read_0 : decode cD_read 0 = .ok (.aload_n 1, 1) := by decide +kernel
theorem dD_read_1 : decode cD_read 1 = .ok (.getfield 174, 3) := by decide +kernel
theorem dD_read_4 : decode cD_read 4 = .ok (.iconst 1, 1) := by decide +kernel
theorem dD_read_5 : decode cD_read 5 = .ok (.if_icmp .ne 13, 3) := by decide +kernel
theorem dD_read_8 : decode cD_read 8 = .ok (.aload_n 0, 1) := by decide +kernel
theorem dD_read_9 : decode cD_read 9 = .ok (.getfield 9, 3) := by decide +kernel
theorem dD_read_12 : decode cD_read 12 = .ok (.aload_n 1, 1) := by decide +kernel
theorem dD_read_13 : decode cD_read 13 = .ok (.getfield 177, 3) := by decide +kernel
theorem dD_read_16 : decode cD_read 16 = .ok (.laload, 1) := by decide +kernel
theorem dD_read_17 : decode cD_read 17 = .ok (.lreturn, 1) := by decide +kernel
theorem dD_read_18 : decode cD_read 18 = .ok (.lconst 0, 1) := by decide +kernel
theorem dD_read_19 : decode cD_read 19 = .ok (.lstore_n 2, 1) := by decide +kernel
theorem dD_read_20 : decode cD_read 20 = .ok (.iconst 0, 1) := by decide +kernel
theorem dD_read_21 : decode cD_read 21 = .ok (.istore 4, 2) := by decide +kernel
theorem dD_read_23 : decode cD_read 23 = .ok (.iload 4, 2) := by decide +kernel
theorem dD_read_25 : decode cD_read 25 = .ok (.aload_n 1, 1) := by decide +kernel
theorem dD_read_26 : decode cD_read 26 = .ok (.getfield 174, 3) := by decide +kernel
theorem dD_read_29 : decode cD_read 29 = .ok (.if_icmp .ge 30, 3) := by decide +kernel
theorem dD_read_32 : decode cD_read 32 = .ok (.lload_n 2, 1) := by decide +kernel
theorem dD_read_33 : decode cD_read 33 = .ok (.bipush 8, 2) := by decide +kernel
theorem dD_read_35 : decode cD_read 35 = .ok (.lshl, 1) := by decide +kernel
theorem dD_read_36 : decode cD_read 36 = .ok (.aload_n 0, 1) := by decide +kernel
theorem dD_read_37 : decode cD_read 37 = .ok (.getfield 9, 3) := by decide +kernel
theorem dD_read_40 : decode cD_read 40 = .ok (.aload_n 1, 1) := by decide +kernel
theorem dD_read_41 : decode cD_read 41 = .ok (.iload 4, 2) := by decide +kernel
theorem dD_read_43 : decode cD_read 43 = .ok (.invokevirtual 178, 3) := by decide +kernel
theorem dD_read_46 : decode cD_read 46 = .ok (.laload, 1) := by decide +kernel
theorem dD_read_47 : decode cD_read 47 = .ok (.ldc2_w 181, 3) := by decide +kernel
theorem dD_read_50 : decode cD_read 50 = .ok (.land, 1) := by decide +kernel
theorem dD_read_51 : decode cD_read 51 = .ok (.lor, 1) := by decide +kernel
theorem dD_read_52 : decode cD_read 52 = .ok (.lstore_n 2, 1) := by decide +kernel
theorem dD_read_53 : decode cD_read 53 = .ok (.iinc 4 1, 3) := by decide +kernel
theorem dD_read_56 : decode cD_read 56 = .ok (.goto (-33), 3) := by decide +kernel
theorem dD_read_59 : decode cD_read 59 = .ok (.aload_n 1, 1) := by decide +kernel
theorem dD_read_60 : decode cD_read 60 = .ok (.getfield 100, 3) := by decide +kernel
theorem dD_read_63 : decode cD_read 63 = .ok (.lload_n 2, 1) := by decide +kernel
theorem dD_read_64 : decode cD_read 64 = .ok (.invokestatic 148, 3) := by decide +kernel
theorem dD_read_67 : decode cD_read 67 = .ok (.lreturn, 1) := by decide +kernel
theorem dD_write_0 : decode cD_write 0 = .ok (.aload_n 1, 1) := by decide +kernel
theorem dD_write_1 : decode cD_write 1 = .ok (.getfield 174, 3) := by decide +kernel
theorem dD_write_4 : decode cD_write 4 = .ok (.iconst 1, 1) := by decide +kernel
theorem dD_write_5 : decode cD_write 5 = .ok (.if_icmp .ne 14, 3) := by decide +kernel
theorem dD_write_8 : decode cD_write 8 = .ok (.aload_n 0, 1) := by decide +kernel
theorem dD_write_9 : decode cD_write 9 = .ok (.getfield 9, 3) := by decide +kernel
theorem dD_write_12 : decode cD_write 12 = .ok (.aload_n 1, 1) := by decide +kernel
theorem dD_write_13 : decode cD_write 13 = .ok (.getfield 177, 3) := by decide +kernel
theorem dD_write_16 : decode cD_write 16 = .ok (.lload_n 2, 1) := by decide +kernel
theorem dD_write_17 : decode cD_write 17 = .ok (.lastore, 1) := by decide +kernel
theorem dD_write_18 : decode cD_write 18 = .ok (.return_, 1) := by decide +kernel
theorem dD_write_19 : decode cD_write 19 = .ok (.lload_n 2, 1) := by decide +kernel
theorem dD_write_20 : decode cD_write 20 = .ok (.lstore 4, 2) := by decide +kernel
theorem dD_write_22 : decode cD_write 22 = .ok (.aload_n 1, 1) := by decide +kernel
theorem dD_write_23 : decode cD_write 23 = .ok (.getfield 174, 3) := by decide +kernel
theorem dD_write_26 : decode cD_write 26 = .ok (.iconst 1, 1) := by decide +kernel
theorem dD_write_27 : decode cD_write 27 = .ok (.isub, 1) := by decide +kernel
theorem dD_write_28 : decode cD_write 28 = .ok (.istore 6, 2) := by decide +kernel
theorem dD_write_30 : decode cD_write 30 = .ok (.iload 6, 2) := by decide +kernel
theorem dD_write_32 : decode cD_write 32 = .ok (.ifCond .lt 33, 3) := by decide +kernel
theorem dD_write_35 : decode cD_write 35 = .ok (.aload_n 0, 1) := by decide +kernel
theorem dD_write_36 : decode cD_write 36 = .ok (.getfield 9, 3) := by decide +kernel
theorem dD_write_39 : decode cD_write 39 = .ok (.aload_n 1, 1) := by decide +kernel
theorem dD_write_40 : decode cD_write 40 = .ok (.iload 6, 2) := by decide +kernel
theorem dD_write_42 : decode cD_write 42 = .ok (.invokevirtual 178, 3) := by decide +kernel
theorem dD_write_45 : decode cD_write 45 = .ok (.iconst 2, 1) := by decide +kernel
theorem dD_write_46 : decode cD_write 46 = .ok (.lload 4, 2) := by decide +kernel
theorem dD_write_48 : decode cD_write 48 = .ok (.invokestatic 148, 3) := by decide +kernel
theorem dD_write_51 : decode cD_write 51 = .ok (.lastore, 1) := by decide +kernel
theorem dD_write_52 : decode cD_write 52 = .ok (.lload 4, 2) := by decide +kernel
theorem dD_write_54 : decode cD_write 54 = .ok (.bipush 8, 2) := by decide +kernel
theorem dD_write_56 : decode cD_write 56 = .ok (.lshr, 1) := by decide +kernel
theorem dD_write_57 : decode cD_write 57 = .ok (.lstore 4, 2) := by decide +kernel
theorem dD_write_59 : decode cD_write 59 = .ok (.iinc 6 (-1), 3) := by decide +kernel
theorem dD_write_62 : decode cD_write 62 = .ok (.goto (-32), 3) := by decide +kernel
theorem dD_write_65 : decode cD_write 65 = .ok (.return_, 1) := by decide +kernel
