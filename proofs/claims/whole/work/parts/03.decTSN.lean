theorem dN_init_0 : decode cN_init 0 = .ok (.aload_n 0, 1) := by decide +kernel
theorem dN_init_1 : decode cN_init 1 = .ok (.invokespecial 3, 3) := by decide +kernel
theorem dN_init_4 : decode cN_init 4 = .ok (.aload_n 0, 1) := by decide +kernel
theorem dN_init_5 : decode cN_init 5 = .ok (.sipush 4000, 3) := by decide +kernel
theorem dN_init_8 : decode cN_init 8 = .ok (.newarray .long, 2) := by decide +kernel
theorem dN_init_10 : decode cN_init 10 = .ok (.putfield 9, 3) := by decide +kernel
theorem dN_init_13 : decode cN_init 13 = .ok (.aload_n 0, 1) := by decide +kernel
theorem dN_init_14 : decode cN_init 14 = .ok (.iconst 0, 1) := by decide +kernel
theorem dN_init_15 : decode cN_init 15 = .ok (.putfield 15, 3) := by decide +kernel
theorem dN_init_18 : decode cN_init 18 = .ok (.return_, 1) := by decide +kernel
theorem dN_remember_0 : decode cN_remember 0 = .ok (.aload_n 0, 1) := by decide +kernel
theorem dN_remember_1 : decode cN_remember 1 = .ok (.iload_n 2, 1) := by decide +kernel
theorem dN_remember_2 : decode cN_remember 2 = .ok (.putfield 15, 3) := by decide +kernel
theorem dN_remember_5 : decode cN_remember 5 = .ok (.aload_n 1, 1) := by decide +kernel
theorem dN_remember_6 : decode cN_remember 6 = .ok (.iconst 0, 1) := by decide +kernel
theorem dN_remember_7 : decode cN_remember 7 = .ok (.aload_n 0, 1) := by decide +kernel
theorem dN_remember_8 : decode cN_remember 8 = .ok (.getfield 9, 3) := by decide +kernel
theorem dN_remember_11 : decode cN_remember 11 = .ok (.iconst 0, 1) := by decide +kernel
theorem dN_remember_12 : decode cN_remember 12 = .ok (.aload_n 0, 1) := by decide +kernel
theorem dN_remember_13 : decode cN_remember 13 = .ok (.getfield 15, 3) := by decide +kernel
theorem dN_remember_16 : decode cN_remember 16 = .ok (.invokestatic 19, 3) := by decide +kernel
theorem dN_remember_19 : decode cN_remember 19 = .ok (.return_, 1) := by decide +kernel
theorem dN_differences_0 : decode cN_differences 0 = .ok (.iconst 0, 1) := by decide +kernel
theorem dN_differences_1 : decode cN_differences 1 = .ok (.istore_n 2, 1) := by decide +kernel
theorem dN_differences_2 : decode cN_differences 2 = .ok (.iconst 0, 1) := by decide +kernel
theorem dN_differences_3 : decode cN_differences 3 = .ok (.istore_n 3, 1) := by decide +kernel
theorem dN_differences_4 : decode cN_differences 4 = .ok (.iload_n 3, 1) := by decide +kernel
theorem dN_differences_5 : decode cN_differences 5 = .ok (.aload_n 0, 1) := by decide +kernel
theorem dN_differences_6 : decode cN_differences 6 = .ok (.getfield 15, 3) := by decide +kernel
theorem dN_differences_9 : decode cN_differences 9 = .ok (.if_icmp .ge 25, 3) := by decide +kernel
theorem dN_differences_12 : decode cN_differences 12 = .ok (.aload_n 1, 1) := by decide +kernel
theorem dN_differences_13 : decode cN_differences 13 = .ok (.iload_n 3, 1) := by decide +kernel
theorem dN_differences_14 : decode cN_differences 14 = .ok (.laload, 1) := by decide +kernel
theorem dN_differences_15 : decode cN_differences 15 = .ok (.aload_n 0, 1) := by decide +kernel
theorem dN_differences_16 : decode cN_differences 16 = .ok (.getfield 9, 3) := by decide +kernel
theorem dN_differences_19 : decode cN_differences 19 = .ok (.iload_n 3, 1) := by decide +kernel
theorem dN_differences_20 : decode cN_differences 20 = .ok (.laload, 1) := by decide +kernel
theorem dN_differences_21 : decode cN_differences 21 = .ok (.lcmp, 1) := by decide +kernel
theorem dN_differences_22 : decode cN_differences 22 = .ok (.ifCond .eq 6, 3) := by decide +kernel
theorem dN_differences_25 : decode cN_differences 25 = .ok (.iinc 2 1, 3) := by decide +kernel
theorem dN_differences_28 : decode cN_differences 28 = .ok (.iinc 3 1, 3) := by decide +kernel
theorem dN_differences_31 : decode cN_differences 31 = .ok (.goto (-27), 3) := by decide +kernel
theorem dN_differences_34 : decode cN_differences 34 = .ok (.iload_n 2, 1) := by decide +kernel
theorem dN_differences_35 : decode cN_differences 35 = .ok (.ireturn, 1) := by decide +kernel
theorem dN_restore_0 : decode cN_restore 0 = .ok (.aload_n 0, 1) := by decide +kernel
theorem dN_restore_1 : decode cN_restore 1 = .ok (.getfield 9, 3) := by decide +kernel
theorem dN_restore_4 : decode cN_restore 4 = .ok (.iconst 0, 1) := by decide +kernel
theorem dN_restore_5 : decode cN_restore 5 = .ok (.aload_n 1, 1) := by decide +kernel
theorem dN_restore_6 : decode cN_restore 6 = .ok (.iconst 0, 1) := by decide +kernel
theorem dN_restore_7 : decode cN_restore 7 = .ok (.aload_n 0, 1) := by decide +kernel
theorem dN_restore_8 : decode cN_restore 8 = .ok (.getfield 15, 3) := by decide +kernel
theorem dN_restore_11 : decode cN_restore 11 = .ok (.invokestatic 19, 3) := by decide +kernel
theorem dN_restore_14 : decode cN_restore 14 = .ok (.return_, 1) := by decide +kernel
theorem dS_init_0 : decode cS_init 0 = .ok (.aload_n 0, 1) := by decide +kernel
theorem dS_init_1 : decode cS_init 1 = .ok (.invokespecial 1, 3) := by decide +kernel
theorem dS_init_4 : decode cS_init 4 = .ok (.aload_n 0, 1) := by decide +kernel
theorem dS_init_5 : decode cS_init 5 = .ok (.iload_n 1, 1) := by decide +kernel
theorem dS_init_6 : decode cS_init 6 = .ok (.putfield 7, 3) := by decide +kernel
theorem dS_init_9 : decode cS_init 9 = .ok (.aload_n 0, 1) := by decide +kernel
theorem dS_init_10 : decode cS_init 10 = .ok (.iload_n 2, 1) := by decide +kernel
theorem dS_init_11 : decode cS_init 11 = .ok (.putfield 13, 3) := by decide +kernel
theorem dS_init_14 : decode cS_init 14 = .ok (.aload_n 0, 1) := by decide +kernel
theorem dS_init_15 : decode cS_init 15 = .ok (.iload_n 3, 1) := by decide +kernel
theorem dS_init_16 : decode cS_init 16 = .ok (.putfield 16, 3) := by decide +kernel
theorem dS_init_19 : decode cS_init 19 = .ok (.aload_n 0, 1) := by decide +kernel
theorem dS_init_20 : decode cS_init 20 = .ok (.iload 4, 2) := by decide +kernel
theorem dS_init_22 : decode cS_init 22 = .ok (.putfield 19, 3) := by decide +kernel
theorem dS_init_25 : decode cS_init 25 = .ok (.return_, 1) := by decide +kernel
theorem dS_indexOfByte_0 : decode cS_indexOfByte 0 = .ok (.aload_n 0, 1) := by decide +kernel
theorem dS_indexOfByte_1 : decode cS_indexOfByte 1 = .ok (.getfield 19, 3) := by decide +kernel
theorem dS_indexOfByte_4 : decode cS_indexOfByte 4 = .ok (.ifCond .eq 19, 3) := by decide +kernel
theorem dS_indexOfByte_7 : decode cS_indexOfByte 7 = .ok (.aload_n 0, 1) := by decide +kernel
theorem dS_indexOfByte_8 : decode cS_indexOfByte 8 = .ok (.getfield 13, 3) := by decide +kernel
theorem dS_indexOfByte_11 : decode cS_indexOfByte 11 = .ok (.aload_n 0, 1) := by decide +kernel
theorem dS_indexOfByte_12 : decode cS_indexOfByte 12 = .ok (.getfield 16, 3) := by decide +kernel
theorem dS_indexOfByte_15 : decode cS_indexOfByte 15 = .ok (.iadd, 1) := by decide +kernel
theorem dS_indexOfByte_16 : decode cS_indexOfByte 16 = .ok (.iconst 1, 1) := by decide +kernel
theorem dS_indexOfByte_17 : decode cS_indexOfByte 17 = .ok (.isub, 1) := by decide +kernel
theorem dS_indexOfByte_18 : decode cS_indexOfByte 18 = .ok (.iload_n 1, 1) := by decide +kernel
theorem dS_indexOfByte_19 : decode cS_indexOfByte 19 = .ok (.isub, 1) := by decide +kernel
theorem dS_indexOfByte_20 : decode cS_indexOfByte 20 = .ok (.goto 9, 3) := by decide +kernel
theorem dS_indexOfByte_23 : decode cS_indexOfByte 23 = .ok (.aload_n 0, 1) := by decide +kernel
theorem dS_indexOfByte_24 : decode cS_indexOfByte 24 = .ok (.getfield 13, 3) := by decide +kernel
theorem dS_indexOfByte_27 : decode cS_indexOfByte 27 = .ok (.iload_n 1, 1) := by decide +kernel
theorem dS_indexOfByte_28 : decode cS_indexOfByte 28 = .ok (.iadd, 1) := by decide +kernel
theorem dS_indexOfByte_29 : decode cS_indexOfByte 29 = .ok (.ireturn, 1) := by decide +kernel
theorem dS_overlaps_0 : decode cS_overlaps 0 = .ok (.aload_n 0, 1) := by decide +kernel
theorem dS_overlaps_1 : decode cS_overlaps 1 = .ok (.getfield 13, 3) := by decide +kernel
theorem dS_overlaps_4 : decode cS_overlaps 4 = .ok (.aload_n 1, 1) := by decide +kernel
theorem dS_overlaps_5 : decode cS_overlaps 5 = .ok (.getfield 13, 3) := by decide +kernel
theorem dS_overlaps_8 : decode cS_overlaps 8 = .ok (.aload_n 1, 1) := by decide +kernel
theorem dS_overlaps_9 : decode cS_overlaps 9 = .ok (.getfield 16, 3) := by decide +kernel
theorem dS_overlaps_12 : decode cS_overlaps 12 = .ok (.iadd, 1) := by decide +kernel
theorem dS_overlaps_13 : decode cS_overlaps 13 = .ok (.if_icmp .ge 23, 3) := by decide +kernel
theorem dS_overlaps_16 : decode cS_overlaps 16 = .ok (.aload_n 1, 1) := by decide +kernel
theorem dS_overlaps_17 : decode cS_overlaps 17 = .ok (.getfield 13, 3) := by decide +kernel
theorem dS_overlaps_20 : decode cS_overlaps 20 = .ok (.aload_n 0, 1) := by decide +kernel
theorem dS_overlaps_21 : decode cS_overlaps 21 = .ok (.getfield 13, 3) := by decide +kernel
theorem dS_overlaps_24 : decode cS_overlaps 24 = .ok (.aload_n 0, 1) := by decide +kernel
theorem dS_overlaps_25 : decode cS_overlaps 25 = .ok (.getfield 16, 3) := by decide +kernel
theorem dS_overlaps_28 : decode cS_overlaps 28 = .ok (.iadd, 1) := by decide +kernel
theorem dS_overlaps_29 : decode cS_overlaps 29 = .ok (.if_icmp .ge 7, 3) := by decide +kernel
theorem dS_overlaps_32 : decode cS_overlaps 32 = .ok (.iconst 1, 1) := by decide +kernel
theorem dS_overlaps_33 : decode cS_overlaps 33 = .ok (.goto 4, 3) := by decide +kernel
theorem dS_overlaps_36 : decode cS_overlaps 36 = .ok (.iconst 0, 1) := by decide +kernel
theorem dS_overlaps_37 : decode cS_overlaps 37 = .ok (.ireturn, 1) := by decide +kernel
theorem dT_init_0 : decode cT_init 0 = .ok (.aload_n 0, 1) := by decide +kernel
theorem dT_init_1 : decode cT_init 1 = .ok (.invokespecial 1, 3) := by decide +kernel
theorem dT_init_4 : decode cT_init 4 = .ok (.aload_n 0, 1) := by decide +kernel
theorem dT_init_5 : decode cT_init 5 = .ok (.iload_n 1, 1) := by decide +kernel
theorem dT_init_6 : decode cT_init 6 = .ok (.putfield 7, 3) := by decide +kernel
theorem dT_init_9 : decode cT_init 9 = .ok (.aload_n 0, 1) := by decide +kernel
theorem dT_init_10 : decode cT_init 10 = .ok (.iload_n 2, 1) := by decide +kernel
theorem dT_init_11 : decode cT_init 11 = .ok (.putfield 13, 3) := by decide +kernel
theorem dT_init_14 : decode cT_init 14 = .ok (.aload_n 0, 1) := by decide +kernel
theorem dT_init_15 : decode cT_init 15 = .ok (.iload_n 3, 1) := by decide +kernel
theorem dT_init_16 : decode cT_init 16 = .ok (.putfield 16, 3) := by decide +kernel
theorem dT_init_19 : decode cT_init 19 = .ok (.return_, 1) := by decide +kernel
theorem dT_holds_0 : decode cT_holds 0 = .ok (.iload_n 1, 1) := by decide +kernel
theorem dT_holds_1 : decode cT_holds 1 = .ok (.ifCond .lt 29, 3) := by decide +kernel
theorem dT_holds_4 : decode cT_holds 4 = .ok (.iload_n 2, 1) := by decide +kernel
theorem dT_holds_5 : decode cT_holds 5 = .ok (.ifCond .lt 25, 3) := by decide +kernel
theorem dT_holds_8 : decode cT_holds 8 = .ok (.iload_n 1, 1) := by decide +kernel
theorem dT_holds_9 : decode cT_holds 9 = .ok (.aload_n 0, 1) := by decide +kernel
theorem dT_holds_10 : decode cT_holds 10 = .ok (.getfield 16, 3) := by decide +kernel
theorem dT_holds_13 : decode cT_holds 13 = .ok (.if_icmp .gt 17, 3) := by decide +kernel
theorem dT_holds_16 : decode cT_holds 16 = .ok (.iload_n 2, 1) := by decide +kernel
theorem dT_holds_17 : decode cT_holds 17 = .ok (.aload_n 0, 1) := by decide +kernel
theorem dT_holds_18 : decode cT_holds 18 = .ok (.getfield 16, 3) := by decide +kernel
theorem dT_holds_21 : decode cT_holds 21 = .ok (.iload_n 1, 1) := by decide +kernel
theorem dT_holds_22 : decode cT_holds 22 = .ok (.isub, 1) := by decide +kernel
theorem dT_holds_23 : decode cT_holds 23 = .ok (.if_icmp .gt 7, 3) := by decide +kernel
theorem dT_holds_26 : decode cT_holds 26 = .ok (.iconst 1, 1) := by decide +kernel
theorem dT_holds_27 : decode cT_holds 27 = .ok (.goto 4, 3) := by decide +kernel
theorem dT_holds_30 : decode cT_holds 30 = .ok (.iconst 0, 1) := by decide +kernel
theorem dT_holds_31 : decode cT_holds 31 = .ok (.ireturn, 1) := by decide +kernel
