theorem dXA_rangeCheck_0 : decode cXA_rangeCheck 0 = .ok (.iload_n 1, 1) := by decide +kernel
theorem dXA_rangeCheck_1 : decode cXA_rangeCheck 1 = .ok (.iload_n 2, 1) := by decide +kernel
theorem dXA_rangeCheck_2 : decode cXA_rangeCheck 2 = .ok (.if_icmp .le 44, 3) := by decide +kernel
theorem dXA_rangeCheck_5 : decode cXA_rangeCheck 5 = .ok (.new 43, 3) := by decide +kernel
theorem dXA_rangeCheck_8 : decode cXA_rangeCheck 8 = .ok (.dup, 1) := by decide +kernel
theorem dXA_rangeCheck_9 : decode cXA_rangeCheck 9 = .ok (.new 45, 3) := by decide +kernel
theorem dXA_rangeCheck_12 : decode cXA_rangeCheck 12 = .ok (.dup, 1) := by decide +kernel
theorem dXA_rangeCheck_13 : decode cXA_rangeCheck 13 = .ok (.invokespecial 47, 3) := by decide +kernel
theorem dXA_rangeCheck_16 : decode cXA_rangeCheck 16 = .ok (.ldc 48, 2) := by decide +kernel
theorem dXA_rangeCheck_18 : decode cXA_rangeCheck 18 = .ok (.invokevirtual 50, 3) := by decide +kernel
theorem dXA_rangeCheck_21 : decode cXA_rangeCheck 21 = .ok (.iload_n 1, 1) := by decide +kernel
theorem dXA_rangeCheck_22 : decode cXA_rangeCheck 22 = .ok (.invokevirtual 54, 3) := by decide +kernel
theorem dXA_rangeCheck_25 : decode cXA_rangeCheck 25 = .ok (.ldc 57, 2) := by decide +kernel
theorem dXA_rangeCheck_27 : decode cXA_rangeCheck 27 = .ok (.invokevirtual 50, 3) := by decide +kernel
theorem dXA_rangeCheck_30 : decode cXA_rangeCheck 30 = .ok (.iload_n 2, 1) := by decide +kernel
theorem dXA_rangeCheck_31 : decode cXA_rangeCheck 31 = .ok (.invokevirtual 54, 3) := by decide +kernel
theorem dXA_rangeCheck_34 : decode cXA_rangeCheck 34 = .ok (.ldc 59, 2) := by decide +kernel
theorem dXA_rangeCheck_36 : decode cXA_rangeCheck 36 = .ok (.invokevirtual 50, 3) := by decide +kernel
theorem dXA_rangeCheck_39 : decode cXA_rangeCheck 39 = .ok (.invokevirtual 61, 3) := by decide +kernel
theorem dXA_rangeCheck_42 : decode cXA_rangeCheck 42 = .ok (.invokespecial 65, 3) := by decide +kernel
theorem dXA_rangeCheck_45 : decode cXA_rangeCheck 45 = .ok (.athrow, 1) := by decide +kernel
theorem dXA_rangeCheck_46 : decode cXA_rangeCheck 46 = .ok (.iload_n 1, 1) := by decide +kernel
theorem dXA_rangeCheck_47 : decode cXA_rangeCheck 47 = .ok (.ifCond .ge 12, 3) := by decide +kernel
theorem dXA_rangeCheck_50 : decode cXA_rangeCheck 50 = .ok (.new 68, 3) := by decide +kernel
theorem dXA_rangeCheck_53 : decode cXA_rangeCheck 53 = .ok (.dup, 1) := by decide +kernel
theorem dXA_rangeCheck_54 : decode cXA_rangeCheck 54 = .ok (.iload_n 1, 1) := by decide +kernel
theorem dXA_rangeCheck_55 : decode cXA_rangeCheck 55 = .ok (.invokespecial 70, 3) := by decide +kernel
theorem dXA_rangeCheck_58 : decode cXA_rangeCheck 58 = .ok (.athrow, 1) := by decide +kernel
theorem dXA_rangeCheck_59 : decode cXA_rangeCheck 59 = .ok (.iload_n 2, 1) := by decide +kernel
theorem dXA_rangeCheck_60 : decode cXA_rangeCheck 60 = .ok (.iload_n 0, 1) := by decide +kernel
theorem dXA_rangeCheck_61 : decode cXA_rangeCheck 61 = .ok (.if_icmp .le 12, 3) := by decide +kernel
theorem dXA_rangeCheck_64 : decode cXA_rangeCheck 64 = .ok (.new 68, 3) := by decide +kernel
theorem dXA_rangeCheck_67 : decode cXA_rangeCheck 67 = .ok (.dup, 1) := by decide +kernel
theorem dXA_rangeCheck_68 : decode cXA_rangeCheck 68 = .ok (.iload_n 2, 1) := by decide +kernel
theorem dXA_rangeCheck_69 : decode cXA_rangeCheck 69 = .ok (.invokespecial 70, 3) := by decide +kernel
theorem dXA_rangeCheck_72 : decode cXA_rangeCheck 72 = .ok (.athrow, 1) := by decide +kernel
theorem dXA_rangeCheck_73 : decode cXA_rangeCheck 73 = .ok (.return_, 1) := by decide +kernel
theorem dXA_fill_0 : decode cXA_fill 0 = .ok (.iconst 0, 1) := by decide +kernel
theorem dXA_fill_1 : decode cXA_fill 1 = .ok (.istore_n 2, 1) := by decide +kernel
theorem dXA_fill_2 : decode cXA_fill 2 = .ok (.aload_n 0, 1) := by decide +kernel
theorem dXA_fill_3 : decode cXA_fill 3 = .ok (.arraylength, 1) := by decide +kernel
theorem dXA_fill_4 : decode cXA_fill 4 = .ok (.istore_n 3, 1) := by decide +kernel
theorem dXA_fill_5 : decode cXA_fill 5 = .ok (.iload_n 2, 1) := by decide +kernel
theorem dXA_fill_6 : decode cXA_fill 6 = .ok (.iload_n 3, 1) := by decide +kernel
theorem dXA_fill_7 : decode cXA_fill 7 = .ok (.if_icmp .ge 13, 3) := by decide +kernel
theorem dXA_fill_10 : decode cXA_fill 10 = .ok (.aload_n 0, 1) := by decide +kernel
theorem dXA_fill_11 : decode cXA_fill 11 = .ok (.iload_n 2, 1) := by decide +kernel
theorem dXA_fill_12 : decode cXA_fill 12 = .ok (.iload_n 1, 1) := by decide +kernel
theorem dXA_fill_13 : decode cXA_fill 13 = .ok (.iastore, 1) := by decide +kernel
theorem dXA_fill_14 : decode cXA_fill 14 = .ok (.iinc 2 1, 3) := by decide +kernel
theorem dXA_fill_17 : decode cXA_fill 17 = .ok (.goto (-12), 3) := by decide +kernel
theorem dXA_fill_20 : decode cXA_fill 20 = .ok (.return_, 1) := by decide +kernel
theorem dXB_fill_0 : decode cXB_fill 0 = .ok (.aload_n 0, 1) := by decide +kernel
theorem dXB_fill_1 : decode cXB_fill 1 = .ok (.arraylength, 1) := by decide +kernel
theorem dXB_fill_2 : decode cXB_fill 2 = .ok (.iload_n 1, 1) := by decide +kernel
theorem dXB_fill_3 : decode cXB_fill 3 = .ok (.iload_n 2, 1) := by decide +kernel
theorem dXB_fill_4 : decode cXB_fill 4 = .ok (.invokestatic 13, 3) := by decide +kernel
theorem dXB_fill_7 : decode cXB_fill 7 = .ok (.iload_n 1, 1) := by decide +kernel
theorem dXB_fill_8 : decode cXB_fill 8 = .ok (.istore 4, 2) := by decide +kernel
theorem dXB_fill_10 : decode cXB_fill 10 = .ok (.iload 4, 2) := by decide +kernel
theorem dXB_fill_12 : decode cXB_fill 12 = .ok (.iload_n 2, 1) := by decide +kernel
theorem dXB_fill_13 : decode cXB_fill 13 = .ok (.if_icmp .ge 14, 3) := by decide +kernel
theorem dXB_fill_16 : decode cXB_fill 16 = .ok (.aload_n 0, 1) := by decide +kernel
theorem dXB_fill_17 : decode cXB_fill 17 = .ok (.iload 4, 2) := by decide +kernel
theorem dXB_fill_19 : decode cXB_fill 19 = .ok (.iload_n 3, 1) := by decide +kernel
theorem dXB_fill_20 : decode cXB_fill 20 = .ok (.iastore, 1) := by decide +kernel
theorem dXB_fill_21 : decode cXB_fill 21 = .ok (.iinc 4 1, 3) := by decide +kernel
theorem dXB_fill_24 : decode cXB_fill 24 = .ok (.goto (-14), 3) := by decide +kernel
theorem dXB_fill_27 : decode cXB_fill 27 = .ok (.return_, 1) := by decide +kernel
theorem dX0_requireRoot_0 : decode cX0_requireRoot 0 = .ok (.iload_n 0, 1) := by decide +kernel
theorem dX0_requireRoot_1 : decode cX0_requireRoot 1 = .ok (.ifCond .lt 9, 3) := by decide +kernel
theorem dX0_requireRoot_4 : decode cX0_requireRoot 4 = .ok (.iload_n 0, 1) := by decide +kernel
theorem dX0_requireRoot_5 : decode cX0_requireRoot 5 = .ok (.bipush 8, 2) := by decide +kernel
theorem dX0_requireRoot_7 : decode cX0_requireRoot 7 = .ok (.if_icmp .lt 13, 3) := by decide +kernel
theorem dX0_requireRoot_10 : decode cX0_requireRoot 10 = .ok (.new 79, 3) := by decide +kernel
theorem dX0_requireRoot_13 : decode cX0_requireRoot 13 = .ok (.dup, 1) := by decide +kernel
theorem dX0_requireRoot_14 : decode cX0_requireRoot 14 = .ok (.ldc 95, 2) := by decide +kernel
theorem dX0_requireRoot_16 : decode cX0_requireRoot 16 = .ok (.invokespecial 83, 3) := by decide +kernel
theorem dX0_requireRoot_19 : decode cX0_requireRoot 19 = .ok (.athrow, 1) := by decide +kernel
theorem dX0_requireRoot_20 : decode cX0_requireRoot 20 = .ok (.return_, 1) := by decide +kernel
theorem dX0_requireFieldCount_0 : decode cX0_requireFieldCount 0 = .ok (.iload_n 0, 1) := by decide +kernel
theorem dX0_requireFieldCount_1 : decode cX0_requireFieldCount 1 = .ok (.ifCond .lt 9, 3) := by decide +kernel
theorem dX0_requireFieldCount_4 : decode cX0_requireFieldCount 4 = .ok (.iload_n 0, 1) := by decide +kernel
theorem dX0_requireFieldCount_5 : decode cX0_requireFieldCount 5 = .ok (.bipush 6, 2) := by decide +kernel
theorem dX0_requireFieldCount_7 : decode cX0_requireFieldCount 7 = .ok (.if_icmp .le 13, 3) := by decide +kernel
theorem dX0_requireFieldCount_10 : decode cX0_requireFieldCount 10 = .ok (.new 97, 3) := by decide +kernel
theorem dX0_requireFieldCount_13 : decode cX0_requireFieldCount 13 = .ok (.dup, 1) := by decide +kernel
theorem dX0_requireFieldCount_14 : decode cX0_requireFieldCount 14 = .ok (.ldc 99, 2) := by decide +kernel
theorem dX0_requireFieldCount_16 : decode cX0_requireFieldCount 16 = .ok (.invokespecial 101, 3) := by decide +kernel
theorem dX0_requireFieldCount_19 : decode cX0_requireFieldCount 19 = .ok (.athrow, 1) := by decide +kernel
theorem dX0_requireFieldCount_20 : decode cX0_requireFieldCount 20 = .ok (.return_, 1) := by decide +kernel
theorem dX0_requireWay_0 : decode cX0_requireWay 0 = .ok (.iload_n 0, 1) := by decide +kernel
theorem dX0_requireWay_1 : decode cX0_requireWay 1 = .ok (.ifCond .lt 8, 3) := by decide +kernel
theorem dX0_requireWay_4 : decode cX0_requireWay 4 = .ok (.iload_n 0, 1) := by decide +kernel
theorem dX0_requireWay_5 : decode cX0_requireWay 5 = .ok (.iconst 2, 1) := by decide +kernel
theorem dX0_requireWay_6 : decode cX0_requireWay 6 = .ok (.if_icmp .le 13, 3) := by decide +kernel
theorem dX0_requireWay_9 : decode cX0_requireWay 9 = .ok (.new 97, 3) := by decide +kernel
theorem dX0_requireWay_12 : decode cX0_requireWay 12 = .ok (.dup, 1) := by decide +kernel
theorem dX0_requireWay_13 : decode cX0_requireWay 13 = .ok (.ldc 102, 2) := by decide +kernel
theorem dX0_requireWay_15 : decode cX0_requireWay 15 = .ok (.invokespecial 101, 3) := by decide +kernel
theorem dX0_requireWay_18 : decode cX0_requireWay 18 = .ok (.athrow, 1) := by decide +kernel
theorem dX0_requireWay_19 : decode cX0_requireWay 19 = .ok (.return_, 1) := by decide +kernel
theorem dX0_fieldAddress_0 : decode cX0_fieldAddress 0 = .ok (.iload_n 0, 1) := by decide +kernel
theorem dX0_fieldAddress_1 : decode cX0_fieldAddress 1 = .ok (.iconst 2, 1) := by decide +kernel
theorem dX0_fieldAddress_2 : decode cX0_fieldAddress 2 = .ok (.iadd, 1) := by decide +kernel
theorem dX0_fieldAddress_3 : decode cX0_fieldAddress 3 = .ok (.iload_n 1, 1) := by decide +kernel
theorem dX0_fieldAddress_4 : decode cX0_fieldAddress 4 = .ok (.iadd, 1) := by decide +kernel
theorem dX0_fieldAddress_5 : decode cX0_fieldAddress 5 = .ok (.ireturn, 1) := by decide +kernel
theorem dX0_hasRoom_0 : decode cX0_hasRoom 0 = .ok (.aload_n 0, 1) := by decide +kernel
theorem dX0_hasRoom_1 : decode cX0_hasRoom 1 = .ok (.getfield 58, 3) := by decide +kernel
theorem dX0_hasRoom_4 : decode cX0_hasRoom 4 = .ok (.iconst 2, 1) := by decide +kernel
theorem dX0_hasRoom_5 : decode cX0_hasRoom 5 = .ok (.iadd, 1) := by decide +kernel
theorem dX0_hasRoom_6 : decode cX0_hasRoom 6 = .ok (.iload_n 1, 1) := by decide +kernel
theorem dX0_hasRoom_7 : decode cX0_hasRoom 7 = .ok (.iadd, 1) := by decide +kernel
theorem dX0_hasRoom_8 : decode cX0_hasRoom 8 = .ok (.sipush 256, 3) := by decide +kernel
theorem dX0_hasRoom_11 : decode cX0_hasRoom 11 = .ok (.if_icmp .gt 7, 3) := by decide +kernel
theorem dX0_hasRoom_14 : decode cX0_hasRoom 14 = .ok (.iconst 1, 1) := by decide +kernel
theorem dX0_hasRoom_15 : decode cX0_hasRoom 15 = .ok (.goto 4, 3) := by decide +kernel
theorem dX0_hasRoom_18 : decode cX0_hasRoom 18 = .ok (.iconst 0, 1) := by decide +kernel
theorem dX0_hasRoom_19 : decode cX0_hasRoom 19 = .ok (.ireturn, 1) := by decide +kernel
theorem dX0_fieldCount_0 : decode cX0_fieldCount 0 = .ok (.aload_n 0, 1) := by decide +kernel
theorem dX0_fieldCount_1 : decode cX0_fieldCount 1 = .ok (.getfield 9, 3) := by decide +kernel
theorem dX0_fieldCount_4 : decode cX0_fieldCount 4 = .ok (.iload_n 1, 1) := by decide +kernel
theorem dX0_fieldCount_5 : decode cX0_fieldCount 5 = .ok (.iaload, 1) := by decide +kernel
theorem dX0_fieldCount_6 : decode cX0_fieldCount 6 = .ok (.bipush 15, 2) := by decide +kernel
theorem dX0_fieldCount_8 : decode cX0_fieldCount 8 = .ok (.iand, 1) := by decide +kernel
theorem dX0_fieldCount_9 : decode cX0_fieldCount 9 = .ok (.ireturn, 1) := by decide +kernel
theorem dX0_sizeOf_0 : decode cX0_sizeOf 0 = .ok (.iconst 2, 1) := by decide +kernel
theorem dX0_sizeOf_1 : decode cX0_sizeOf 1 = .ok (.aload_n 0, 1) := by decide +kernel
theorem dX0_sizeOf_2 : decode cX0_sizeOf 2 = .ok (.iload_n 1, 1) := by decide +kernel
theorem dX0_sizeOf_3 : decode cX0_sizeOf 3 = .ok (.invokevirtual 123, 3) := by decide +kernel
theorem dX0_sizeOf_6 : decode cX0_sizeOf 6 = .ok (.iadd, 1) := by decide +kernel
theorem dX0_sizeOf_7 : decode cX0_sizeOf 7 = .ok (.ireturn, 1) := by decide +kernel
theorem dX0_fieldKind_0 : decode cX0_fieldKind 0 = .ok (.aload_n 0, 1) := by decide +kernel
theorem dX0_fieldKind_1 : decode cX0_fieldKind 1 = .ok (.getfield 9, 3) := by decide +kernel
theorem dX0_fieldKind_4 : decode cX0_fieldKind 4 = .ok (.iload_n 1, 1) := by decide +kernel
theorem dX0_fieldKind_5 : decode cX0_fieldKind 5 = .ok (.iaload, 1) := by decide +kernel
theorem dX0_fieldKind_6 : decode cX0_fieldKind 6 = .ok (.istore_n 3, 1) := by decide +kernel
theorem dX0_fieldKind_7 : decode cX0_fieldKind 7 = .ok (.iload_n 3, 1) := by decide +kernel
theorem dX0_fieldKind_8 : decode cX0_fieldKind 8 = .ok (.bipush 16, 2) := by decide +kernel
theorem dX0_fieldKind_10 : decode cX0_fieldKind 10 = .ok (.iload_n 2, 1) := by decide +kernel
theorem dX0_fieldKind_11 : decode cX0_fieldKind 11 = .ok (.ishl, 1) := by decide +kernel
theorem dX0_fieldKind_12 : decode cX0_fieldKind 12 = .ok (.iand, 1) := by decide +kernel
theorem dX0_fieldKind_13 : decode cX0_fieldKind 13 = .ok (.ifCond .eq 5, 3) := by decide +kernel
theorem dX0_fieldKind_16 : decode cX0_fieldKind 16 = .ok (.iconst 1, 1) := by decide +kernel
theorem dX0_fieldKind_17 : decode cX0_fieldKind 17 = .ok (.ireturn, 1) := by decide +kernel
theorem dX0_fieldKind_18 : decode cX0_fieldKind 18 = .ok (.iload_n 3, 1) := by decide +kernel
theorem dX0_fieldKind_19 : decode cX0_fieldKind 19 = .ok (.sipush 1024, 3) := by decide +kernel
theorem dX0_fieldKind_22 : decode cX0_fieldKind 22 = .ok (.iload_n 2, 1) := by decide +kernel
theorem dX0_fieldKind_23 : decode cX0_fieldKind 23 = .ok (.ishl, 1) := by decide +kernel
theorem dX0_fieldKind_24 : decode cX0_fieldKind 24 = .ok (.iand, 1) := by decide +kernel
theorem dX0_fieldKind_25 : decode cX0_fieldKind 25 = .ok (.ifCond .eq 7, 3) := by decide +kernel
theorem dX0_fieldKind_28 : decode cX0_fieldKind 28 = .ok (.iconst 2, 1) := by decide +kernel
theorem dX0_fieldKind_29 : decode cX0_fieldKind 29 = .ok (.goto 4, 3) := by decide +kernel
theorem dX0_fieldKind_32 : decode cX0_fieldKind 32 = .ok (.iconst 0, 1) := by decide +kernel
theorem dX0_fieldKind_33 : decode cX0_fieldKind 33 = .ok (.ireturn, 1) := by decide +kernel
theorem dX0_setField_0 : decode cX0_setField 0 = .ok (.bipush 16, 2) := by decide +kernel
theorem dX0_setField_2 : decode cX0_setField 2 = .ok (.iload_n 2, 1) := by decide +kernel
theorem dX0_setField_3 : decode cX0_setField 3 = .ok (.ishl, 1) := by decide +kernel
theorem dX0_setField_4 : decode cX0_setField 4 = .ok (.istore 5, 2) := by decide +kernel
theorem dX0_setField_6 : decode cX0_setField 6 = .ok (.sipush 1024, 3) := by decide +kernel
theorem dX0_setField_9 : decode cX0_setField 9 = .ok (.iload_n 2, 1) := by decide +kernel
theorem dX0_setField_10 : decode cX0_setField 10 = .ok (.ishl, 1) := by decide +kernel
theorem dX0_setField_11 : decode cX0_setField 11 = .ok (.istore 6, 2) := by decide +kernel
theorem dX0_setField_13 : decode cX0_setField 13 = .ok (.aload_n 0, 1) := by decide +kernel
theorem dX0_setField_14 : decode cX0_setField 14 = .ok (.getfield 9, 3) := by decide +kernel
theorem dX0_setField_17 : decode cX0_setField 17 = .ok (.iload_n 1, 1) := by decide +kernel
theorem dX0_setField_18 : decode cX0_setField 18 = .ok (.iaload, 1) := by decide +kernel
theorem dX0_setField_19 : decode cX0_setField 19 = .ok (.iload 5, 2) := by decide +kernel
theorem dX0_setField_21 : decode cX0_setField 21 = .ok (.iload 6, 2) := by decide +kernel
theorem dX0_setField_23 : decode cX0_setField 23 = .ok (.ior, 1) := by decide +kernel
theorem dX0_setField_24 : decode cX0_setField 24 = .ok (.iconst (-1), 1) := by decide +kernel
theorem dX0_setField_25 : decode cX0_setField 25 = .ok (.ixor, 1) := by decide +kernel
theorem dX0_setField_26 : decode cX0_setField 26 = .ok (.iand, 1) := by decide +kernel
theorem dX0_setField_27 : decode cX0_setField 27 = .ok (.istore 7, 2) := by decide +kernel
theorem dX0_setField_29 : decode cX0_setField 29 = .ok (.iload_n 3, 1) := by decide +kernel
theorem dX0_setField_30 : decode cX0_setField 30 = .ok (.iconst 1, 1) := by decide +kernel
theorem dX0_setField_31 : decode cX0_setField 31 = .ok (.if_icmp .ne 13, 3) := by decide +kernel
theorem dX0_setField_34 : decode cX0_setField 34 = .ok (.iload 7, 2) := by decide +kernel
theorem dX0_setField_36 : decode cX0_setField 36 = .ok (.iload 5, 2) := by decide +kernel
theorem dX0_setField_38 : decode cX0_setField 38 = .ok (.ior, 1) := by decide +kernel
theorem dX0_setField_39 : decode cX0_setField 39 = .ok (.istore 7, 2) := by decide +kernel
theorem dX0_setField_41 : decode cX0_setField 41 = .ok (.goto 15, 3) := by decide +kernel
theorem dX0_setField_44 : decode cX0_setField 44 = .ok (.iload_n 3, 1) := by decide +kernel
theorem dX0_setField_45 : decode cX0_setField 45 = .ok (.iconst 2, 1) := by decide +kernel
theorem dX0_setField_46 : decode cX0_setField 46 = .ok (.if_icmp .ne 10, 3) := by decide +kernel
theorem dX0_setField_49 : decode cX0_setField 49 = .ok (.iload 7, 2) := by decide +kernel
theorem dX0_setField_51 : decode cX0_setField 51 = .ok (.iload 6, 2) := by decide +kernel
theorem dX0_setField_53 : decode cX0_setField 53 = .ok (.ior, 1) := by decide +kernel
theorem dX0_setField_54 : decode cX0_setField 54 = .ok (.istore 7, 2) := by decide +kernel
theorem dX0_setField_56 : decode cX0_setField 56 = .ok (.aload_n 0, 1) := by decide +kernel
theorem dX0_setField_57 : decode cX0_setField 57 = .ok (.getfield 9, 3) := by decide +kernel
theorem dX0_setField_60 : decode cX0_setField 60 = .ok (.iload_n 1, 1) := by decide +kernel
theorem dX0_setField_61 : decode cX0_setField 61 = .ok (.iload 7, 2) := by decide +kernel
theorem dX0_setField_63 : decode cX0_setField 63 = .ok (.iastore, 1) := by decide +kernel
theorem dX0_setField_64 : decode cX0_setField 64 = .ok (.aload_n 0, 1) := by decide +kernel
theorem dX0_setField_65 : decode cX0_setField 65 = .ok (.getfield 9, 3) := by decide +kernel
theorem dX0_setField_68 : decode cX0_setField 68 = .ok (.iload_n 1, 1) := by decide +kernel
theorem dX0_setField_69 : decode cX0_setField 69 = .ok (.iload_n 2, 1) := by decide +kernel
theorem dX0_setField_70 : decode cX0_setField 70 = .ok (.invokestatic 73, 3) := by decide +kernel
theorem dX0_setField_73 : decode cX0_setField 73 = .ok (.iload 4, 2) := by decide +kernel
theorem dX0_setField_75 : decode cX0_setField 75 = .ok (.iastore, 1) := by decide +kernel
theorem dX0_setField_76 : decode cX0_setField 76 = .ok (.return_, 1) := by decide +kernel
theorem dX0_makeObject_0 : decode cX0_makeObject 0 = .ok (.aload_n 0, 1) := by decide +kernel
theorem dX0_makeObject_1 : decode cX0_makeObject 1 = .ok (.dup, 1) := by decide +kernel
theorem dX0_makeObject_2 : decode cX0_makeObject 2 = .ok (.getfield 131, 3) := by decide +kernel
theorem dX0_makeObject_5 : decode cX0_makeObject 5 = .ok (.iconst 1, 1) := by decide +kernel
theorem dX0_makeObject_6 : decode cX0_makeObject 6 = .ok (.iadd, 1) := by decide +kernel
theorem dX0_makeObject_7 : decode cX0_makeObject 7 = .ok (.putfield 131, 3) := by decide +kernel
theorem dX0_makeObject_10 : decode cX0_makeObject 10 = .ok (.aload_n 0, 1) := by decide +kernel
theorem dX0_makeObject_11 : decode cX0_makeObject 11 = .ok (.getfield 9, 3) := by decide +kernel
theorem dX0_makeObject_14 : decode cX0_makeObject 14 = .ok (.aload_n 0, 1) := by decide +kernel
theorem dX0_makeObject_15 : decode cX0_makeObject 15 = .ok (.getfield 58, 3) := by decide +kernel
theorem dX0_makeObject_18 : decode cX0_makeObject 18 = .ok (.iload_n 2, 1) := by decide +kernel
theorem dX0_makeObject_19 : decode cX0_makeObject 19 = .ok (.iastore, 1) := by decide +kernel
theorem dX0_makeObject_20 : decode cX0_makeObject 20 = .ok (.aload_n 0, 1) := by decide +kernel
theorem dX0_makeObject_21 : decode cX0_makeObject 21 = .ok (.getfield 9, 3) := by decide +kernel
theorem dX0_makeObject_24 : decode cX0_makeObject 24 = .ok (.aload_n 0, 1) := by decide +kernel
theorem dX0_makeObject_25 : decode cX0_makeObject 25 = .ok (.getfield 58, 3) := by decide +kernel
theorem dX0_makeObject_28 : decode cX0_makeObject 28 = .ok (.iconst 1, 1) := by decide +kernel
theorem dX0_makeObject_29 : decode cX0_makeObject 29 = .ok (.iadd, 1) := by decide +kernel
theorem dX0_makeObject_30 : decode cX0_makeObject 30 = .ok (.aload_n 0, 1) := by decide +kernel
theorem dX0_makeObject_31 : decode cX0_makeObject 31 = .ok (.getfield 131, 3) := by decide +kernel
theorem dX0_makeObject_34 : decode cX0_makeObject 34 = .ok (.iastore, 1) := by decide +kernel
theorem dX0_makeObject_35 : decode cX0_makeObject 35 = .ok (.aload_n 0, 1) := by decide +kernel
theorem dX0_makeObject_36 : decode cX0_makeObject 36 = .ok (.getfield 13, 3) := by decide +kernel
theorem dX0_makeObject_39 : decode cX0_makeObject 39 = .ok (.iload_n 1, 1) := by decide +kernel
theorem dX0_makeObject_40 : decode cX0_makeObject 40 = .ok (.aload_n 0, 1) := by decide +kernel
theorem dX0_makeObject_41 : decode cX0_makeObject 41 = .ok (.getfield 58, 3) := by decide +kernel
theorem dX0_makeObject_44 : decode cX0_makeObject 44 = .ok (.iastore, 1) := by decide +kernel
theorem dX0_makeObject_45 : decode cX0_makeObject 45 = .ok (.aload_n 0, 1) := by decide +kernel
theorem dX0_makeObject_46 : decode cX0_makeObject 46 = .ok (.getfield 16, 3) := by decide +kernel
theorem dX0_makeObject_49 : decode cX0_makeObject 49 = .ok (.aload_n 0, 1) := by decide +kernel
theorem dX0_makeObject_50 : decode cX0_makeObject 50 = .ok (.getfield 86, 3) := by decide +kernel
theorem dX0_makeObject_53 : decode cX0_makeObject 53 = .ok (.aload_n 0, 1) := by decide +kernel
theorem dX0_makeObject_54 : decode cX0_makeObject 54 = .ok (.getfield 58, 3) := by decide +kernel
theorem dX0_makeObject_57 : decode cX0_makeObject 57 = .ok (.iastore, 1) := by decide +kernel
theorem dX0_makeObject_58 : decode cX0_makeObject 58 = .ok (.aload_n 0, 1) := by decide +kernel
theorem dX0_makeObject_59 : decode cX0_makeObject 59 = .ok (.dup, 1) := by decide +kernel
theorem dX0_makeObject_60 : decode cX0_makeObject 60 = .ok (.getfield 86, 3) := by decide +kernel
theorem dX0_makeObject_63 : decode cX0_makeObject 63 = .ok (.iconst 1, 1) := by decide +kernel
theorem dX0_makeObject_64 : decode cX0_makeObject 64 = .ok (.iadd, 1) := by decide +kernel
theorem dX0_makeObject_65 : decode cX0_makeObject 65 = .ok (.putfield 86, 3) := by decide +kernel
theorem dX0_makeObject_68 : decode cX0_makeObject 68 = .ok (.aload_n 0, 1) := by decide +kernel
theorem dX0_makeObject_69 : decode cX0_makeObject 69 = .ok (.dup, 1) := by decide +kernel
theorem dX0_makeObject_70 : decode cX0_makeObject 70 = .ok (.getfield 58, 3) := by decide +kernel
theorem dX0_makeObject_73 : decode cX0_makeObject 73 = .ok (.iconst 2, 1) := by decide +kernel
theorem dX0_makeObject_74 : decode cX0_makeObject 74 = .ok (.iload_n 2, 1) := by decide +kernel
theorem dX0_makeObject_75 : decode cX0_makeObject 75 = .ok (.iadd, 1) := by decide +kernel
theorem dX0_makeObject_76 : decode cX0_makeObject 76 = .ok (.iadd, 1) := by decide +kernel
theorem dX0_makeObject_77 : decode cX0_makeObject 77 = .ok (.putfield 58, 3) := by decide +kernel
theorem dX0_makeObject_80 : decode cX0_makeObject 80 = .ok (.aload_n 0, 1) := by decide +kernel
theorem dX0_makeObject_81 : decode cX0_makeObject 81 = .ok (.getfield 131, 3) := by decide +kernel
theorem dX0_makeObject_84 : decode cX0_makeObject 84 = .ok (.ireturn, 1) := by decide +kernel
theorem dX0_reach_0 : decode cX0_reach 0 = .ok (.iload_n 1, 1) := by decide +kernel
theorem dX0_reach_1 : decode cX0_reach 1 = .ok (.iconst (-1), 1) := by decide +kernel
theorem dX0_reach_2 : decode cX0_reach 2 = .ok (.if_icmp .eq 40, 3) := by decide +kernel
theorem dX0_reach_5 : decode cX0_reach 5 = .ok (.aload_n 0, 1) := by decide +kernel
theorem dX0_reach_6 : decode cX0_reach 6 = .ok (.getfield 22, 3) := by decide +kernel
theorem dX0_reach_9 : decode cX0_reach 9 = .ok (.iload_n 1, 1) := by decide +kernel
theorem dX0_reach_10 : decode cX0_reach 10 = .ok (.iaload, 1) := by decide +kernel
theorem dX0_reach_11 : decode cX0_reach 11 = .ok (.iconst (-1), 1) := by decide +kernel
theorem dX0_reach_12 : decode cX0_reach 12 = .ok (.if_icmp .ne 30, 3) := by decide +kernel
theorem dX0_reach_15 : decode cX0_reach 15 = .ok (.aload_n 0, 1) := by decide +kernel
theorem dX0_reach_16 : decode cX0_reach 16 = .ok (.getfield 22, 3) := by decide +kernel
theorem dX0_reach_19 : decode cX0_reach 19 = .ok (.iload_n 1, 1) := by decide +kernel
theorem dX0_reach_20 : decode cX0_reach 20 = .ok (.iload_n 1, 1) := by decide +kernel
theorem dX0_reach_21 : decode cX0_reach 21 = .ok (.iastore, 1) := by decide +kernel
theorem dX0_reach_22 : decode cX0_reach 22 = .ok (.aload_n 0, 1) := by decide +kernel
theorem dX0_reach_23 : decode cX0_reach 23 = .ok (.getfield 19, 3) := by decide +kernel
theorem dX0_reach_26 : decode cX0_reach 26 = .ok (.aload_n 0, 1) := by decide +kernel
theorem dX0_reach_27 : decode cX0_reach 27 = .ok (.getfield 92, 3) := by decide +kernel
theorem dX0_reach_30 : decode cX0_reach 30 = .ok (.iload_n 1, 1) := by decide +kernel
theorem dX0_reach_31 : decode cX0_reach 31 = .ok (.iastore, 1) := by decide +kernel
theorem dX0_reach_32 : decode cX0_reach 32 = .ok (.aload_n 0, 1) := by decide +kernel
theorem dX0_reach_33 : decode cX0_reach 33 = .ok (.dup, 1) := by decide +kernel
theorem dX0_reach_34 : decode cX0_reach 34 = .ok (.getfield 92, 3) := by decide +kernel
theorem dX0_reach_37 : decode cX0_reach 37 = .ok (.iconst 1, 1) := by decide +kernel
theorem dX0_reach_38 : decode cX0_reach 38 = .ok (.iadd, 1) := by decide +kernel
theorem dX0_reach_39 : decode cX0_reach 39 = .ok (.putfield 92, 3) := by decide +kernel
theorem dX0_reach_42 : decode cX0_reach 42 = .ok (.return_, 1) := by decide +kernel
theorem dX0_reachFrom_0 : decode cX0_reachFrom 0 = .ok (.aload_n 0, 1) := by decide +kernel
theorem dX0_reachFrom_1 : decode cX0_reachFrom 1 = .ok (.iload_n 1, 1) := by decide +kernel
theorem dX0_reachFrom_2 : decode cX0_reachFrom 2 = .ok (.invokevirtual 123, 3) := by decide +kernel
theorem dX0_reachFrom_5 : decode cX0_reachFrom 5 = .ok (.istore_n 2, 1) := by decide +kernel
theorem dX0_reachFrom_6 : decode cX0_reachFrom 6 = .ok (.iconst 0, 1) := by decide +kernel
theorem dX0_reachFrom_7 : decode cX0_reachFrom 7 = .ok (.istore_n 3, 1) := by decide +kernel
theorem dX0_reachFrom_8 : decode cX0_reachFrom 8 = .ok (.iload_n 3, 1) := by decide +kernel
theorem dX0_reachFrom_9 : decode cX0_reachFrom 9 = .ok (.iload_n 2, 1) := by decide +kernel
theorem dX0_reachFrom_10 : decode cX0_reachFrom 10 = .ok (.if_icmp .ge 33, 3) := by decide +kernel
theorem dX0_reachFrom_13 : decode cX0_reachFrom 13 = .ok (.aload_n 0, 1) := by decide +kernel
theorem dX0_reachFrom_14 : decode cX0_reachFrom 14 = .ok (.iload_n 1, 1) := by decide +kernel
theorem dX0_reachFrom_15 : decode cX0_reachFrom 15 = .ok (.iload_n 3, 1) := by decide +kernel
theorem dX0_reachFrom_16 : decode cX0_reachFrom 16 = .ok (.invokevirtual 76, 3) := by decide +kernel
theorem dX0_reachFrom_19 : decode cX0_reachFrom 19 = .ok (.iconst 1, 1) := by decide +kernel
theorem dX0_reachFrom_20 : decode cX0_reachFrom 20 = .ok (.if_icmp .ne 17, 3) := by decide +kernel
theorem dX0_reachFrom_23 : decode cX0_reachFrom 23 = .ok (.aload_n 0, 1) := by decide +kernel
theorem dX0_reachFrom_24 : decode cX0_reachFrom 24 = .ok (.aload_n 0, 1) := by decide +kernel
theorem dX0_reachFrom_25 : decode cX0_reachFrom 25 = .ok (.getfield 9, 3) := by decide +kernel
theorem dX0_reachFrom_28 : decode cX0_reachFrom 28 = .ok (.iload_n 1, 1) := by decide +kernel
theorem dX0_reachFrom_29 : decode cX0_reachFrom 29 = .ok (.iload_n 3, 1) := by decide +kernel
theorem dX0_reachFrom_30 : decode cX0_reachFrom 30 = .ok (.invokestatic 73, 3) := by decide +kernel
theorem dX0_reachFrom_33 : decode cX0_reachFrom 33 = .ok (.iaload, 1) := by decide +kernel
theorem dX0_reachFrom_34 : decode cX0_reachFrom 34 = .ok (.invokevirtual 134, 3) := by decide +kernel
theorem dX0_reachFrom_37 : decode cX0_reachFrom 37 = .ok (.iinc 3 1, 3) := by decide +kernel
theorem dX0_reachFrom_40 : decode cX0_reachFrom 40 = .ok (.goto (-32), 3) := by decide +kernel
theorem dX0_reachFrom_43 : decode cX0_reachFrom 43 = .ok (.return_, 1) := by decide +kernel
theorem dX0_findAlive_0 : decode cX0_findAlive 0 = .ok (.aload_n 0, 1) := by decide +kernel
theorem dX0_findAlive_1 : decode cX0_findAlive 1 = .ok (.getfield 22, 3) := by decide +kernel
theorem dX0_findAlive_4 : decode cX0_findAlive 4 = .ok (.iconst (-1), 1) := by decide +kernel
theorem dX0_findAlive_5 : decode cX0_findAlive 5 = .ok (.invokestatic 25, 3) := by decide +kernel
theorem dX0_findAlive_8 : decode cX0_findAlive 8 = .ok (.aload_n 0, 1) := by decide +kernel
theorem dX0_findAlive_9 : decode cX0_findAlive 9 = .ok (.iconst 0, 1) := by decide +kernel
theorem dX0_findAlive_10 : decode cX0_findAlive 10 = .ok (.putfield 92, 3) := by decide +kernel
theorem dX0_findAlive_13 : decode cX0_findAlive 13 = .ok (.iconst 0, 1) := by decide +kernel
theorem dX0_findAlive_14 : decode cX0_findAlive 14 = .ok (.istore_n 1, 1) := by decide +kernel
theorem dX0_findAlive_15 : decode cX0_findAlive 15 = .ok (.iload_n 1, 1) := by decide +kernel
theorem dX0_findAlive_16 : decode cX0_findAlive 16 = .ok (.bipush 8, 2) := by decide +kernel
theorem dX0_findAlive_18 : decode cX0_findAlive 18 = .ok (.if_icmp .ge 19, 3) := by decide +kernel
theorem dX0_findAlive_21 : decode cX0_findAlive 21 = .ok (.aload_n 0, 1) := by decide +kernel
theorem dX0_findAlive_22 : decode cX0_findAlive 22 = .ok (.aload_n 0, 1) := by decide +kernel
theorem dX0_findAlive_23 : decode cX0_findAlive 23 = .ok (.getfield 13, 3) := by decide +kernel
theorem dX0_findAlive_26 : decode cX0_findAlive 26 = .ok (.iload_n 1, 1) := by decide +kernel
theorem dX0_findAlive_27 : decode cX0_findAlive 27 = .ok (.iaload, 1) := by decide +kernel
theorem dX0_findAlive_28 : decode cX0_findAlive 28 = .ok (.invokevirtual 134, 3) := by decide +kernel
theorem dX0_findAlive_31 : decode cX0_findAlive 31 = .ok (.iinc 1 1, 3) := by decide +kernel
theorem dX0_findAlive_34 : decode cX0_findAlive 34 = .ok (.goto (-19), 3) := by decide +kernel
theorem dX0_findAlive_37 : decode cX0_findAlive 37 = .ok (.iconst 0, 1) := by decide +kernel
theorem dX0_findAlive_38 : decode cX0_findAlive 38 = .ok (.istore_n 1, 1) := by decide +kernel
theorem dX0_findAlive_39 : decode cX0_findAlive 39 = .ok (.iload_n 1, 1) := by decide +kernel
theorem dX0_findAlive_40 : decode cX0_findAlive 40 = .ok (.aload_n 0, 1) := by decide +kernel
theorem dX0_findAlive_41 : decode cX0_findAlive 41 = .ok (.getfield 92, 3) := by decide +kernel
theorem dX0_findAlive_44 : decode cX0_findAlive 44 = .ok (.if_icmp .ge 26, 3) := by decide +kernel
theorem dX0_findAlive_47 : decode cX0_findAlive 47 = .ok (.iload_n 1, 1) := by decide +kernel
theorem dX0_findAlive_48 : decode cX0_findAlive 48 = .ok (.sipush 128, 3) := by decide +kernel
theorem dX0_findAlive_51 : decode cX0_findAlive 51 = .ok (.if_icmp .ge 19, 3) := by decide +kernel
theorem dX0_findAlive_54 : decode cX0_findAlive 54 = .ok (.aload_n 0, 1) := by decide +kernel
theorem dX0_findAlive_55 : decode cX0_findAlive 55 = .ok (.aload_n 0, 1) := by decide +kernel
theorem dX0_findAlive_56 : decode cX0_findAlive 56 = .ok (.getfield 19, 3) := by decide +kernel
theorem dX0_findAlive_59 : decode cX0_findAlive 59 = .ok (.iload_n 1, 1) := by decide +kernel
theorem dX0_findAlive_60 : decode cX0_findAlive 60 = .ok (.iaload, 1) := by decide +kernel
theorem dX0_findAlive_61 : decode cX0_findAlive 61 = .ok (.invokevirtual 137, 3) := by decide +kernel
theorem dX0_findAlive_64 : decode cX0_findAlive 64 = .ok (.iinc 1 1, 3) := by decide +kernel
theorem dX0_findAlive_67 : decode cX0_findAlive 67 = .ok (.goto (-28), 3) := by decide +kernel
theorem dX0_findAlive_70 : decode cX0_findAlive 70 = .ok (.return_, 1) := by decide +kernel
theorem dX0_addressAfterMove_0 : decode cX0_addressAfterMove 0 = .ok (.iload_n 1, 1) := by decide +kernel
theorem dX0_addressAfterMove_1 : decode cX0_addressAfterMove 1 = .ok (.iconst (-1), 1) := by decide +kernel
theorem dX0_addressAfterMove_2 : decode cX0_addressAfterMove 2 = .ok (.if_icmp .ne 7, 3) := by decide +kernel
theorem dX0_addressAfterMove_5 : decode cX0_addressAfterMove 5 = .ok (.iconst (-1), 1) := by decide +kernel
theorem dX0_addressAfterMove_6 : decode cX0_addressAfterMove 6 = .ok (.goto 9, 3) := by decide +kernel
theorem dX0_addressAfterMove_9 : decode cX0_addressAfterMove 9 = .ok (.aload_n 0, 1) := by decide +kernel
theorem dX0_addressAfterMove_10 : decode cX0_addressAfterMove 10 = .ok (.getfield 22, 3) := by decide +kernel
theorem dX0_addressAfterMove_13 : decode cX0_addressAfterMove 13 = .ok (.iload_n 1, 1) := by decide +kernel
theorem dX0_addressAfterMove_14 : decode cX0_addressAfterMove 14 = .ok (.iaload, 1) := by decide +kernel
theorem dX0_addressAfterMove_15 : decode cX0_addressAfterMove 15 = .ok (.ireturn, 1) := by decide +kernel
theorem dX0_isOneSize_0 : decode cX0_isOneSize 0 = .ok (.iconst 1, 1) := by decide +kernel
theorem dX0_isOneSize_1 : decode cX0_isOneSize 1 = .ok (.istore_n 1, 1) := by decide +kernel
theorem dX0_isOneSize_2 : decode cX0_isOneSize 2 = .ok (.iload_n 1, 1) := by decide +kernel
theorem dX0_isOneSize_3 : decode cX0_isOneSize 3 = .ok (.aload_n 0, 1) := by decide +kernel
theorem dX0_isOneSize_4 : decode cX0_isOneSize 4 = .ok (.getfield 86, 3) := by decide +kernel
theorem dX0_isOneSize_7 : decode cX0_isOneSize 7 = .ok (.if_icmp .ge 34, 3) := by decide +kernel
theorem dX0_isOneSize_10 : decode cX0_isOneSize 10 = .ok (.aload_n 0, 1) := by decide +kernel
theorem dX0_isOneSize_11 : decode cX0_isOneSize 11 = .ok (.aload_n 0, 1) := by decide +kernel
theorem dX0_isOneSize_12 : decode cX0_isOneSize 12 = .ok (.getfield 16, 3) := by decide +kernel
theorem dX0_isOneSize_15 : decode cX0_isOneSize 15 = .ok (.iload_n 1, 1) := by decide +kernel
theorem dX0_isOneSize_16 : decode cX0_isOneSize 16 = .ok (.iaload, 1) := by decide +kernel
theorem dX0_isOneSize_17 : decode cX0_isOneSize 17 = .ok (.invokevirtual 123, 3) := by decide +kernel
theorem dX0_isOneSize_20 : decode cX0_isOneSize 20 = .ok (.aload_n 0, 1) := by decide +kernel
theorem dX0_isOneSize_21 : decode cX0_isOneSize 21 = .ok (.aload_n 0, 1) := by decide +kernel
theorem dX0_isOneSize_22 : decode cX0_isOneSize 22 = .ok (.getfield 16, 3) := by decide +kernel
theorem dX0_isOneSize_25 : decode cX0_isOneSize 25 = .ok (.iconst 0, 1) := by decide +kernel
theorem dX0_isOneSize_26 : decode cX0_isOneSize 26 = .ok (.iaload, 1) := by decide +kernel
theorem dX0_isOneSize_27 : decode cX0_isOneSize 27 = .ok (.invokevirtual 123, 3) := by decide +kernel
theorem dX0_isOneSize_30 : decode cX0_isOneSize 30 = .ok (.if_icmp .eq 5, 3) := by decide +kernel
theorem dX0_isOneSize_33 : decode cX0_isOneSize 33 = .ok (.iconst 0, 1) := by decide +kernel
theorem dX0_isOneSize_34 : decode cX0_isOneSize 34 = .ok (.ireturn, 1) := by decide +kernel
theorem dX0_isOneSize_35 : decode cX0_isOneSize 35 = .ok (.iinc 1 1, 3) := by decide +kernel
theorem dX0_isOneSize_38 : decode cX0_isOneSize 38 = .ok (.goto (-36), 3) := by decide +kernel
theorem dX0_isOneSize_41 : decode cX0_isOneSize 41 = .ok (.iconst 1, 1) := by decide +kernel
theorem dX0_isOneSize_42 : decode cX0_isOneSize 42 = .ok (.ireturn, 1) := by decide +kernel
theorem dX0_planSlide_0 : decode cX0_planSlide 0 = .ok (.iconst 0, 1) := by decide +kernel
theorem dX0_planSlide_1 : decode cX0_planSlide 1 = .ok (.istore_n 1, 1) := by decide +kernel
theorem dX0_planSlide_2 : decode cX0_planSlide 2 = .ok (.iconst 0, 1) := by decide +kernel
theorem dX0_planSlide_3 : decode cX0_planSlide 3 = .ok (.istore_n 2, 1) := by decide +kernel
theorem dX0_planSlide_4 : decode cX0_planSlide 4 = .ok (.iload_n 2, 1) := by decide +kernel
theorem dX0_planSlide_5 : decode cX0_planSlide 5 = .ok (.aload_n 0, 1) := by decide +kernel
theorem dX0_planSlide_6 : decode cX0_planSlide 6 = .ok (.getfield 86, 3) := by decide +kernel
theorem dX0_planSlide_9 : decode cX0_planSlide 9 = .ok (.if_icmp .ge 41, 3) := by decide +kernel
theorem dX0_planSlide_12 : decode cX0_planSlide 12 = .ok (.aload_n 0, 1) := by decide +kernel
theorem dX0_planSlide_13 : decode cX0_planSlide 13 = .ok (.getfield 16, 3) := by decide +kernel
theorem dX0_planSlide_16 : decode cX0_planSlide 16 = .ok (.iload_n 2, 1) := by decide +kernel
theorem dX0_planSlide_17 : decode cX0_planSlide 17 = .ok (.iaload, 1) := by decide +kernel
theorem dX0_planSlide_18 : decode cX0_planSlide 18 = .ok (.istore_n 3, 1) := by decide +kernel
theorem dX0_planSlide_19 : decode cX0_planSlide 19 = .ok (.aload_n 0, 1) := by decide +kernel
theorem dX0_planSlide_20 : decode cX0_planSlide 20 = .ok (.getfield 22, 3) := by decide +kernel
theorem dX0_planSlide_23 : decode cX0_planSlide 23 = .ok (.iload_n 3, 1) := by decide +kernel
theorem dX0_planSlide_24 : decode cX0_planSlide 24 = .ok (.iaload, 1) := by decide +kernel
theorem dX0_planSlide_25 : decode cX0_planSlide 25 = .ok (.iconst (-1), 1) := by decide +kernel
theorem dX0_planSlide_26 : decode cX0_planSlide 26 = .ok (.if_icmp .eq 18, 3) := by decide +kernel
theorem dX0_planSlide_29 : decode cX0_planSlide 29 = .ok (.aload_n 0, 1) := by decide +kernel
theorem dX0_planSlide_30 : decode cX0_planSlide 30 = .ok (.getfield 22, 3) := by decide +kernel
theorem dX0_planSlide_33 : decode cX0_planSlide 33 = .ok (.iload_n 3, 1) := by decide +kernel
theorem dX0_planSlide_34 : decode cX0_planSlide 34 = .ok (.iload_n 1, 1) := by decide +kernel
theorem dX0_planSlide_35 : decode cX0_planSlide 35 = .ok (.iastore, 1) := by decide +kernel
theorem dX0_planSlide_36 : decode cX0_planSlide 36 = .ok (.iload_n 1, 1) := by decide +kernel
theorem dX0_planSlide_37 : decode cX0_planSlide 37 = .ok (.aload_n 0, 1) := by decide +kernel
theorem dX0_planSlide_38 : decode cX0_planSlide 38 = .ok (.iload_n 3, 1) := by decide +kernel
theorem dX0_planSlide_39 : decode cX0_planSlide 39 = .ok (.invokevirtual 158, 3) := by decide +kernel
theorem dX0_planSlide_42 : decode cX0_planSlide 42 = .ok (.iadd, 1) := by decide +kernel
theorem dX0_planSlide_43 : decode cX0_planSlide 43 = .ok (.istore_n 1, 1) := by decide +kernel
theorem dX0_planSlide_44 : decode cX0_planSlide 44 = .ok (.iinc 2 1, 3) := by decide +kernel
theorem dX0_planSlide_47 : decode cX0_planSlide 47 = .ok (.goto (-43), 3) := by decide +kernel
theorem dX0_planSlide_50 : decode cX0_planSlide 50 = .ok (.return_, 1) := by decide +kernel
theorem dX0_planTwoFingers_0 : decode cX0_planTwoFingers 0 = .ok (.iconst 0, 1) := by decide +kernel
theorem dX0_planTwoFingers_1 : decode cX0_planTwoFingers 1 = .ok (.istore_n 1, 1) := by decide +kernel
theorem dX0_planTwoFingers_2 : decode cX0_planTwoFingers 2 = .ok (.aload_n 0, 1) := by decide +kernel
theorem dX0_planTwoFingers_3 : decode cX0_planTwoFingers 3 = .ok (.getfield 86, 3) := by decide +kernel
theorem dX0_planTwoFingers_6 : decode cX0_planTwoFingers 6 = .ok (.iconst 1, 1) := by decide +kernel
theorem dX0_planTwoFingers_7 : decode cX0_planTwoFingers 7 = .ok (.isub, 1) := by decide +kernel
theorem dX0_planTwoFingers_8 : decode cX0_planTwoFingers 8 = .ok (.istore_n 2, 1) := by decide +kernel
theorem dX0_planTwoFingers_9 : decode cX0_planTwoFingers 9 = .ok (.iload_n 1, 1) := by decide +kernel
theorem dX0_planTwoFingers_10 : decode cX0_planTwoFingers 10 = .ok (.iload_n 2, 1) := by decide +kernel
theorem dX0_planTwoFingers_11 : decode cX0_planTwoFingers 11 = .ok (.if_icmp .ge 71, 3) := by decide +kernel
theorem dX0_planTwoFingers_14 : decode cX0_planTwoFingers 14 = .ok (.aload_n 0, 1) := by decide +kernel
theorem dX0_planTwoFingers_15 : decode cX0_planTwoFingers 15 = .ok (.getfield 22, 3) := by decide +kernel
theorem dX0_planTwoFingers_18 : decode cX0_planTwoFingers 18 = .ok (.aload_n 0, 1) := by decide +kernel
theorem dX0_planTwoFingers_19 : decode cX0_planTwoFingers 19 = .ok (.getfield 16, 3) := by decide +kernel
theorem dX0_planTwoFingers_22 : decode cX0_planTwoFingers 22 = .ok (.iload_n 1, 1) := by decide +kernel
theorem dX0_planTwoFingers_23 : decode cX0_planTwoFingers 23 = .ok (.iaload, 1) := by decide +kernel
theorem dX0_planTwoFingers_24 : decode cX0_planTwoFingers 24 = .ok (.iaload, 1) := by decide +kernel
theorem dX0_planTwoFingers_25 : decode cX0_planTwoFingers 25 = .ok (.iconst (-1), 1) := by decide +kernel
theorem dX0_planTwoFingers_26 : decode cX0_planTwoFingers 26 = .ok (.if_icmp .eq 9, 3) := by decide +kernel
theorem dX0_planTwoFingers_29 : decode cX0_planTwoFingers 29 = .ok (.iinc 1 1, 3) := by decide +kernel
theorem dX0_planTwoFingers_32 : decode cX0_planTwoFingers 32 = .ok (.goto (-23), 3) := by decide +kernel
theorem dX0_planTwoFingers_35 : decode cX0_planTwoFingers 35 = .ok (.aload_n 0, 1) := by decide +kernel
theorem dX0_planTwoFingers_36 : decode cX0_planTwoFingers 36 = .ok (.getfield 22, 3) := by decide +kernel
theorem dX0_planTwoFingers_39 : decode cX0_planTwoFingers 39 = .ok (.aload_n 0, 1) := by decide +kernel
theorem dX0_planTwoFingers_40 : decode cX0_planTwoFingers 40 = .ok (.getfield 16, 3) := by decide +kernel
theorem dX0_planTwoFingers_43 : decode cX0_planTwoFingers 43 = .ok (.iload_n 2, 1) := by decide +kernel
theorem dX0_planTwoFingers_44 : decode cX0_planTwoFingers 44 = .ok (.iaload, 1) := by decide +kernel
theorem dX0_planTwoFingers_45 : decode cX0_planTwoFingers 45 = .ok (.iaload, 1) := by decide +kernel
theorem dX0_planTwoFingers_46 : decode cX0_planTwoFingers 46 = .ok (.iconst (-1), 1) := by decide +kernel
theorem dX0_planTwoFingers_47 : decode cX0_planTwoFingers 47 = .ok (.if_icmp .ne 9, 3) := by decide +kernel
theorem dX0_planTwoFingers_50 : decode cX0_planTwoFingers 50 = .ok (.iinc 2 (-1), 3) := by decide +kernel
theorem dX0_planTwoFingers_53 : decode cX0_planTwoFingers 53 = .ok (.goto (-44), 3) := by decide +kernel
theorem dX0_planTwoFingers_56 : decode cX0_planTwoFingers 56 = .ok (.aload_n 0, 1) := by decide +kernel
theorem dX0_planTwoFingers_57 : decode cX0_planTwoFingers 57 = .ok (.getfield 22, 3) := by decide +kernel
theorem dX0_planTwoFingers_60 : decode cX0_planTwoFingers 60 = .ok (.aload_n 0, 1) := by decide +kernel
theorem dX0_planTwoFingers_61 : decode cX0_planTwoFingers 61 = .ok (.getfield 16, 3) := by decide +kernel
theorem dX0_planTwoFingers_64 : decode cX0_planTwoFingers 64 = .ok (.iload_n 2, 1) := by decide +kernel
theorem dX0_planTwoFingers_65 : decode cX0_planTwoFingers 65 = .ok (.iaload, 1) := by decide +kernel
theorem dX0_planTwoFingers_66 : decode cX0_planTwoFingers 66 = .ok (.aload_n 0, 1) := by decide +kernel
theorem dX0_planTwoFingers_67 : decode cX0_planTwoFingers 67 = .ok (.getfield 16, 3) := by decide +kernel
theorem dX0_planTwoFingers_70 : decode cX0_planTwoFingers 70 = .ok (.iload_n 1, 1) := by decide +kernel
theorem dX0_planTwoFingers_71 : decode cX0_planTwoFingers 71 = .ok (.iaload, 1) := by decide +kernel
theorem dX0_planTwoFingers_72 : decode cX0_planTwoFingers 72 = .ok (.iastore, 1) := by decide +kernel
theorem dX0_planTwoFingers_73 : decode cX0_planTwoFingers 73 = .ok (.iinc 1 1, 3) := by decide +kernel
theorem dX0_planTwoFingers_76 : decode cX0_planTwoFingers 76 = .ok (.iinc 2 (-1), 3) := by decide +kernel
theorem dX0_planTwoFingers_79 : decode cX0_planTwoFingers 79 = .ok (.goto (-70), 3) := by decide +kernel
theorem dX0_planTwoFingers_82 : decode cX0_planTwoFingers 82 = .ok (.return_, 1) := by decide +kernel
theorem dX0_redirectRoots_0 : decode cX0_redirectRoots 0 = .ok (.iconst 0, 1) := by decide +kernel
theorem dX0_redirectRoots_1 : decode cX0_redirectRoots 1 = .ok (.istore_n 1, 1) := by decide +kernel
theorem dX0_redirectRoots_2 : decode cX0_redirectRoots 2 = .ok (.iload_n 1, 1) := by decide +kernel
theorem dX0_redirectRoots_3 : decode cX0_redirectRoots 3 = .ok (.bipush 8, 2) := by decide +kernel
theorem dX0_redirectRoots_5 : decode cX0_redirectRoots 5 = .ok (.if_icmp .ge 25, 3) := by decide +kernel
theorem dX0_redirectRoots_8 : decode cX0_redirectRoots 8 = .ok (.aload_n 0, 1) := by decide +kernel
theorem dX0_redirectRoots_9 : decode cX0_redirectRoots 9 = .ok (.getfield 13, 3) := by decide +kernel
theorem dX0_redirectRoots_12 : decode cX0_redirectRoots 12 = .ok (.iload_n 1, 1) := by decide +kernel
theorem dX0_redirectRoots_13 : decode cX0_redirectRoots 13 = .ok (.aload_n 0, 1) := by decide +kernel
theorem dX0_redirectRoots_14 : decode cX0_redirectRoots 14 = .ok (.aload_n 0, 1) := by decide +kernel
theorem dX0_redirectRoots_15 : decode cX0_redirectRoots 15 = .ok (.getfield 13, 3) := by decide +kernel
theorem dX0_redirectRoots_18 : decode cX0_redirectRoots 18 = .ok (.iload_n 1, 1) := by decide +kernel
theorem dX0_redirectRoots_19 : decode cX0_redirectRoots 19 = .ok (.iaload, 1) := by decide +kernel
theorem dX0_redirectRoots_20 : decode cX0_redirectRoots 20 = .ok (.invokevirtual 161, 3) := by decide +kernel
theorem dX0_redirectRoots_23 : decode cX0_redirectRoots 23 = .ok (.iastore, 1) := by decide +kernel
theorem dX0_redirectRoots_24 : decode cX0_redirectRoots 24 = .ok (.iinc 1 1, 3) := by decide +kernel
theorem dX0_redirectRoots_27 : decode cX0_redirectRoots 27 = .ok (.goto (-25), 3) := by decide +kernel
theorem dX0_redirectRoots_30 : decode cX0_redirectRoots 30 = .ok (.return_, 1) := by decide +kernel
theorem dX0_redirectFields_0 : decode cX0_redirectFields 0 = .ok (.aload_n 0, 1) := by decide +kernel
theorem dX0_redirectFields_1 : decode cX0_redirectFields 1 = .ok (.iload_n 1, 1) := by decide +kernel
theorem dX0_redirectFields_2 : decode cX0_redirectFields 2 = .ok (.invokevirtual 123, 3) := by decide +kernel
theorem dX0_redirectFields_5 : decode cX0_redirectFields 5 = .ok (.istore_n 2, 1) := by decide +kernel
theorem dX0_redirectFields_6 : decode cX0_redirectFields 6 = .ok (.iconst 0, 1) := by decide +kernel
theorem dX0_redirectFields_7 : decode cX0_redirectFields 7 = .ok (.istore_n 3, 1) := by decide +kernel
theorem dX0_redirectFields_8 : decode cX0_redirectFields 8 = .ok (.iload_n 3, 1) := by decide +kernel
theorem dX0_redirectFields_9 : decode cX0_redirectFields 9 = .ok (.iload_n 2, 1) := by decide +kernel
theorem dX0_redirectFields_10 : decode cX0_redirectFields 10 = .ok (.if_icmp .ge 43, 3) := by decide +kernel
theorem dX0_redirectFields_13 : decode cX0_redirectFields 13 = .ok (.aload_n 0, 1) := by decide +kernel
theorem dX0_redirectFields_14 : decode cX0_redirectFields 14 = .ok (.iload_n 1, 1) := by decide +kernel
theorem dX0_redirectFields_15 : decode cX0_redirectFields 15 = .ok (.iload_n 3, 1) := by decide +kernel
theorem dX0_redirectFields_16 : decode cX0_redirectFields 16 = .ok (.invokevirtual 76, 3) := by decide +kernel
theorem dX0_redirectFields_19 : decode cX0_redirectFields 19 = .ok (.ifCond .eq 28, 3) := by decide +kernel
theorem dX0_redirectFields_22 : decode cX0_redirectFields 22 = .ok (.iload_n 1, 1) := by decide +kernel
theorem dX0_redirectFields_23 : decode cX0_redirectFields 23 = .ok (.iload_n 3, 1) := by decide +kernel
theorem dX0_redirectFields_24 : decode cX0_redirectFields 24 = .ok (.invokestatic 73, 3) := by decide +kernel
theorem dX0_redirectFields_27 : decode cX0_redirectFields 27 = .ok (.istore 4, 2) := by decide +kernel
theorem dX0_redirectFields_29 : decode cX0_redirectFields 29 = .ok (.aload_n 0, 1) := by decide +kernel
theorem dX0_redirectFields_30 : decode cX0_redirectFields 30 = .ok (.getfield 9, 3) := by decide +kernel
theorem dX0_redirectFields_33 : decode cX0_redirectFields 33 = .ok (.iload 4, 2) := by decide +kernel
theorem dX0_redirectFields_35 : decode cX0_redirectFields 35 = .ok (.aload_n 0, 1) := by decide +kernel
theorem dX0_redirectFields_36 : decode cX0_redirectFields 36 = .ok (.aload_n 0, 1) := by decide +kernel
theorem dX0_redirectFields_37 : decode cX0_redirectFields 37 = .ok (.getfield 9, 3) := by decide +kernel
theorem dX0_redirectFields_40 : decode cX0_redirectFields 40 = .ok (.iload 4, 2) := by decide +kernel
theorem dX0_redirectFields_42 : decode cX0_redirectFields 42 = .ok (.iaload, 1) := by decide +kernel
theorem dX0_redirectFields_43 : decode cX0_redirectFields 43 = .ok (.invokevirtual 161, 3) := by decide +kernel
theorem dX0_redirectFields_46 : decode cX0_redirectFields 46 = .ok (.iastore, 1) := by decide +kernel
theorem dX0_redirectFields_47 : decode cX0_redirectFields 47 = .ok (.iinc 3 1, 3) := by decide +kernel
theorem dX0_redirectFields_50 : decode cX0_redirectFields 50 = .ok (.goto (-42), 3) := by decide +kernel
theorem dX0_redirectFields_53 : decode cX0_redirectFields 53 = .ok (.return_, 1) := by decide +kernel
theorem dX0_moveObjects_0 : decode cX0_moveObjects 0 = .ok (.iconst 0, 1) := by decide +kernel
theorem dX0_moveObjects_1 : decode cX0_moveObjects 1 = .ok (.istore_n 1, 1) := by decide +kernel
theorem dX0_moveObjects_2 : decode cX0_moveObjects 2 = .ok (.iload_n 1, 1) := by decide +kernel
theorem dX0_moveObjects_3 : decode cX0_moveObjects 3 = .ok (.aload_n 0, 1) := by decide +kernel
theorem dX0_moveObjects_4 : decode cX0_moveObjects 4 = .ok (.getfield 86, 3) := by decide +kernel
theorem dX0_moveObjects_7 : decode cX0_moveObjects 7 = .ok (.if_icmp .ge 49, 3) := by decide +kernel
theorem dX0_moveObjects_10 : decode cX0_moveObjects 10 = .ok (.aload_n 0, 1) := by decide +kernel
theorem dX0_moveObjects_11 : decode cX0_moveObjects 11 = .ok (.getfield 16, 3) := by decide +kernel
theorem dX0_moveObjects_14 : decode cX0_moveObjects 14 = .ok (.iload_n 1, 1) := by decide +kernel
theorem dX0_moveObjects_15 : decode cX0_moveObjects 15 = .ok (.iaload, 1) := by decide +kernel
theorem dX0_moveObjects_16 : decode cX0_moveObjects 16 = .ok (.istore_n 2, 1) := by decide +kernel
theorem dX0_moveObjects_17 : decode cX0_moveObjects 17 = .ok (.aload_n 0, 1) := by decide +kernel
theorem dX0_moveObjects_18 : decode cX0_moveObjects 18 = .ok (.getfield 22, 3) := by decide +kernel
theorem dX0_moveObjects_21 : decode cX0_moveObjects 21 = .ok (.iload_n 2, 1) := by decide +kernel
theorem dX0_moveObjects_22 : decode cX0_moveObjects 22 = .ok (.iaload, 1) := by decide +kernel
theorem dX0_moveObjects_23 : decode cX0_moveObjects 23 = .ok (.iconst (-1), 1) := by decide +kernel
theorem dX0_moveObjects_24 : decode cX0_moveObjects 24 = .ok (.if_icmp .eq 26, 3) := by decide +kernel
theorem dX0_moveObjects_27 : decode cX0_moveObjects 27 = .ok (.aload_n 0, 1) := by decide +kernel
theorem dX0_moveObjects_28 : decode cX0_moveObjects 28 = .ok (.getfield 9, 3) := by decide +kernel
theorem dX0_moveObjects_31 : decode cX0_moveObjects 31 = .ok (.iload_n 2, 1) := by decide +kernel
theorem dX0_moveObjects_32 : decode cX0_moveObjects 32 = .ok (.aload_n 0, 1) := by decide +kernel
theorem dX0_moveObjects_33 : decode cX0_moveObjects 33 = .ok (.getfield 9, 3) := by decide +kernel
theorem dX0_moveObjects_36 : decode cX0_moveObjects 36 = .ok (.aload_n 0, 1) := by decide +kernel
theorem dX0_moveObjects_37 : decode cX0_moveObjects 37 = .ok (.getfield 22, 3) := by decide +kernel
theorem dX0_moveObjects_40 : decode cX0_moveObjects 40 = .ok (.iload_n 2, 1) := by decide +kernel
theorem dX0_moveObjects_41 : decode cX0_moveObjects 41 = .ok (.iaload, 1) := by decide +kernel
theorem dX0_moveObjects_42 : decode cX0_moveObjects 42 = .ok (.aload_n 0, 1) := by decide +kernel
theorem dX0_moveObjects_43 : decode cX0_moveObjects 43 = .ok (.iload_n 2, 1) := by decide +kernel
theorem dX0_moveObjects_44 : decode cX0_moveObjects 44 = .ok (.invokevirtual 158, 3) := by decide +kernel
theorem dX0_moveObjects_47 : decode cX0_moveObjects 47 = .ok (.invokestatic 164, 3) := by decide +kernel
theorem dX0_moveObjects_50 : decode cX0_moveObjects 50 = .ok (.iinc 1 1, 3) := by decide +kernel
theorem dX0_moveObjects_53 : decode cX0_moveObjects 53 = .ok (.goto (-51), 3) := by decide +kernel
theorem dX0_moveObjects_56 : decode cX0_moveObjects 56 = .ok (.return_, 1) := by decide +kernel
theorem dX0_listObjects_0 : decode cX0_listObjects 0 = .ok (.iconst 0, 1) := by decide +kernel
theorem dX0_listObjects_1 : decode cX0_listObjects 1 = .ok (.istore_n 1, 1) := by decide +kernel
theorem dX0_listObjects_2 : decode cX0_listObjects 2 = .ok (.iconst 0, 1) := by decide +kernel
theorem dX0_listObjects_3 : decode cX0_listObjects 3 = .ok (.istore_n 2, 1) := by decide +kernel
theorem dX0_listObjects_4 : decode cX0_listObjects 4 = .ok (.iload_n 2, 1) := by decide +kernel
theorem dX0_listObjects_5 : decode cX0_listObjects 5 = .ok (.aload_n 0, 1) := by decide +kernel
theorem dX0_listObjects_6 : decode cX0_listObjects 6 = .ok (.getfield 92, 3) := by decide +kernel
theorem dX0_listObjects_9 : decode cX0_listObjects 9 = .ok (.if_icmp .ge 24, 3) := by decide +kernel
theorem dX0_listObjects_12 : decode cX0_listObjects 12 = .ok (.aload_n 0, 1) := by decide +kernel
theorem dX0_listObjects_13 : decode cX0_listObjects 13 = .ok (.getfield 16, 3) := by decide +kernel
theorem dX0_listObjects_16 : decode cX0_listObjects 16 = .ok (.iload_n 2, 1) := by decide +kernel
theorem dX0_listObjects_17 : decode cX0_listObjects 17 = .ok (.iload_n 1, 1) := by decide +kernel
theorem dX0_listObjects_18 : decode cX0_listObjects 18 = .ok (.iastore, 1) := by decide +kernel
theorem dX0_listObjects_19 : decode cX0_listObjects 19 = .ok (.iload_n 1, 1) := by decide +kernel
theorem dX0_listObjects_20 : decode cX0_listObjects 20 = .ok (.aload_n 0, 1) := by decide +kernel
theorem dX0_listObjects_21 : decode cX0_listObjects 21 = .ok (.iload_n 1, 1) := by decide +kernel
theorem dX0_listObjects_22 : decode cX0_listObjects 22 = .ok (.invokevirtual 158, 3) := by decide +kernel
theorem dX0_listObjects_25 : decode cX0_listObjects 25 = .ok (.iadd, 1) := by decide +kernel
theorem dX0_listObjects_26 : decode cX0_listObjects 26 = .ok (.istore_n 1, 1) := by decide +kernel
theorem dX0_listObjects_27 : decode cX0_listObjects 27 = .ok (.iinc 2 1, 3) := by decide +kernel
theorem dX0_listObjects_30 : decode cX0_listObjects 30 = .ok (.goto (-26), 3) := by decide +kernel
theorem dX0_listObjects_33 : decode cX0_listObjects 33 = .ok (.aload_n 0, 1) := by decide +kernel
theorem dX0_listObjects_34 : decode cX0_listObjects 34 = .ok (.aload_n 0, 1) := by decide +kernel
theorem dX0_listObjects_35 : decode cX0_listObjects 35 = .ok (.getfield 92, 3) := by decide +kernel
theorem dX0_listObjects_38 : decode cX0_listObjects 38 = .ok (.putfield 86, 3) := by decide +kernel
theorem dX0_listObjects_41 : decode cX0_listObjects 41 = .ok (.aload_n 0, 1) := by decide +kernel
theorem dX0_listObjects_42 : decode cX0_listObjects 42 = .ok (.getfield 9, 3) := by decide +kernel
theorem dX0_listObjects_45 : decode cX0_listObjects 45 = .ok (.iload_n 1, 1) := by decide +kernel
theorem dX0_listObjects_46 : decode cX0_listObjects 46 = .ok (.aload_n 0, 1) := by decide +kernel
theorem dX0_listObjects_47 : decode cX0_listObjects 47 = .ok (.getfield 58, 3) := by decide +kernel
theorem dX0_listObjects_50 : decode cX0_listObjects 50 = .ok (.iconst 0, 1) := by decide +kernel
theorem dX0_listObjects_51 : decode cX0_listObjects 51 = .ok (.invokestatic 170, 3) := by decide +kernel
theorem dX0_listObjects_54 : decode cX0_listObjects 54 = .ok (.aload_n 0, 1) := by decide +kernel
theorem dX0_listObjects_55 : decode cX0_listObjects 55 = .ok (.iload_n 1, 1) := by decide +kernel
theorem dX0_listObjects_56 : decode cX0_listObjects 56 = .ok (.putfield 58, 3) := by decide +kernel
theorem dX0_listObjects_59 : decode cX0_listObjects 59 = .ok (.return_, 1) := by decide +kernel
theorem dX0_moveTogether_0 : decode cX0_moveTogether 0 = .ok (.aload_n 0, 1) := by decide +kernel
theorem dX0_moveTogether_1 : decode cX0_moveTogether 1 = .ok (.invokevirtual 89, 3) := by decide +kernel
theorem dX0_moveTogether_4 : decode cX0_moveTogether 4 = .ok (.iload_n 1, 1) := by decide +kernel
theorem dX0_moveTogether_5 : decode cX0_moveTogether 5 = .ok (.iconst 1, 1) := by decide +kernel
theorem dX0_moveTogether_6 : decode cX0_moveTogether 6 = .ok (.if_icmp .ne 10, 3) := by decide +kernel
theorem dX0_moveTogether_9 : decode cX0_moveTogether 9 = .ok (.aload_n 0, 1) := by decide +kernel
theorem dX0_moveTogether_10 : decode cX0_moveTogether 10 = .ok (.invokevirtual 140, 3) := by decide +kernel
theorem dX0_moveTogether_13 : decode cX0_moveTogether 13 = .ok (.goto 7, 3) := by decide +kernel
theorem dX0_moveTogether_16 : decode cX0_moveTogether 16 = .ok (.aload_n 0, 1) := by decide +kernel
theorem dX0_moveTogether_17 : decode cX0_moveTogether 17 = .ok (.invokevirtual 143, 3) := by decide +kernel
theorem dX0_moveTogether_20 : decode cX0_moveTogether 20 = .ok (.aload_n 0, 1) := by decide +kernel
theorem dX0_moveTogether_21 : decode cX0_moveTogether 21 = .ok (.invokevirtual 146, 3) := by decide +kernel
theorem dX0_moveTogether_24 : decode cX0_moveTogether 24 = .ok (.iconst 0, 1) := by decide +kernel
theorem dX0_moveTogether_25 : decode cX0_moveTogether 25 = .ok (.istore_n 2, 1) := by decide +kernel
theorem dX0_moveTogether_26 : decode cX0_moveTogether 26 = .ok (.iload_n 2, 1) := by decide +kernel
theorem dX0_moveTogether_27 : decode cX0_moveTogether 27 = .ok (.aload_n 0, 1) := by decide +kernel
theorem dX0_moveTogether_28 : decode cX0_moveTogether 28 = .ok (.getfield 92, 3) := by decide +kernel
theorem dX0_moveTogether_31 : decode cX0_moveTogether 31 = .ok (.if_icmp .ge 19, 3) := by decide +kernel
theorem dX0_moveTogether_34 : decode cX0_moveTogether 34 = .ok (.aload_n 0, 1) := by decide +kernel
theorem dX0_moveTogether_35 : decode cX0_moveTogether 35 = .ok (.aload_n 0, 1) := by decide +kernel
theorem dX0_moveTogether_36 : decode cX0_moveTogether 36 = .ok (.getfield 19, 3) := by decide +kernel
theorem dX0_moveTogether_39 : decode cX0_moveTogether 39 = .ok (.iload_n 2, 1) := by decide +kernel
theorem dX0_moveTogether_40 : decode cX0_moveTogether 40 = .ok (.iaload, 1) := by decide +kernel
theorem dX0_moveTogether_41 : decode cX0_moveTogether 41 = .ok (.invokevirtual 149, 3) := by decide +kernel
theorem dX0_moveTogether_44 : decode cX0_moveTogether 44 = .ok (.iinc 2 1, 3) := by decide +kernel
theorem dX0_moveTogether_47 : decode cX0_moveTogether 47 = .ok (.goto (-21), 3) := by decide +kernel
theorem dX0_moveTogether_50 : decode cX0_moveTogether 50 = .ok (.aload_n 0, 1) := by decide +kernel
theorem dX0_moveTogether_51 : decode cX0_moveTogether 51 = .ok (.invokevirtual 152, 3) := by decide +kernel
theorem dX0_moveTogether_54 : decode cX0_moveTogether 54 = .ok (.aload_n 0, 1) := by decide +kernel
theorem dX0_moveTogether_55 : decode cX0_moveTogether 55 = .ok (.invokevirtual 155, 3) := by decide +kernel
theorem dX0_moveTogether_58 : decode cX0_moveTogether 58 = .ok (.return_, 1) := by decide +kernel
theorem dX0_requireRoom_0 : decode cX0_requireRoom 0 = .ok (.aload_n 0, 1) := by decide +kernel
theorem dX0_requireRoom_1 : decode cX0_requireRoom 1 = .ok (.iload_n 1, 1) := by decide +kernel
theorem dX0_requireRoom_2 : decode cX0_requireRoom 2 = .ok (.invokevirtual 48, 3) := by decide +kernel
theorem dX0_requireRoom_5 : decode cX0_requireRoom 5 = .ok (.ifCond .ne 13, 3) := by decide +kernel
theorem dX0_requireRoom_8 : decode cX0_requireRoom 8 = .ok (.new 104, 3) := by decide +kernel
theorem dX0_requireRoom_11 : decode cX0_requireRoom 11 = .ok (.dup, 1) := by decide +kernel
theorem dX0_requireRoom_12 : decode cX0_requireRoom 12 = .ok (.ldc 106, 2) := by decide +kernel
theorem dX0_requireRoom_14 : decode cX0_requireRoom 14 = .ok (.invokespecial 108, 3) := by decide +kernel
theorem dX0_requireRoom_17 : decode cX0_requireRoom 17 = .ok (.athrow, 1) := by decide +kernel
theorem dX0_requireRoom_18 : decode cX0_requireRoom 18 = .ok (.return_, 1) := by decide +kernel
theorem dX0_requireSizesFor_0 : decode cX0_requireSizesFor 0 = .ok (.iload_n 1, 1) := by decide +kernel
theorem dX0_requireSizesFor_1 : decode cX0_requireSizesFor 1 = .ok (.iconst 1, 1) := by decide +kernel
theorem dX0_requireSizesFor_2 : decode cX0_requireSizesFor 2 = .ok (.if_icmp .ne 20, 3) := by decide +kernel
theorem dX0_requireSizesFor_5 : decode cX0_requireSizesFor 5 = .ok (.aload_n 0, 1) := by decide +kernel
theorem dX0_requireSizesFor_6 : decode cX0_requireSizesFor 6 = .ok (.invokevirtual 109, 3) := by decide +kernel
theorem dX0_requireSizesFor_9 : decode cX0_requireSizesFor 9 = .ok (.ifCond .ne 13, 3) := by decide +kernel
theorem dX0_requireSizesFor_12 : decode cX0_requireSizesFor 12 = .ok (.new 113, 3) := by decide +kernel
theorem dX0_requireSizesFor_15 : decode cX0_requireSizesFor 15 = .ok (.dup, 1) := by decide +kernel
theorem dX0_requireSizesFor_16 : decode cX0_requireSizesFor 16 = .ok (.ldc 115, 2) := by decide +kernel
theorem dX0_requireSizesFor_18 : decode cX0_requireSizesFor 18 = .ok (.invokespecial 117, 3) := by decide +kernel
theorem dX0_requireSizesFor_21 : decode cX0_requireSizesFor 21 = .ok (.athrow, 1) := by decide +kernel
theorem dX0_requireSizesFor_22 : decode cX0_requireSizesFor 22 = .ok (.return_, 1) := by decide +kernel
theorem dX0_requireObjectWithField_0 : decode cX0_requireObjectWithField 0 = .ok (.aload_n 0, 1) := by decide +kernel
theorem dX0_requireObjectWithField_1 : decode cX0_requireObjectWithField 1 = .ok (.getfield 13, 3) := by decide +kernel
theorem dX0_requireObjectWithField_4 : decode cX0_requireObjectWithField 4 = .ok (.iload_n 1, 1) := by decide +kernel
theorem dX0_requireObjectWithField_5 : decode cX0_requireObjectWithField 5 = .ok (.iaload, 1) := by decide +kernel
theorem dX0_requireObjectWithField_6 : decode cX0_requireObjectWithField 6 = .ok (.iconst (-1), 1) := by decide +kernel
theorem dX0_requireObjectWithField_7 : decode cX0_requireObjectWithField 7 = .ok (.if_icmp .ne 13, 3) := by decide +kernel
theorem dX0_requireObjectWithField_10 : decode cX0_requireObjectWithField 10 = .ok (.new 118, 3) := by decide +kernel
theorem dX0_requireObjectWithField_13 : decode cX0_requireObjectWithField 13 = .ok (.dup, 1) := by decide +kernel
theorem dX0_requireObjectWithField_14 : decode cX0_requireObjectWithField 14 = .ok (.ldc 120, 2) := by decide +kernel
theorem dX0_requireObjectWithField_16 : decode cX0_requireObjectWithField 16 = .ok (.invokespecial 122, 3) := by decide +kernel
theorem dX0_requireObjectWithField_19 : decode cX0_requireObjectWithField 19 = .ok (.athrow, 1) := by decide +kernel
theorem dX0_requireObjectWithField_20 : decode cX0_requireObjectWithField 20 = .ok (.iload_n 2, 1) := by decide +kernel
theorem dX0_requireObjectWithField_21 : decode cX0_requireObjectWithField 21 = .ok (.ifCond .lt 17, 3) := by decide +kernel
theorem dX0_requireObjectWithField_24 : decode cX0_requireObjectWithField 24 = .ok (.iload_n 2, 1) := by decide +kernel
theorem dX0_requireObjectWithField_25 : decode cX0_requireObjectWithField 25 = .ok (.aload_n 0, 1) := by decide +kernel
theorem dX0_requireObjectWithField_26 : decode cX0_requireObjectWithField 26 = .ok (.aload_n 0, 1) := by decide +kernel
theorem dX0_requireObjectWithField_27 : decode cX0_requireObjectWithField 27 = .ok (.getfield 13, 3) := by decide +kernel
theorem dX0_requireObjectWithField_30 : decode cX0_requireObjectWithField 30 = .ok (.iload_n 1, 1) := by decide +kernel
theorem dX0_requireObjectWithField_31 : decode cX0_requireObjectWithField 31 = .ok (.iaload, 1) := by decide +kernel
theorem dX0_requireObjectWithField_32 : decode cX0_requireObjectWithField 32 = .ok (.invokevirtual 123, 3) := by decide +kernel
theorem dX0_requireObjectWithField_35 : decode cX0_requireObjectWithField 35 = .ok (.if_icmp .lt 13, 3) := by decide +kernel
theorem dX0_requireObjectWithField_38 : decode cX0_requireObjectWithField 38 = .ok (.new 79, 3) := by decide +kernel
theorem dX0_requireObjectWithField_41 : decode cX0_requireObjectWithField 41 = .ok (.dup, 1) := by decide +kernel
theorem dX0_requireObjectWithField_42 : decode cX0_requireObjectWithField 42 = .ok (.ldc 127, 2) := by decide +kernel
theorem dX0_requireObjectWithField_44 : decode cX0_requireObjectWithField 44 = .ok (.invokespecial 83, 3) := by decide +kernel
theorem dX0_requireObjectWithField_47 : decode cX0_requireObjectWithField 47 = .ok (.athrow, 1) := by decide +kernel
theorem dX0_requireObjectWithField_48 : decode cX0_requireObjectWithField 48 = .ok (.return_, 1) := by decide +kernel
theorem dX0_requireReference_0 : decode cX0_requireReference 0 = .ok (.aload_n 0, 1) := by decide +kernel
theorem dX0_requireReference_1 : decode cX0_requireReference 1 = .ok (.iload_n 1, 1) := by decide +kernel
theorem dX0_requireReference_2 : decode cX0_requireReference 2 = .ok (.iload_n 2, 1) := by decide +kernel
theorem dX0_requireReference_3 : decode cX0_requireReference 3 = .ok (.invokevirtual 76, 3) := by decide +kernel
theorem dX0_requireReference_6 : decode cX0_requireReference 6 = .ok (.ifCond .ne 13, 3) := by decide +kernel
theorem dX0_requireReference_9 : decode cX0_requireReference 9 = .ok (.new 104, 3) := by decide +kernel
theorem dX0_requireReference_12 : decode cX0_requireReference 12 = .ok (.dup, 1) := by decide +kernel
theorem dX0_requireReference_13 : decode cX0_requireReference 13 = .ok (.ldc 129, 2) := by decide +kernel
theorem dX0_requireReference_15 : decode cX0_requireReference 15 = .ok (.invokespecial 108, 3) := by decide +kernel
theorem dX0_requireReference_18 : decode cX0_requireReference 18 = .ok (.athrow, 1) := by decide +kernel
theorem dX0_requireReference_19 : decode cX0_requireReference 19 = .ok (.return_, 1) := by decide +kernel
theorem dX0_allocate_0 : decode cX0_allocate 0 = .ok (.iload_n 1, 1) := by decide +kernel
theorem dX0_allocate_1 : decode cX0_allocate 1 = .ok (.invokestatic 31, 3) := by decide +kernel
theorem dX0_allocate_4 : decode cX0_allocate 4 = .ok (.iload_n 2, 1) := by decide +kernel
theorem dX0_allocate_5 : decode cX0_allocate 5 = .ok (.invokestatic 35, 3) := by decide +kernel
theorem dX0_allocate_8 : decode cX0_allocate 8 = .ok (.aload_n 0, 1) := by decide +kernel
theorem dX0_allocate_9 : decode cX0_allocate 9 = .ok (.iload_n 2, 1) := by decide +kernel
theorem dX0_allocate_10 : decode cX0_allocate 10 = .ok (.invokevirtual 38, 3) := by decide +kernel
theorem dX0_allocate_13 : decode cX0_allocate 13 = .ok (.aload_n 0, 1) := by decide +kernel
theorem dX0_allocate_14 : decode cX0_allocate 14 = .ok (.iload_n 1, 1) := by decide +kernel
theorem dX0_allocate_15 : decode cX0_allocate 15 = .ok (.iload_n 2, 1) := by decide +kernel
theorem dX0_allocate_16 : decode cX0_allocate 16 = .ok (.invokevirtual 41, 3) := by decide +kernel
theorem dX0_allocate_19 : decode cX0_allocate 19 = .ok (.ireturn, 1) := by decide +kernel
theorem dX0_claim_0 : decode cX0_claim 0 = .ok (.iload_n 1, 1) := by decide +kernel
theorem dX0_claim_1 : decode cX0_claim 1 = .ok (.invokestatic 31, 3) := by decide +kernel
theorem dX0_claim_4 : decode cX0_claim 4 = .ok (.iload_n 2, 1) := by decide +kernel
theorem dX0_claim_5 : decode cX0_claim 5 = .ok (.invokestatic 35, 3) := by decide +kernel
theorem dX0_claim_8 : decode cX0_claim 8 = .ok (.iload_n 3, 1) := by decide +kernel
theorem dX0_claim_9 : decode cX0_claim 9 = .ok (.invokestatic 45, 3) := by decide +kernel
theorem dX0_claim_12 : decode cX0_claim 12 = .ok (.aload_n 0, 1) := by decide +kernel
theorem dX0_claim_13 : decode cX0_claim 13 = .ok (.iload_n 2, 1) := by decide +kernel
theorem dX0_claim_14 : decode cX0_claim 14 = .ok (.invokevirtual 48, 3) := by decide +kernel
theorem dX0_claim_17 : decode cX0_claim 17 = .ok (.ifCond .ne 18, 3) := by decide +kernel
theorem dX0_claim_20 : decode cX0_claim 20 = .ok (.aload_n 0, 1) := by decide +kernel
theorem dX0_claim_21 : decode cX0_claim 21 = .ok (.iload_n 3, 1) := by decide +kernel
theorem dX0_claim_22 : decode cX0_claim 22 = .ok (.invokevirtual 52, 3) := by decide +kernel
theorem dX0_claim_25 : decode cX0_claim 25 = .ok (.aload_n 0, 1) := by decide +kernel
theorem dX0_claim_26 : decode cX0_claim 26 = .ok (.iload_n 3, 1) := by decide +kernel
theorem dX0_claim_27 : decode cX0_claim 27 = .ok (.invokevirtual 55, 3) := by decide +kernel
theorem dX0_claim_30 : decode cX0_claim 30 = .ok (.aload_n 0, 1) := by decide +kernel
theorem dX0_claim_31 : decode cX0_claim 31 = .ok (.iload_n 2, 1) := by decide +kernel
theorem dX0_claim_32 : decode cX0_claim 32 = .ok (.invokevirtual 38, 3) := by decide +kernel
theorem dX0_claim_35 : decode cX0_claim 35 = .ok (.aload_n 0, 1) := by decide +kernel
theorem dX0_claim_36 : decode cX0_claim 36 = .ok (.iload_n 1, 1) := by decide +kernel
theorem dX0_claim_37 : decode cX0_claim 37 = .ok (.iload_n 2, 1) := by decide +kernel
theorem dX0_claim_38 : decode cX0_claim 38 = .ok (.invokevirtual 41, 3) := by decide +kernel
theorem dX0_claim_41 : decode cX0_claim 41 = .ok (.ireturn, 1) := by decide +kernel
theorem dX0_compact_0 : decode cX0_compact 0 = .ok (.iload_n 1, 1) := by decide +kernel
theorem dX0_compact_1 : decode cX0_compact 1 = .ok (.invokestatic 45, 3) := by decide +kernel
theorem dX0_compact_4 : decode cX0_compact 4 = .ok (.aload_n 0, 1) := by decide +kernel
theorem dX0_compact_5 : decode cX0_compact 5 = .ok (.iload_n 1, 1) := by decide +kernel
theorem dX0_compact_6 : decode cX0_compact 6 = .ok (.invokevirtual 52, 3) := by decide +kernel
theorem dX0_compact_9 : decode cX0_compact 9 = .ok (.aload_n 0, 1) := by decide +kernel
theorem dX0_compact_10 : decode cX0_compact 10 = .ok (.getfield 58, 3) := by decide +kernel
theorem dX0_compact_13 : decode cX0_compact 13 = .ok (.istore_n 2, 1) := by decide +kernel
theorem dX0_compact_14 : decode cX0_compact 14 = .ok (.aload_n 0, 1) := by decide +kernel
theorem dX0_compact_15 : decode cX0_compact 15 = .ok (.iload_n 1, 1) := by decide +kernel
theorem dX0_compact_16 : decode cX0_compact 16 = .ok (.invokevirtual 55, 3) := by decide +kernel
theorem dX0_compact_19 : decode cX0_compact 19 = .ok (.iload_n 2, 1) := by decide +kernel
theorem dX0_compact_20 : decode cX0_compact 20 = .ok (.aload_n 0, 1) := by decide +kernel
theorem dX0_compact_21 : decode cX0_compact 21 = .ok (.getfield 58, 3) := by decide +kernel
theorem dX0_compact_24 : decode cX0_compact 24 = .ok (.isub, 1) := by decide +kernel
theorem dX0_compact_25 : decode cX0_compact 25 = .ok (.ireturn, 1) := by decide +kernel
theorem dX0_copy_0 : decode cX0_copy 0 = .ok (.iload_n 1, 1) := by decide +kernel
theorem dX0_copy_1 : decode cX0_copy 1 = .ok (.invokestatic 31, 3) := by decide +kernel
theorem dX0_copy_4 : decode cX0_copy 4 = .ok (.iload_n 2, 1) := by decide +kernel
theorem dX0_copy_5 : decode cX0_copy 5 = .ok (.invokestatic 31, 3) := by decide +kernel
theorem dX0_copy_8 : decode cX0_copy 8 = .ok (.aload_n 0, 1) := by decide +kernel
theorem dX0_copy_9 : decode cX0_copy 9 = .ok (.getfield 13, 3) := by decide +kernel
theorem dX0_copy_12 : decode cX0_copy 12 = .ok (.iload_n 1, 1) := by decide +kernel
theorem dX0_copy_13 : decode cX0_copy 13 = .ok (.aload_n 0, 1) := by decide +kernel
theorem dX0_copy_14 : decode cX0_copy 14 = .ok (.getfield 13, 3) := by decide +kernel
theorem dX0_copy_17 : decode cX0_copy 17 = .ok (.iload_n 2, 1) := by decide +kernel
theorem dX0_copy_18 : decode cX0_copy 18 = .ok (.iaload, 1) := by decide +kernel
theorem dX0_copy_19 : decode cX0_copy 19 = .ok (.iastore, 1) := by decide +kernel
theorem dX0_copy_20 : decode cX0_copy 20 = .ok (.return_, 1) := by decide +kernel
theorem dX0_clear_0 : decode cX0_clear 0 = .ok (.iload_n 1, 1) := by decide +kernel
theorem dX0_clear_1 : decode cX0_clear 1 = .ok (.invokestatic 31, 3) := by decide +kernel
theorem dX0_clear_4 : decode cX0_clear 4 = .ok (.aload_n 0, 1) := by decide +kernel
theorem dX0_clear_5 : decode cX0_clear 5 = .ok (.getfield 13, 3) := by decide +kernel
theorem dX0_clear_8 : decode cX0_clear 8 = .ok (.iload_n 1, 1) := by decide +kernel
theorem dX0_clear_9 : decode cX0_clear 9 = .ok (.iconst (-1), 1) := by decide +kernel
theorem dX0_clear_10 : decode cX0_clear 10 = .ok (.iastore, 1) := by decide +kernel
theorem dX0_clear_11 : decode cX0_clear 11 = .ok (.return_, 1) := by decide +kernel
theorem dX0_put_0 : decode cX0_put 0 = .ok (.iload_n 1, 1) := by decide +kernel
theorem dX0_put_1 : decode cX0_put 1 = .ok (.invokestatic 31, 3) := by decide +kernel
theorem dX0_put_4 : decode cX0_put 4 = .ok (.aload_n 0, 1) := by decide +kernel
theorem dX0_put_5 : decode cX0_put 5 = .ok (.iload_n 1, 1) := by decide +kernel
theorem dX0_put_6 : decode cX0_put 6 = .ok (.iload_n 2, 1) := by decide +kernel
theorem dX0_put_7 : decode cX0_put 7 = .ok (.invokevirtual 62, 3) := by decide +kernel
theorem dX0_put_10 : decode cX0_put 10 = .ok (.aload_n 0, 1) := by decide +kernel
theorem dX0_put_11 : decode cX0_put 11 = .ok (.aload_n 0, 1) := by decide +kernel
theorem dX0_put_12 : decode cX0_put 12 = .ok (.getfield 13, 3) := by decide +kernel
theorem dX0_put_15 : decode cX0_put 15 = .ok (.iload_n 1, 1) := by decide +kernel
theorem dX0_put_16 : decode cX0_put 16 = .ok (.iaload, 1) := by decide +kernel
theorem dX0_put_17 : decode cX0_put 17 = .ok (.iload_n 2, 1) := by decide +kernel
theorem dX0_put_18 : decode cX0_put 18 = .ok (.iconst 0, 1) := by decide +kernel
theorem dX0_put_19 : decode cX0_put 19 = .ok (.iload_n 3, 1) := by decide +kernel
theorem dX0_put_20 : decode cX0_put 20 = .ok (.invokevirtual 66, 3) := by decide +kernel
theorem dX0_put_23 : decode cX0_put 23 = .ok (.return_, 1) := by decide +kernel
theorem dX0_refer_0 : decode cX0_refer 0 = .ok (.iload_n 1, 1) := by decide +kernel
theorem dX0_refer_1 : decode cX0_refer 1 = .ok (.invokestatic 31, 3) := by decide +kernel
theorem dX0_refer_4 : decode cX0_refer 4 = .ok (.iload_n 3, 1) := by decide +kernel
theorem dX0_refer_5 : decode cX0_refer 5 = .ok (.invokestatic 31, 3) := by decide +kernel
theorem dX0_refer_8 : decode cX0_refer 8 = .ok (.aload_n 0, 1) := by decide +kernel
theorem dX0_refer_9 : decode cX0_refer 9 = .ok (.iload_n 1, 1) := by decide +kernel
theorem dX0_refer_10 : decode cX0_refer 10 = .ok (.iload_n 2, 1) := by decide +kernel
theorem dX0_refer_11 : decode cX0_refer 11 = .ok (.invokevirtual 62, 3) := by decide +kernel
theorem dX0_refer_14 : decode cX0_refer 14 = .ok (.aload_n 0, 1) := by decide +kernel
theorem dX0_refer_15 : decode cX0_refer 15 = .ok (.aload_n 0, 1) := by decide +kernel
theorem dX0_refer_16 : decode cX0_refer 16 = .ok (.getfield 13, 3) := by decide +kernel
theorem dX0_refer_19 : decode cX0_refer 19 = .ok (.iload_n 1, 1) := by decide +kernel
theorem dX0_refer_20 : decode cX0_refer 20 = .ok (.iaload, 1) := by decide +kernel
theorem dX0_refer_21 : decode cX0_refer 21 = .ok (.iload_n 2, 1) := by decide +kernel
theorem dX0_refer_22 : decode cX0_refer 22 = .ok (.iload 4, 2) := by decide +kernel
theorem dX0_refer_24 : decode cX0_refer 24 = .ok (.ifCond .eq 7, 3) := by decide +kernel
theorem dX0_refer_27 : decode cX0_refer 27 = .ok (.iconst 2, 1) := by decide +kernel
theorem dX0_refer_28 : decode cX0_refer 28 = .ok (.goto 4, 3) := by decide +kernel
theorem dX0_refer_31 : decode cX0_refer 31 = .ok (.iconst 1, 1) := by decide +kernel
theorem dX0_refer_32 : decode cX0_refer 32 = .ok (.aload_n 0, 1) := by decide +kernel
theorem dX0_refer_33 : decode cX0_refer 33 = .ok (.getfield 13, 3) := by decide +kernel
theorem dX0_refer_36 : decode cX0_refer 36 = .ok (.iload_n 3, 1) := by decide +kernel
theorem dX0_refer_37 : decode cX0_refer 37 = .ok (.iaload, 1) := by decide +kernel
theorem dX0_refer_38 : decode cX0_refer 38 = .ok (.invokevirtual 66, 3) := by decide +kernel
theorem dX0_refer_41 : decode cX0_refer 41 = .ok (.return_, 1) := by decide +kernel
theorem dX0_follow_0 : decode cX0_follow 0 = .ok (.iload_n 1, 1) := by decide +kernel
theorem dX0_follow_1 : decode cX0_follow 1 = .ok (.invokestatic 31, 3) := by decide +kernel
theorem dX0_follow_4 : decode cX0_follow 4 = .ok (.iload_n 3, 1) := by decide +kernel
theorem dX0_follow_5 : decode cX0_follow 5 = .ok (.invokestatic 31, 3) := by decide +kernel
theorem dX0_follow_8 : decode cX0_follow 8 = .ok (.aload_n 0, 1) := by decide +kernel
theorem dX0_follow_9 : decode cX0_follow 9 = .ok (.iload_n 1, 1) := by decide +kernel
theorem dX0_follow_10 : decode cX0_follow 10 = .ok (.iload_n 2, 1) := by decide +kernel
theorem dX0_follow_11 : decode cX0_follow 11 = .ok (.invokevirtual 62, 3) := by decide +kernel
theorem dX0_follow_14 : decode cX0_follow 14 = .ok (.aload_n 0, 1) := by decide +kernel
theorem dX0_follow_15 : decode cX0_follow 15 = .ok (.aload_n 0, 1) := by decide +kernel
theorem dX0_follow_16 : decode cX0_follow 16 = .ok (.getfield 13, 3) := by decide +kernel
theorem dX0_follow_19 : decode cX0_follow 19 = .ok (.iload_n 1, 1) := by decide +kernel
theorem dX0_follow_20 : decode cX0_follow 20 = .ok (.iaload, 1) := by decide +kernel
theorem dX0_follow_21 : decode cX0_follow 21 = .ok (.iload_n 2, 1) := by decide +kernel
theorem dX0_follow_22 : decode cX0_follow 22 = .ok (.invokevirtual 70, 3) := by decide +kernel
theorem dX0_follow_25 : decode cX0_follow 25 = .ok (.aload_n 0, 1) := by decide +kernel
theorem dX0_follow_26 : decode cX0_follow 26 = .ok (.getfield 13, 3) := by decide +kernel
theorem dX0_follow_29 : decode cX0_follow 29 = .ok (.iload_n 3, 1) := by decide +kernel
theorem dX0_follow_30 : decode cX0_follow 30 = .ok (.aload_n 0, 1) := by decide +kernel
theorem dX0_follow_31 : decode cX0_follow 31 = .ok (.getfield 9, 3) := by decide +kernel
theorem dX0_follow_34 : decode cX0_follow 34 = .ok (.aload_n 0, 1) := by decide +kernel
theorem dX0_follow_35 : decode cX0_follow 35 = .ok (.getfield 13, 3) := by decide +kernel
theorem dX0_follow_38 : decode cX0_follow 38 = .ok (.iload_n 1, 1) := by decide +kernel
theorem dX0_follow_39 : decode cX0_follow 39 = .ok (.iaload, 1) := by decide +kernel
theorem dX0_follow_40 : decode cX0_follow 40 = .ok (.iload_n 2, 1) := by decide +kernel
theorem dX0_follow_41 : decode cX0_follow 41 = .ok (.invokestatic 73, 3) := by decide +kernel
theorem dX0_follow_44 : decode cX0_follow 44 = .ok (.iaload, 1) := by decide +kernel
theorem dX0_follow_45 : decode cX0_follow 45 = .ok (.iastore, 1) := by decide +kernel
theorem dX0_follow_46 : decode cX0_follow 46 = .ok (.aload_n 0, 1) := by decide +kernel
theorem dX0_follow_47 : decode cX0_follow 47 = .ok (.getfield 13, 3) := by decide +kernel
theorem dX0_follow_50 : decode cX0_follow 50 = .ok (.iload_n 3, 1) := by decide +kernel
theorem dX0_follow_51 : decode cX0_follow 51 = .ok (.iaload, 1) := by decide +kernel
theorem dX0_follow_52 : decode cX0_follow 52 = .ok (.iconst (-1), 1) := by decide +kernel
theorem dX0_follow_53 : decode cX0_follow 53 = .ok (.if_icmp .eq 7, 3) := by decide +kernel
theorem dX0_follow_56 : decode cX0_follow 56 = .ok (.iconst 1, 1) := by decide +kernel
theorem dX0_follow_57 : decode cX0_follow 57 = .ok (.goto 4, 3) := by decide +kernel
theorem dX0_follow_60 : decode cX0_follow 60 = .ok (.iconst 0, 1) := by decide +kernel
theorem dX0_follow_61 : decode cX0_follow 61 = .ok (.ireturn, 1) := by decide +kernel
theorem dX0_kind_0 : decode cX0_kind 0 = .ok (.iload_n 1, 1) := by decide +kernel
theorem dX0_kind_1 : decode cX0_kind 1 = .ok (.invokestatic 31, 3) := by decide +kernel
theorem dX0_kind_4 : decode cX0_kind 4 = .ok (.aload_n 0, 1) := by decide +kernel
theorem dX0_kind_5 : decode cX0_kind 5 = .ok (.iload_n 1, 1) := by decide +kernel
theorem dX0_kind_6 : decode cX0_kind 6 = .ok (.iload_n 2, 1) := by decide +kernel
theorem dX0_kind_7 : decode cX0_kind 7 = .ok (.invokevirtual 62, 3) := by decide +kernel
theorem dX0_kind_10 : decode cX0_kind 10 = .ok (.aload_n 0, 1) := by decide +kernel
theorem dX0_kind_11 : decode cX0_kind 11 = .ok (.aload_n 0, 1) := by decide +kernel
theorem dX0_kind_12 : decode cX0_kind 12 = .ok (.getfield 13, 3) := by decide +kernel
theorem dX0_kind_15 : decode cX0_kind 15 = .ok (.iload_n 1, 1) := by decide +kernel
theorem dX0_kind_16 : decode cX0_kind 16 = .ok (.iaload, 1) := by decide +kernel
theorem dX0_kind_17 : decode cX0_kind 17 = .ok (.iload_n 2, 1) := by decide +kernel
theorem dX0_kind_18 : decode cX0_kind 18 = .ok (.invokevirtual 76, 3) := by decide +kernel
theorem dX0_kind_21 : decode cX0_kind 21 = .ok (.ireturn, 1) := by decide +kernel
theorem dX0_serial_0 : decode cX0_serial 0 = .ok (.iload_n 1, 1) := by decide +kernel
theorem dX0_serial_1 : decode cX0_serial 1 = .ok (.invokestatic 31, 3) := by decide +kernel
theorem dX0_serial_4 : decode cX0_serial 4 = .ok (.aload_n 0, 1) := by decide +kernel
theorem dX0_serial_5 : decode cX0_serial 5 = .ok (.getfield 13, 3) := by decide +kernel
theorem dX0_serial_8 : decode cX0_serial 8 = .ok (.iload_n 1, 1) := by decide +kernel
theorem dX0_serial_9 : decode cX0_serial 9 = .ok (.iaload, 1) := by decide +kernel
theorem dX0_serial_10 : decode cX0_serial 10 = .ok (.iconst (-1), 1) := by decide +kernel
theorem dX0_serial_11 : decode cX0_serial 11 = .ok (.if_icmp .ne 7, 3) := by decide +kernel
theorem dX0_serial_14 : decode cX0_serial 14 = .ok (.iconst (-1), 1) := by decide +kernel
theorem dX0_serial_15 : decode cX0_serial 15 = .ok (.goto 16, 3) := by decide +kernel
theorem dX0_serial_18 : decode cX0_serial 18 = .ok (.aload_n 0, 1) := by decide +kernel
theorem dX0_serial_19 : decode cX0_serial 19 = .ok (.getfield 9, 3) := by decide +kernel
theorem dX0_serial_22 : decode cX0_serial 22 = .ok (.aload_n 0, 1) := by decide +kernel
theorem dX0_serial_23 : decode cX0_serial 23 = .ok (.getfield 13, 3) := by decide +kernel
theorem dX0_serial_26 : decode cX0_serial 26 = .ok (.iload_n 1, 1) := by decide +kernel
theorem dX0_serial_27 : decode cX0_serial 27 = .ok (.iaload, 1) := by decide +kernel
theorem dX0_serial_28 : decode cX0_serial 28 = .ok (.iconst 1, 1) := by decide +kernel
theorem dX0_serial_29 : decode cX0_serial 29 = .ok (.iadd, 1) := by decide +kernel
theorem dX0_serial_30 : decode cX0_serial 30 = .ok (.iaload, 1) := by decide +kernel
theorem dX0_serial_31 : decode cX0_serial 31 = .ok (.ireturn, 1) := by decide +kernel
theorem dX0_address_0 : decode cX0_address 0 = .ok (.iload_n 1, 1) := by decide +kernel
theorem dX0_address_1 : decode cX0_address 1 = .ok (.invokestatic 31, 3) := by decide +kernel
theorem dX0_address_4 : decode cX0_address 4 = .ok (.aload_n 0, 1) := by decide +kernel
theorem dX0_address_5 : decode cX0_address 5 = .ok (.getfield 13, 3) := by decide +kernel
theorem dX0_address_8 : decode cX0_address 8 = .ok (.iload_n 1, 1) := by decide +kernel
theorem dX0_address_9 : decode cX0_address 9 = .ok (.iaload, 1) := by decide +kernel
theorem dX0_address_10 : decode cX0_address 10 = .ok (.ireturn, 1) := by decide +kernel
theorem dX0_word_0 : decode cX0_word 0 = .ok (.iload_n 1, 1) := by decide +kernel
theorem dX0_word_1 : decode cX0_word 1 = .ok (.ifCond .lt 10, 3) := by decide +kernel
theorem dX0_word_4 : decode cX0_word 4 = .ok (.iload_n 1, 1) := by decide +kernel
theorem dX0_word_5 : decode cX0_word 5 = .ok (.sipush 256, 3) := by decide +kernel
theorem dX0_word_8 : decode cX0_word 8 = .ok (.if_icmp .lt 13, 3) := by decide +kernel
theorem dX0_word_11 : decode cX0_word 11 = .ok (.new 79, 3) := by decide +kernel
theorem dX0_word_14 : decode cX0_word 14 = .ok (.dup, 1) := by decide +kernel
theorem dX0_word_15 : decode cX0_word 15 = .ok (.ldc 81, 2) := by decide +kernel
theorem dX0_word_17 : decode cX0_word 17 = .ok (.invokespecial 83, 3) := by decide +kernel
theorem dX0_word_20 : decode cX0_word 20 = .ok (.athrow, 1) := by decide +kernel
theorem dX0_word_21 : decode cX0_word 21 = .ok (.aload_n 0, 1) := by decide +kernel
theorem dX0_word_22 : decode cX0_word 22 = .ok (.getfield 9, 3) := by decide +kernel
theorem dX0_word_25 : decode cX0_word 25 = .ok (.iload_n 1, 1) := by decide +kernel
theorem dX0_word_26 : decode cX0_word 26 = .ok (.iaload, 1) := by decide +kernel
theorem dX0_word_27 : decode cX0_word 27 = .ok (.ireturn, 1) := by decide +kernel
theorem dX0_top_0 : decode cX0_top 0 = .ok (.aload_n 0, 1) := by decide +kernel
theorem dX0_top_1 : decode cX0_top 1 = .ok (.getfield 58, 3) := by decide +kernel
theorem dX0_top_4 : decode cX0_top 4 = .ok (.ireturn, 1) := by decide +kernel
theorem dX0_objects_0 : decode cX0_objects 0 = .ok (.aload_n 0, 1) := by decide +kernel
theorem dX0_objects_1 : decode cX0_objects 1 = .ok (.getfield 86, 3) := by decide +kernel
theorem dX0_objects_4 : decode cX0_objects 4 = .ok (.ireturn, 1) := by decide +kernel
theorem dX0_alive_0 : decode cX0_alive 0 = .ok (.aload_n 0, 1) := by decide +kernel
theorem dX0_alive_1 : decode cX0_alive 1 = .ok (.invokevirtual 89, 3) := by decide +kernel
theorem dX0_alive_4 : decode cX0_alive 4 = .ok (.aload_n 0, 1) := by decide +kernel
theorem dX0_alive_5 : decode cX0_alive 5 = .ok (.getfield 92, 3) := by decide +kernel
theorem dX0_alive_8 : decode cX0_alive 8 = .ok (.ireturn, 1) := by decide +kernel
