theorem dX0_init_0 : decode cX0_init 0 = .ok (.aload_n 0, 1) := by decide +kernel
theorem dX0_init_1 : decode cX0_init 1 = .ok (.invokespecial 3, 3) := by decide +kernel
theorem dX0_init_4 : decode cX0_init 4 = .ok (.aload_n 0, 1) := by decide +kernel
theorem dX0_init_5 : decode cX0_init 5 = .ok (.iconst 1, 1) := by decide +kernel
theorem dX0_init_6 : decode cX0_init 6 = .ok (.putfield 9, 3) := by decide +kernel
theorem dX0_init_9 : decode cX0_init 9 = .ok (.aload_n 0, 1) := by decide +kernel
theorem dX0_init_10 : decode cX0_init 10 = .ok (.iload_n 1, 1) := by decide +kernel
theorem dX0_init_11 : decode cX0_init 11 = .ok (.putfield 15, 3) := by decide +kernel
theorem dX0_init_14 : decode cX0_init 14 = .ok (.aload_n 0, 1) := by decide +kernel
theorem dX0_init_15 : decode cX0_init 15 = .ok (.iload_n 2, 1) := by decide +kernel
theorem dX0_init_16 : decode cX0_init 16 = .ok (.putfield 19, 3) := by decide +kernel
theorem dX0_init_19 : decode cX0_init 19 = .ok (.aload_n 0, 1) := by decide +kernel
theorem dX0_init_20 : decode cX0_init 20 = .ok (.iload_n 3, 1) := by decide +kernel
theorem dX0_init_21 : decode cX0_init 21 = .ok (.putfield 22, 3) := by decide +kernel
theorem dX0_init_24 : decode cX0_init 24 = .ok (.aload_n 0, 1) := by decide +kernel
theorem dX0_init_25 : decode cX0_init 25 = .ok (.aload 4, 2) := by decide +kernel
theorem dX0_init_27 : decode cX0_init 27 = .ok (.arraylength, 1) := by decide +kernel
theorem dX0_init_28 : decode cX0_init 28 = .ok (.putfield 25, 3) := by decide +kernel
theorem dX0_init_31 : decode cX0_init 31 = .ok (.aload_n 0, 1) := by decide +kernel
theorem dX0_init_32 : decode cX0_init 32 = .ok (.iconst 0, 1) := by decide +kernel
theorem dX0_init_33 : decode cX0_init 33 = .ok (.putfield 28, 3) := by decide +kernel
theorem dX0_init_36 : decode cX0_init 36 = .ok (.aload_n 0, 1) := by decide +kernel
theorem dX0_init_37 : decode cX0_init 37 = .ok (.lload 5, 2) := by decide +kernel
theorem dX0_init_39 : decode cX0_init 39 = .ok (.putfield 31, 3) := by decide +kernel
theorem dX0_init_42 : decode cX0_init 42 = .ok (.aload_n 0, 1) := by decide +kernel
theorem dX0_init_43 : decode cX0_init 43 = .ok (.aload 4, 2) := by decide +kernel
theorem dX0_init_45 : decode cX0_init 45 = .ok (.putfield 35, 3) := by decide +kernel
theorem dX0_init_48 : decode cX0_init 48 = .ok (.return_, 1) := by decide +kernel
theorem dX0_init__0 : decode cX0_init_ 0 = .ok (.aload_n 0, 1) := by decide +kernel
theorem dX0_init__1 : decode cX0_init_ 1 = .ok (.invokespecial 3, 3) := by decide +kernel
theorem dX0_init__4 : decode cX0_init_ 4 = .ok (.aload_n 0, 1) := by decide +kernel
theorem dX0_init__5 : decode cX0_init_ 5 = .ok (.iconst 1, 1) := by decide +kernel
theorem dX0_init__6 : decode cX0_init_ 6 = .ok (.putfield 9, 3) := by decide +kernel
theorem dX0_init__9 : decode cX0_init_ 9 = .ok (.aload_n 0, 1) := by decide +kernel
theorem dX0_init__10 : decode cX0_init_ 10 = .ok (.iconst 3, 1) := by decide +kernel
theorem dX0_init__11 : decode cX0_init_ 11 = .ok (.putfield 15, 3) := by decide +kernel
theorem dX0_init__14 : decode cX0_init_ 14 = .ok (.aload_n 0, 1) := by decide +kernel
theorem dX0_init__15 : decode cX0_init_ 15 = .ok (.iload_n 1, 1) := by decide +kernel
theorem dX0_init__16 : decode cX0_init_ 16 = .ok (.putfield 19, 3) := by decide +kernel
theorem dX0_init__19 : decode cX0_init_ 19 = .ok (.aload_n 0, 1) := by decide +kernel
theorem dX0_init__20 : decode cX0_init_ 20 = .ok (.iload_n 2, 1) := by decide +kernel
theorem dX0_init__21 : decode cX0_init_ 21 = .ok (.putfield 22, 3) := by decide +kernel
theorem dX0_init__24 : decode cX0_init_ 24 = .ok (.aload_n 0, 1) := by decide +kernel
theorem dX0_init__25 : decode cX0_init_ 25 = .ok (.iload_n 3, 1) := by decide +kernel
theorem dX0_init__26 : decode cX0_init_ 26 = .ok (.putfield 25, 3) := by decide +kernel
theorem dX0_init__29 : decode cX0_init_ 29 = .ok (.aload_n 0, 1) := by decide +kernel
theorem dX0_init__30 : decode cX0_init_ 30 = .ok (.iload 4, 2) := by decide +kernel
theorem dX0_init__32 : decode cX0_init_ 32 = .ok (.putfield 28, 3) := by decide +kernel
theorem dX0_init__35 : decode cX0_init_ 35 = .ok (.aload_n 0, 1) := by decide +kernel
theorem dX0_init__36 : decode cX0_init_ 36 = .ok (.lload 5, 2) := by decide +kernel
theorem dX0_init__38 : decode cX0_init_ 38 = .ok (.putfield 31, 3) := by decide +kernel
theorem dX0_init__41 : decode cX0_init_ 41 = .ok (.aload_n 0, 1) := by decide +kernel
theorem dX0_init__42 : decode cX0_init_ 42 = .ok (.getstatic 39, 3) := by decide +kernel
theorem dX0_init__45 : decode cX0_init_ 45 = .ok (.putfield 35, 3) := by decide +kernel
theorem dX0_init__48 : decode cX0_init_ 48 = .ok (.return_, 1) := by decide +kernel
theorem dX0_octetAt_0 : decode cX0_octetAt 0 = .ok (.iload_n 1, 1) := by decide +kernel
theorem dX0_octetAt_1 : decode cX0_octetAt 1 = .ok (.ifCond .lt 25, 3) := by decide +kernel
theorem dX0_octetAt_4 : decode cX0_octetAt 4 = .ok (.iload_n 1, 1) := by decide +kernel
theorem dX0_octetAt_5 : decode cX0_octetAt 5 = .ok (.aload_n 0, 1) := by decide +kernel
theorem dX0_octetAt_6 : decode cX0_octetAt 6 = .ok (.getfield 35, 3) := by decide +kernel
theorem dX0_octetAt_9 : decode cX0_octetAt 9 = .ok (.arraylength, 1) := by decide +kernel
theorem dX0_octetAt_10 : decode cX0_octetAt 10 = .ok (.if_icmp .ge 16, 3) := by decide +kernel
theorem dX0_octetAt_13 : decode cX0_octetAt 13 = .ok (.aload_n 0, 1) := by decide +kernel
theorem dX0_octetAt_14 : decode cX0_octetAt 14 = .ok (.getfield 35, 3) := by decide +kernel
theorem dX0_octetAt_17 : decode cX0_octetAt 17 = .ok (.iload_n 1, 1) := by decide +kernel
theorem dX0_octetAt_18 : decode cX0_octetAt 18 = .ok (.baload, 1) := by decide +kernel
theorem dX0_octetAt_19 : decode cX0_octetAt 19 = .ok (.sipush 255, 3) := by decide +kernel
theorem dX0_octetAt_22 : decode cX0_octetAt 22 = .ok (.iand, 1) := by decide +kernel
theorem dX0_octetAt_23 : decode cX0_octetAt 23 = .ok (.goto 4, 3) := by decide +kernel
theorem dX0_octetAt_26 : decode cX0_octetAt 26 = .ok (.iconst 0, 1) := by decide +kernel
theorem dX0_octetAt_27 : decode cX0_octetAt 27 = .ok (.ireturn, 1) := by decide +kernel
theorem dX1_init_0 : decode cX1_init 0 = .ok (.aload_n 0, 1) := by decide +kernel
theorem dX1_init_1 : decode cX1_init 1 = .ok (.invokespecial 3, 3) := by decide +kernel
theorem dX1_init_4 : decode cX1_init 4 = .ok (.aload_n 0, 1) := by decide +kernel
theorem dX1_init_5 : decode cX1_init 5 = .ok (.iconst 0, 1) := by decide +kernel
theorem dX1_init_6 : decode cX1_init 6 = .ok (.putfield 9, 3) := by decide +kernel
theorem dX1_init_9 : decode cX1_init 9 = .ok (.aload_n 0, 1) := by decide +kernel
theorem dX1_init_10 : decode cX1_init 10 = .ok (.getstatic 15, 3) := by decide +kernel
theorem dX1_init_13 : decode cX1_init 13 = .ok (.putfield 19, 3) := by decide +kernel
theorem dX1_init_16 : decode cX1_init 16 = .ok (.aload_n 0, 1) := by decide +kernel
theorem dX1_init_17 : decode cX1_init 17 = .ok (.ldc2_w 22, 3) := by decide +kernel
theorem dX1_init_20 : decode cX1_init 20 = .ok (.putfield 24, 3) := by decide +kernel
theorem dX1_init_23 : decode cX1_init 23 = .ok (.aload_n 0, 1) := by decide +kernel
theorem dX1_init_24 : decode cX1_init 24 = .ok (.ldc2_w 22, 3) := by decide +kernel
theorem dX1_init_27 : decode cX1_init 27 = .ok (.putfield 28, 3) := by decide +kernel
theorem dX1_init_30 : decode cX1_init 30 = .ok (.return_, 1) := by decide +kernel
theorem dX1_isWhole_0 : decode cX1_isWhole 0 = .ok (.aload_n 0, 1) := by decide +kernel
theorem dX1_isWhole_1 : decode cX1_isWhole 1 = .ok (.getfield 31, 3) := by decide +kernel
theorem dX1_isWhole_4 : decode cX1_isWhole 4 = .ok (.aload_n 0, 1) := by decide +kernel
theorem dX1_isWhole_5 : decode cX1_isWhole 5 = .ok (.getfield 19, 3) := by decide +kernel
theorem dX1_isWhole_8 : decode cX1_isWhole 8 = .ok (.arraylength, 1) := by decide +kernel
theorem dX1_isWhole_9 : decode cX1_isWhole 9 = .ok (.if_icmp .lt 7, 3) := by decide +kernel
theorem dX1_isWhole_12 : decode cX1_isWhole 12 = .ok (.iconst 1, 1) := by decide +kernel
theorem dX1_isWhole_13 : decode cX1_isWhole 13 = .ok (.goto 4, 3) := by decide +kernel
theorem dX1_isWhole_16 : decode cX1_isWhole 16 = .ok (.iconst 0, 1) := by decide +kernel
theorem dX1_isWhole_17 : decode cX1_isWhole 17 = .ok (.ireturn, 1) := by decide +kernel
theorem dX1_isReceiving_0 : decode cX1_isReceiving 0 = .ok (.aload_n 0, 1) := by decide +kernel
theorem dX1_isReceiving_1 : decode cX1_isReceiving 1 = .ok (.getfield 9, 3) := by decide +kernel
theorem dX1_isReceiving_4 : decode cX1_isReceiving 4 = .ok (.iconst 1, 1) := by decide +kernel
theorem dX1_isReceiving_5 : decode cX1_isReceiving 5 = .ok (.if_icmp .ne 15, 3) := by decide +kernel
theorem dX1_isReceiving_8 : decode cX1_isReceiving 8 = .ok (.aload_n 0, 1) := by decide +kernel
theorem dX1_isReceiving_9 : decode cX1_isReceiving 9 = .ok (.getfield 34, 3) := by decide +kernel
theorem dX1_isReceiving_12 : decode cX1_isReceiving 12 = .ok (.iload_n 1, 1) := by decide +kernel
theorem dX1_isReceiving_13 : decode cX1_isReceiving 13 = .ok (.if_icmp .ne 7, 3) := by decide +kernel
theorem dX1_isReceiving_16 : decode cX1_isReceiving 16 = .ok (.iconst 1, 1) := by decide +kernel
theorem dX1_isReceiving_17 : decode cX1_isReceiving 17 = .ok (.goto 4, 3) := by decide +kernel
theorem dX1_isReceiving_20 : decode cX1_isReceiving 20 = .ok (.iconst 0, 1) := by decide +kernel
theorem dX1_isReceiving_21 : decode cX1_isReceiving 21 = .ok (.ireturn, 1) := by decide +kernel
theorem dX1_wakeAt_0 : decode cX1_wakeAt 0 = .ok (.aload_n 0, 1) := by decide +kernel
theorem dX1_wakeAt_1 : decode cX1_wakeAt 1 = .ok (.getfield 24, 3) := by decide +kernel
theorem dX1_wakeAt_4 : decode cX1_wakeAt 4 = .ok (.aload_n 0, 1) := by decide +kernel
theorem dX1_wakeAt_5 : decode cX1_wakeAt 5 = .ok (.getfield 28, 3) := by decide +kernel
theorem dX1_wakeAt_8 : decode cX1_wakeAt 8 = .ok (.invokestatic 37, 3) := by decide +kernel
theorem dX1_wakeAt_11 : decode cX1_wakeAt 11 = .ok (.lreturn, 1) := by decide +kernel
theorem dX1_begin_0 : decode cX1_begin 0 = .ok (.aload_n 0, 1) := by decide +kernel
theorem dX1_begin_1 : decode cX1_begin 1 = .ok (.iconst 1, 1) := by decide +kernel
theorem dX1_begin_2 : decode cX1_begin 2 = .ok (.putfield 9, 3) := by decide +kernel
theorem dX1_begin_5 : decode cX1_begin 5 = .ok (.aload_n 0, 1) := by decide +kernel
theorem dX1_begin_6 : decode cX1_begin 6 = .ok (.iload_n 1, 1) := by decide +kernel
theorem dX1_begin_7 : decode cX1_begin 7 = .ok (.putfield 34, 3) := by decide +kernel
theorem dX1_begin_10 : decode cX1_begin 10 = .ok (.aload_n 0, 1) := by decide +kernel
theorem dX1_begin_11 : decode cX1_begin 11 = .ok (.iload_n 2, 1) := by decide +kernel
theorem dX1_begin_12 : decode cX1_begin 12 = .ok (.ifCond .le 16, 3) := by decide +kernel
theorem dX1_begin_15 : decode cX1_begin 15 = .ok (.iload_n 2, 1) := by decide +kernel
theorem dX1_begin_16 : decode cX1_begin 16 = .ok (.sipush 10000, 3) := by decide +kernel
theorem dX1_begin_19 : decode cX1_begin 19 = .ok (.if_icmp .gt 9, 3) := by decide +kernel
theorem dX1_begin_22 : decode cX1_begin 22 = .ok (.iload_n 2, 1) := by decide +kernel
theorem dX1_begin_23 : decode cX1_begin 23 = .ok (.newarray .byte, 2) := by decide +kernel
theorem dX1_begin_25 : decode cX1_begin 25 = .ok (.goto 6, 3) := by decide +kernel
theorem dX1_begin_28 : decode cX1_begin 28 = .ok (.getstatic 15, 3) := by decide +kernel
theorem dX1_begin_31 : decode cX1_begin 31 = .ok (.putfield 19, 3) := by decide +kernel
theorem dX1_begin_34 : decode cX1_begin 34 = .ok (.aload_n 0, 1) := by decide +kernel
theorem dX1_begin_35 : decode cX1_begin 35 = .ok (.iconst 0, 1) := by decide +kernel
theorem dX1_begin_36 : decode cX1_begin 36 = .ok (.putfield 31, 3) := by decide +kernel
theorem dX1_begin_39 : decode cX1_begin 39 = .ok (.aload_n 0, 1) := by decide +kernel
theorem dX1_begin_40 : decode cX1_begin 40 = .ok (.iconst 1, 1) := by decide +kernel
theorem dX1_begin_41 : decode cX1_begin 41 = .ok (.putfield 43, 3) := by decide +kernel
theorem dX1_begin_44 : decode cX1_begin 44 = .ok (.aload_n 0, 1) := by decide +kernel
theorem dX1_begin_45 : decode cX1_begin 45 = .ok (.iconst 0, 1) := by decide +kernel
theorem dX1_begin_46 : decode cX1_begin 46 = .ok (.putfield 46, 3) := by decide +kernel
theorem dX1_begin_49 : decode cX1_begin 49 = .ok (.aload_n 0, 1) := by decide +kernel
theorem dX1_begin_50 : decode cX1_begin 50 = .ok (.iconst 0, 1) := by decide +kernel
theorem dX1_begin_51 : decode cX1_begin 51 = .ok (.putfield 49, 3) := by decide +kernel
theorem dX1_begin_54 : decode cX1_begin 54 = .ok (.return_, 1) := by decide +kernel
theorem dX1_take_0 : decode cX1_take 0 = .ok (.aload_n 1, 1) := by decide +kernel
theorem dX1_take_1 : decode cX1_take 1 = .ok (.arraylength, 1) := by decide +kernel
theorem dX1_take_2 : decode cX1_take 2 = .ok (.aload_n 0, 1) := by decide +kernel
theorem dX1_take_3 : decode cX1_take 3 = .ok (.getfield 19, 3) := by decide +kernel
theorem dX1_take_6 : decode cX1_take 6 = .ok (.arraylength, 1) := by decide +kernel
theorem dX1_take_7 : decode cX1_take 7 = .ok (.aload_n 0, 1) := by decide +kernel
theorem dX1_take_8 : decode cX1_take 8 = .ok (.getfield 31, 3) := by decide +kernel
theorem dX1_take_11 : decode cX1_take 11 = .ok (.isub, 1) := by decide +kernel
theorem dX1_take_12 : decode cX1_take 12 = .ok (.invokestatic 52, 3) := by decide +kernel
theorem dX1_take_15 : decode cX1_take 15 = .ok (.istore 4, 2) := by decide +kernel
theorem dX1_take_17 : decode cX1_take 17 = .ok (.iload 4, 2) := by decide +kernel
theorem dX1_take_19 : decode cX1_take 19 = .ok (.ifCond .le 29, 3) := by decide +kernel
theorem dX1_take_22 : decode cX1_take 22 = .ok (.aload_n 1, 1) := by decide +kernel
theorem dX1_take_23 : decode cX1_take 23 = .ok (.iconst 0, 1) := by decide +kernel
theorem dX1_take_24 : decode cX1_take 24 = .ok (.aload_n 0, 1) := by decide +kernel
theorem dX1_take_25 : decode cX1_take 25 = .ok (.getfield 19, 3) := by decide +kernel
theorem dX1_take_28 : decode cX1_take 28 = .ok (.aload_n 0, 1) := by decide +kernel
theorem dX1_take_29 : decode cX1_take 29 = .ok (.getfield 31, 3) := by decide +kernel
theorem dX1_take_32 : decode cX1_take 32 = .ok (.iload 4, 2) := by decide +kernel
theorem dX1_take_34 : decode cX1_take 34 = .ok (.invokestatic 55, 3) := by decide +kernel
theorem dX1_take_37 : decode cX1_take 37 = .ok (.aload_n 0, 1) := by decide +kernel
theorem dX1_take_38 : decode cX1_take 38 = .ok (.dup, 1) := by decide +kernel
theorem dX1_take_39 : decode cX1_take 39 = .ok (.getfield 31, 3) := by decide +kernel
theorem dX1_take_42 : decode cX1_take 42 = .ok (.iload 4, 2) := by decide +kernel
theorem dX1_take_44 : decode cX1_take 44 = .ok (.iadd, 1) := by decide +kernel
theorem dX1_take_45 : decode cX1_take 45 = .ok (.putfield 31, 3) := by decide +kernel
theorem dX1_take_48 : decode cX1_take 48 = .ok (.aload_n 0, 1) := by decide +kernel
theorem dX1_take_49 : decode cX1_take 49 = .ok (.ldc2_w 22, 3) := by decide +kernel
theorem dX1_take_52 : decode cX1_take 52 = .ok (.putfield 24, 3) := by decide +kernel
theorem dX1_take_55 : decode cX1_take 55 = .ok (.aload_n 0, 1) := by decide +kernel
theorem dX1_take_56 : decode cX1_take 56 = .ok (.lload_n 2, 1) := by decide +kernel
theorem dX1_take_57 : decode cX1_take 57 = .ok (.ldc2_w 61, 3) := by decide +kernel
theorem dX1_take_60 : decode cX1_take 60 = .ok (.ladd, 1) := by decide +kernel
theorem dX1_take_61 : decode cX1_take 61 = .ok (.putfield 28, 3) := by decide +kernel
theorem dX1_take_64 : decode cX1_take 64 = .ok (.return_, 1) := by decide +kernel
theorem dX1_rest_0 : decode cX1_rest 0 = .ok (.aload_n 0, 1) := by decide +kernel
theorem dX1_rest_1 : decode cX1_rest 1 = .ok (.iload_n 1, 1) := by decide +kernel
theorem dX1_rest_2 : decode cX1_rest 2 = .ok (.putfield 9, 3) := by decide +kernel
theorem dX1_rest_5 : decode cX1_rest 5 = .ok (.aload_n 0, 1) := by decide +kernel
theorem dX1_rest_6 : decode cX1_rest 6 = .ok (.ldc2_w 22, 3) := by decide +kernel
theorem dX1_rest_9 : decode cX1_rest 9 = .ok (.putfield 24, 3) := by decide +kernel
theorem dX1_rest_12 : decode cX1_rest 12 = .ok (.aload_n 0, 1) := by decide +kernel
theorem dX1_rest_13 : decode cX1_rest 13 = .ok (.ldc2_w 22, 3) := by decide +kernel
theorem dX1_rest_16 : decode cX1_rest 16 = .ok (.putfield 28, 3) := by decide +kernel
theorem dX1_rest_19 : decode cX1_rest 19 = .ok (.return_, 1) := by decide +kernel
theorem dX2_init_0 : decode cX2_init 0 = .ok (.aload_n 0, 1) := by decide +kernel
theorem dX2_init_1 : decode cX2_init 1 = .ok (.invokespecial 3, 3) := by decide +kernel
theorem dX2_init_4 : decode cX2_init 4 = .ok (.aload_n 0, 1) := by decide +kernel
theorem dX2_init_5 : decode cX2_init 5 = .ok (.iconst 0, 1) := by decide +kernel
theorem dX2_init_6 : decode cX2_init 6 = .ok (.putfield 9, 3) := by decide +kernel
theorem dX2_init_9 : decode cX2_init 9 = .ok (.aload_n 0, 1) := by decide +kernel
theorem dX2_init_10 : decode cX2_init 10 = .ok (.iconst 1, 1) := by decide +kernel
theorem dX2_init_11 : decode cX2_init 11 = .ok (.putfield 15, 3) := by decide +kernel
theorem dX2_init_14 : decode cX2_init 14 = .ok (.aload_n 0, 1) := by decide +kernel
theorem dX2_init_15 : decode cX2_init 15 = .ok (.ldc2_w 18, 3) := by decide +kernel
theorem dX2_init_18 : decode cX2_init 18 = .ok (.putfield 20, 3) := by decide +kernel
theorem dX2_init_21 : decode cX2_init 21 = .ok (.aload_n 0, 1) := by decide +kernel
theorem dX2_init_22 : decode cX2_init 22 = .ok (.iload_n 1, 1) := by decide +kernel
theorem dX2_init_23 : decode cX2_init 23 = .ok (.putfield 24, 3) := by decide +kernel
theorem dX2_init_26 : decode cX2_init 26 = .ok (.aload_n 0, 1) := by decide +kernel
theorem dX2_init_27 : decode cX2_init 27 = .ok (.aload_n 2, 1) := by decide +kernel
theorem dX2_init_28 : decode cX2_init 28 = .ok (.putfield 27, 3) := by decide +kernel
theorem dX2_init_31 : decode cX2_init 31 = .ok (.return_, 1) := by decide +kernel
theorem dX2_isAllFramed_0 : decode cX2_isAllFramed 0 = .ok (.aload_n 0, 1) := by decide +kernel
theorem dX2_isAllFramed_1 : decode cX2_isAllFramed 1 = .ok (.getfield 31, 3) := by decide +kernel
theorem dX2_isAllFramed_4 : decode cX2_isAllFramed 4 = .ok (.aload_n 0, 1) := by decide +kernel
theorem dX2_isAllFramed_5 : decode cX2_isAllFramed 5 = .ok (.getfield 27, 3) := by decide +kernel
theorem dX2_isAllFramed_8 : decode cX2_isAllFramed 8 = .ok (.arraylength, 1) := by decide +kernel
theorem dX2_isAllFramed_9 : decode cX2_isAllFramed 9 = .ok (.if_icmp .lt 7, 3) := by decide +kernel
theorem dX2_isAllFramed_12 : decode cX2_isAllFramed 12 = .ok (.iconst 1, 1) := by decide +kernel
theorem dX2_isAllFramed_13 : decode cX2_isAllFramed 13 = .ok (.goto 4, 3) := by decide +kernel
theorem dX2_isAllFramed_16 : decode cX2_isAllFramed 16 = .ok (.iconst 0, 1) := by decide +kernel
theorem dX2_isAllFramed_17 : decode cX2_isAllFramed 17 = .ok (.ireturn, 1) := by decide +kernel
theorem dX2_awaitFlow_0 : decode cX2_awaitFlow 0 = .ok (.aload_n 0, 1) := by decide +kernel
theorem dX2_awaitFlow_1 : decode cX2_awaitFlow 1 = .ok (.iconst 1, 1) := by decide +kernel
theorem dX2_awaitFlow_2 : decode cX2_awaitFlow 2 = .ok (.putfield 9, 3) := by decide +kernel
theorem dX2_awaitFlow_5 : decode cX2_awaitFlow 5 = .ok (.aload_n 0, 1) := by decide +kernel
theorem dX2_awaitFlow_6 : decode cX2_awaitFlow 6 = .ok (.lload_n 1, 1) := by decide +kernel
theorem dX2_awaitFlow_7 : decode cX2_awaitFlow 7 = .ok (.ldc2_w 34, 3) := by decide +kernel
theorem dX2_awaitFlow_10 : decode cX2_awaitFlow 10 = .ok (.ladd, 1) := by decide +kernel
theorem dX2_awaitFlow_11 : decode cX2_awaitFlow 11 = .ok (.putfield 20, 3) := by decide +kernel
theorem dX2_awaitFlow_14 : decode cX2_awaitFlow 14 = .ok (.return_, 1) := by decide +kernel
theorem dX2_goOn_0 : decode cX2_goOn 0 = .ok (.aload_n 0, 1) := by decide +kernel
theorem dX2_goOn_1 : decode cX2_goOn 1 = .ok (.iconst 2, 1) := by decide +kernel
theorem dX2_goOn_2 : decode cX2_goOn 2 = .ok (.putfield 9, 3) := by decide +kernel
theorem dX2_goOn_5 : decode cX2_goOn 5 = .ok (.aload_n 0, 1) := by decide +kernel
theorem dX2_goOn_6 : decode cX2_goOn 6 = .ok (.iload_n 1, 1) := by decide +kernel
theorem dX2_goOn_7 : decode cX2_goOn 7 = .ok (.putfield 36, 3) := by decide +kernel
theorem dX2_goOn_10 : decode cX2_goOn 10 = .ok (.aload_n 0, 1) := by decide +kernel
theorem dX2_goOn_11 : decode cX2_goOn 11 = .ok (.iload_n 2, 1) := by decide +kernel
theorem dX2_goOn_12 : decode cX2_goOn 12 = .ok (.putfield 39, 3) := by decide +kernel
theorem dX2_goOn_15 : decode cX2_goOn 15 = .ok (.aload_n 0, 1) := by decide +kernel
theorem dX2_goOn_16 : decode cX2_goOn 16 = .ok (.lload_n 3, 1) := by decide +kernel
theorem dX2_goOn_17 : decode cX2_goOn 17 = .ok (.putfield 20, 3) := by decide +kernel
theorem dX2_goOn_20 : decode cX2_goOn 20 = .ok (.return_, 1) := by decide +kernel
theorem dX2_rest_0 : decode cX2_rest 0 = .ok (.aload_n 0, 1) := by decide +kernel
theorem dX2_rest_1 : decode cX2_rest 1 = .ok (.iload_n 1, 1) := by decide +kernel
theorem dX2_rest_2 : decode cX2_rest 2 = .ok (.putfield 9, 3) := by decide +kernel
theorem dX2_rest_5 : decode cX2_rest 5 = .ok (.aload_n 0, 1) := by decide +kernel
theorem dX2_rest_6 : decode cX2_rest 6 = .ok (.ldc2_w 18, 3) := by decide +kernel
theorem dX2_rest_9 : decode cX2_rest 9 = .ok (.putfield 20, 3) := by decide +kernel
theorem dX2_rest_12 : decode cX2_rest 12 = .ok (.return_, 1) := by decide +kernel
set_option maxRecDepth 20000 in
theorem ggX2_cutNext_J7_copyOfRange_39247 : GoodIn wsX2_cutNext wsJ7_copyOfRange_39247 := goodIn_r _ [10, 11, 12, 13, 14, 15, 16, 17, 18, 9, 19, 20, 21, 4, 5, 6, 22, 23, 24, 25, 26, 27, 28] (by decide +kernel) (by decide +kernel)
set_option maxRecDepth 20000 in
theorem gX2_cutNext_J7_copyOfRange_39247 : GoodIn wsX2_cutNext (va_wsS RX2 48 yJ7_copyOfRange_39247 wsJ7_copyOfRange_39247) := goodIn_app (goodIn_of _ (by decide +kernel)) ggX2_cutNext_J7_copyOfRange_39247
theorem dX2_cutNext_0 : decode cX2_cutNext 0 = .ok (.aload_n 0, 1) := by decide +kernel
theorem dX2_cutNext_1 : decode cX2_cutNext 1 = .ok (.getfield 31, 3) := by decide +kernel
theorem dX2_cutNext_4 : decode cX2_cutNext 4 = .ok (.aload_n 0, 1) := by decide +kernel
theorem dX2_cutNext_5 : decode cX2_cutNext 5 = .ok (.getfield 27, 3) := by decide +kernel
theorem dX2_cutNext_8 : decode cX2_cutNext 8 = .ok (.arraylength, 1) := by decide +kernel
theorem dX2_cutNext_9 : decode cX2_cutNext 9 = .ok (.invokestatic 42, 3) := by decide +kernel
theorem dX2_cutNext_12 : decode cX2_cutNext 12 = .ok (.istore_n 2, 1) := by decide +kernel
theorem dX2_cutNext_13 : decode cX2_cutNext 13 = .ok (.iload_n 2, 1) := by decide +kernel
theorem dX2_cutNext_14 : decode cX2_cutNext 14 = .ok (.iload_n 1, 1) := by decide +kernel
theorem dX2_cutNext_15 : decode cX2_cutNext 15 = .ok (.iadd, 1) := by decide +kernel
theorem dX2_cutNext_16 : decode cX2_cutNext 16 = .ok (.aload_n 0, 1) := by decide +kernel
theorem dX2_cutNext_17 : decode cX2_cutNext 17 = .ok (.getfield 27, 3) := by decide +kernel
theorem dX2_cutNext_20 : decode cX2_cutNext 20 = .ok (.arraylength, 1) := by decide +kernel
theorem dX2_cutNext_21 : decode cX2_cutNext 21 = .ok (.invokestatic 42, 3) := by decide +kernel
theorem dX2_cutNext_24 : decode cX2_cutNext 24 = .ok (.istore_n 3, 1) := by decide +kernel
theorem dX2_cutNext_25 : decode cX2_cutNext 25 = .ok (.aload_n 0, 1) := by decide +kernel
theorem dX2_cutNext_26 : decode cX2_cutNext 26 = .ok (.iload_n 3, 1) := by decide +kernel
theorem dX2_cutNext_27 : decode cX2_cutNext 27 = .ok (.putfield 31, 3) := by decide +kernel
theorem dX2_cutNext_30 : decode cX2_cutNext 30 = .ok (.aload_n 0, 1) := by decide +kernel
theorem dX2_cutNext_31 : decode cX2_cutNext 31 = .ok (.getfield 27, 3) := by decide +kernel
theorem dX2_cutNext_34 : decode cX2_cutNext 34 = .ok (.iload_n 2, 1) := by decide +kernel
theorem dX2_cutNext_35 : decode cX2_cutNext 35 = .ok (.iload_n 3, 1) := by decide +kernel
theorem dX2_cutNext_36 : decode cX2_cutNext 36 = .ok (.invokestatic 48, 3) := by decide +kernel
theorem dX2_cutNext_39 : decode cX2_cutNext 39 = .ok (.areturn, 1) := by decide +kernel
set_option maxRecDepth 20000 in
theorem ggX3_init_Jx4a65c_init_da8c8 : GoodIn wsX3_init wsJx4a65c_init_da8c8 := goodIn_r _ [23, 24, 25, 26, 27, 28, 29, 30, 31, 32, 33, 34, 35, 2, 3, 44, 45, 46] (by decide +kernel) (by decide +kernel)
set_option maxRecDepth 20000 in
theorem gX3_init_Jx4a65c_init_da8c8 : GoodIn wsX3_init (wsJx4a65c_init_da8c8) := ggX3_init_Jx4a65c_init_da8c8
set_option maxRecDepth 20000 in
theorem ggX3_init_X1_init : GoodIn wsX3_init wsX1_init := goodIn_r _ [37, 38, 2, 3, 39, 40, 41, 42, 43, 61, 62, 63, 64, 65, 66, 67, 68, 69] (by decide +kernel) (by decide +kernel)
set_option maxRecDepth 20000 in
theorem gX3_init_X1_init_n47 : GoodIn wsX3_init (wsX1_init) := ggX3_init_X1_init
theorem dX3_init_0 : decode cX3_init 0 = .ok (.aload_n 0, 1) := by decide +kernel
theorem dX3_init_1 : decode cX3_init 1 = .ok (.invokespecial 1, 3) := by decide +kernel
theorem dX3_init_4 : decode cX3_init 4 = .ok (.aload_n 0, 1) := by decide +kernel
theorem dX3_init_5 : decode cX3_init 5 = .ok (.new 7, 3) := by decide +kernel
theorem dX3_init_8 : decode cX3_init 8 = .ok (.dup, 1) := by decide +kernel
theorem dX3_init_9 : decode cX3_init 9 = .ok (.invokespecial 9, 3) := by decide +kernel
theorem dX3_init_12 : decode cX3_init 12 = .ok (.putfield 10, 3) := by decide +kernel
theorem dX3_init_15 : decode cX3_init 15 = .ok (.aload_n 0, 1) := by decide +kernel
theorem dX3_init_16 : decode cX3_init 16 = .ok (.new 7, 3) := by decide +kernel
theorem dX3_init_19 : decode cX3_init 19 = .ok (.dup, 1) := by decide +kernel
theorem dX3_init_20 : decode cX3_init 20 = .ok (.invokespecial 9, 3) := by decide +kernel
theorem dX3_init_23 : decode cX3_init 23 = .ok (.putfield 16, 3) := by decide +kernel
theorem dX3_init_26 : decode cX3_init 26 = .ok (.aload_n 0, 1) := by decide +kernel
theorem dX3_init_27 : decode cX3_init 27 = .ok (.iconst 4, 1) := by decide +kernel
theorem dX3_init_28 : decode cX3_init 28 = .ok (.anewarray 19, 3) := by decide +kernel
theorem dX3_init_31 : decode cX3_init 31 = .ok (.putfield 21, 3) := by decide +kernel
theorem dX3_init_34 : decode cX3_init 34 = .ok (.aload_n 0, 1) := by decide +kernel
theorem dX3_init_35 : decode cX3_init 35 = .ok (.bipush 8, 2) := by decide +kernel
theorem dX3_init_37 : decode cX3_init 37 = .ok (.newarray .int, 2) := by decide +kernel
theorem dX3_init_39 : decode cX3_init 39 = .ok (.putfield 25, 3) := by decide +kernel
theorem dX3_init_42 : decode cX3_init 42 = .ok (.aload_n 0, 1) := by decide +kernel
theorem dX3_init_43 : decode cX3_init 43 = .ok (.getstatic 29, 3) := by decide +kernel
theorem dX3_init_46 : decode cX3_init 46 = .ok (.putfield 33, 3) := by decide +kernel
theorem dX3_init_49 : decode cX3_init 49 = .ok (.aload_n 0, 1) := by decide +kernel
theorem dX3_init_50 : decode cX3_init 50 = .ok (.iconst 0, 1) := by decide +kernel
theorem dX3_init_51 : decode cX3_init 51 = .ok (.putfield 36, 3) := by decide +kernel
theorem dX3_init_54 : decode cX3_init 54 = .ok (.aload_n 0, 1) := by decide +kernel
theorem dX3_init_55 : decode cX3_init 55 = .ok (.iconst 3, 1) := by decide +kernel
theorem dX3_init_56 : decode cX3_init 56 = .ok (.putfield 40, 3) := by decide +kernel
theorem dX3_init_59 : decode cX3_init 59 = .ok (.aload_n 0, 1) := by decide +kernel
theorem dX3_init_60 : decode cX3_init 60 = .ok (.iload_n 1, 1) := by decide +kernel
theorem dX3_init_61 : decode cX3_init 61 = .ok (.ifCond .lt 13, 3) := by decide +kernel
theorem dX3_init_64 : decode cX3_init 64 = .ok (.iload_n 1, 1) := by decide +kernel
theorem dX3_init_65 : decode cX3_init 65 = .ok (.ldc 43, 2) := by decide +kernel
theorem dX3_init_67 : decode cX3_init 67 = .ok (.if_icmp .gt 7, 3) := by decide +kernel
theorem dX3_init_70 : decode cX3_init 70 = .ok (.iload_n 1, 1) := by decide +kernel
theorem dX3_init_71 : decode cX3_init 71 = .ok (.goto 6, 3) := by decide +kernel
theorem dX3_init_74 : decode cX3_init 74 = .ok (.sipush 4095, 3) := by decide +kernel
theorem dX3_init_77 : decode cX3_init 77 = .ok (.putfield 44, 3) := by decide +kernel
theorem dX3_init_80 : decode cX3_init 80 = .ok (.iconst 0, 1) := by decide +kernel
theorem dX3_init_81 : decode cX3_init 81 = .ok (.istore_n 2, 1) := by decide +kernel
theorem dX3_init_82 : decode cX3_init 82 = .ok (.iload_n 2, 1) := by decide +kernel
theorem dX3_init_83 : decode cX3_init 83 = .ok (.aload_n 0, 1) := by decide +kernel
theorem dX3_init_84 : decode cX3_init 84 = .ok (.getfield 21, 3) := by decide +kernel
theorem dX3_init_87 : decode cX3_init 87 = .ok (.arraylength, 1) := by decide +kernel
theorem dX3_init_88 : decode cX3_init 88 = .ok (.if_icmp .ge 22, 3) := by decide +kernel
theorem dX3_init_91 : decode cX3_init 91 = .ok (.aload_n 0, 1) := by decide +kernel
theorem dX3_init_92 : decode cX3_init 92 = .ok (.getfield 21, 3) := by decide +kernel
theorem dX3_init_95 : decode cX3_init 95 = .ok (.iload_n 2, 1) := by decide +kernel
theorem dX3_init_96 : decode cX3_init 96 = .ok (.new 19, 3) := by decide +kernel
theorem dX3_init_99 : decode cX3_init 99 = .ok (.dup, 1) := by decide +kernel
theorem dX3_init_100 : decode cX3_init 100 = .ok (.invokespecial 47, 3) := by decide +kernel
theorem dX3_init_103 : decode cX3_init 103 = .ok (.aastore, 1) := by decide +kernel
theorem dX3_init_104 : decode cX3_init 104 = .ok (.iinc 2 1, 3) := by decide +kernel
theorem dX3_init_107 : decode cX3_init 107 = .ok (.goto (-25), 3) := by decide +kernel
theorem dX3_init_110 : decode cX3_init 110 = .ok (.return_, 1) := by decide +kernel
set_option maxRecDepth 20000 in
theorem ggX3_send_Jx4a65c_size_8abf5 : GoodIn wsX3_send wsJx4a65c_size_8abf5 := goodIn_r _ [11, 12, 102, 103, 104] (by decide +kernel) (by decide +kernel)
set_option maxRecDepth 20000 in
theorem gX3_send_Jx4a65c_size_8abf5 : GoodIn wsX3_send (wsV RX3 48 RJx4a65c yJx4a65c_size_8abf5 wsJx4a65c_size_8abf5) := goodIn_app (goodIn_of _ (by decide +kernel)) ggX3_send_Jx4a65c_size_8abf5
set_option maxRecDepth 20000 in
theorem ggX3_send_X2_init : GoodIn wsX3_send wsX2_init := goodIn_r _ [15, 16, 17, 18, 19, 20, 21, 22, 23, 24, 93, 94, 95, 96, 97, 98, 99, 100, 101] (by decide +kernel) (by decide +kernel)
set_option maxRecDepth 20000 in
theorem gX3_send_X2_init : GoodIn wsX3_send (wsX2_init) := ggX3_send_X2_init
set_option maxRecDepth 20000 in
theorem ggX3_send_Jx4a65c_add_9ea2d : GoodIn wsX3_send wsJx4a65c_add_9ea2d := goodIn_r _ [28, 29, 30, 31, 12, 32, 33, 34, 10, 35, 36, 37, 38, 39, 40, 41, 42, 43, 44, 45, 46, 47, 48, 49, 50, 51, 52, 53, 54, 55, 56, 57, 58, 59, 60, 61, 62, 63, 64, 65, 66, 67, 68, 69, 70, 71, 72, 73, 74, 75, 76, 77, 78, 102, 103, 104] (by decide +kernel) (by decide +kernel)
set_option maxRecDepth 20000 in
theorem gX3_send_Jx4a65c_add_9ea2d : GoodIn wsX3_send (wsV RX3 61 RJx4a65c yJx4a65c_add_9ea2d wsJx4a65c_add_9ea2d) := goodIn_app (goodIn_of _ (by decide +kernel)) ggX3_send_Jx4a65c_add_9ea2d
theorem dX3_send_0 : decode cX3_send 0 = .ok (.iload_n 1, 1) := by decide +kernel
theorem dX3_send_1 : decode cX3_send 1 = .ok (.ifCond .lt 10, 3) := by decide +kernel
theorem dX3_send_4 : decode cX3_send 4 = .ok (.iload_n 1, 1) := by decide +kernel
theorem dX3_send_5 : decode cX3_send 5 = .ok (.sipush 10000, 3) := by decide +kernel
theorem dX3_send_8 : decode cX3_send 8 = .ok (.if_icmp .le 6, 3) := by decide +kernel
theorem dX3_send_11 : decode cX3_send 11 = .ok (.bipush (-2), 2) := by decide +kernel
theorem dX3_send_13 : decode cX3_send 13 = .ok (.ireturn, 1) := by decide +kernel
theorem dX3_send_14 : decode cX3_send 14 = .ok (.aload_n 0, 1) := by decide +kernel
theorem dX3_send_15 : decode cX3_send 15 = .ok (.getfield 10, 3) := by decide +kernel
theorem dX3_send_18 : decode cX3_send 18 = .ok (.invokevirtual 48, 3) := by decide +kernel
theorem dX3_send_21 : decode cX3_send 21 = .ok (.bipush 100, 2) := by decide +kernel
theorem dX3_send_23 : decode cX3_send 23 = .ok (.if_icmp .lt 6, 3) := by decide +kernel
theorem dX3_send_26 : decode cX3_send 26 = .ok (.bipush (-4), 2) := by decide +kernel
theorem dX3_send_28 : decode cX3_send 28 = .ok (.ireturn, 1) := by decide +kernel
theorem dX3_send_29 : decode cX3_send 29 = .ok (.iload_n 1, 1) := by decide +kernel
theorem dX3_send_30 : decode cX3_send 30 = .ok (.ifCond .eq 16, 3) := by decide +kernel
theorem dX3_send_33 : decode cX3_send 33 = .ok (.aload_n 0, 1) := by decide +kernel
theorem dX3_send_34 : decode cX3_send 34 = .ok (.getfield 52, 3) := by decide +kernel
theorem dX3_send_37 : decode cX3_send 37 = .ok (.ifCond .eq 11, 3) := by decide +kernel
theorem dX3_send_40 : decode cX3_send 40 = .ok (.iload_n 1, 1) := by decide +kernel
theorem dX3_send_41 : decode cX3_send 41 = .ok (.bipush 7, 2) := by decide +kernel
theorem dX3_send_43 : decode cX3_send 43 = .ok (.if_icmp .le 5, 3) := by decide +kernel
theorem dX3_send_46 : decode cX3_send 46 = .ok (.iconst 0, 1) := by decide +kernel
theorem dX3_send_47 : decode cX3_send 47 = .ok (.ireturn, 1) := by decide +kernel
theorem dX3_send_48 : decode cX3_send 48 = .ok (.aload_n 0, 1) := by decide +kernel
theorem dX3_send_49 : decode cX3_send 49 = .ok (.getfield 10, 3) := by decide +kernel
theorem dX3_send_52 : decode cX3_send 52 = .ok (.invokevirtual 48, 3) := by decide +kernel
theorem dX3_send_55 : decode cX3_send 55 = .ok (.iconst 1, 1) := by decide +kernel
theorem dX3_send_56 : decode cX3_send 56 = .ok (.iadd, 1) := by decide +kernel
theorem dX3_send_57 : decode cX3_send 57 = .ok (.istore_n 2, 1) := by decide +kernel
theorem dX3_send_58 : decode cX3_send 58 = .ok (.aload_n 0, 1) := by decide +kernel
theorem dX3_send_59 : decode cX3_send 59 = .ok (.getfield 10, 3) := by decide +kernel
theorem dX3_send_62 : decode cX3_send 62 = .ok (.new 56, 3) := by decide +kernel
theorem dX3_send_65 : decode cX3_send 65 = .ok (.dup, 1) := by decide +kernel
theorem dX3_send_66 : decode cX3_send 66 = .ok (.iload_n 2, 1) := by decide +kernel
theorem dX3_send_67 : decode cX3_send 67 = .ok (.iload_n 1, 1) := by decide +kernel
theorem dX3_send_68 : decode cX3_send 68 = .ok (.newarray .byte, 2) := by decide +kernel
theorem dX3_send_70 : decode cX3_send 70 = .ok (.invokespecial 58, 3) := by decide +kernel
theorem dX3_send_73 : decode cX3_send 73 = .ok (.invokevirtual 61, 3) := by decide +kernel
theorem dX3_send_76 : decode cX3_send 76 = .ok (.pop, 1) := by decide +kernel
theorem dX3_send_77 : decode cX3_send 77 = .ok (.iload_n 2, 1) := by decide +kernel
theorem dX3_send_78 : decode cX3_send 78 = .ok (.ireturn, 1) := by decide +kernel
set_option maxRecDepth 20000 in
theorem ggX3_octet_X3_findSender : GoodIn wsX3_octet wsX3_findSender := goodIn_r _ [6, 7, 8, 9, 10, 11, 12, 13, 14, 15, 16, 17, 18, 19, 20, 21, 22, 23, 24, 25, 26, 27, 28, 29, 30, 31, 41, 42, 43, 44, 45, 46, 47, 48, 49, 50, 51, 52, 53, 54, 55, 56, 57] (by decide +kernel) (by decide +kernel)
set_option maxRecDepth 20000 in
theorem gX3_octet_X3_findSender : GoodIn wsX3_octet (wsV RX3 65 RX3 yX3_findSender wsX3_findSender) := goodIn_app (goodIn_of _ (by decide +kernel)) ggX3_octet_X3_findSender
theorem dX3_octet_0 : decode cX3_octet 0 = .ok (.aload_n 0, 1) := by decide +kernel
theorem dX3_octet_1 : decode cX3_octet 1 = .ok (.iload_n 1, 1) := by decide +kernel
theorem dX3_octet_2 : decode cX3_octet 2 = .ok (.invokevirtual 65, 3) := by decide +kernel
theorem dX3_octet_5 : decode cX3_octet 5 = .ok (.astore 4, 2) := by decide +kernel
theorem dX3_octet_7 : decode cX3_octet 7 = .ok (.aload 4, 2) := by decide +kernel
theorem dX3_octet_9 : decode cX3_octet 9 = .ok (.ifnull 25, 3) := by decide +kernel
theorem dX3_octet_12 : decode cX3_octet 12 = .ok (.iload_n 2, 1) := by decide +kernel
theorem dX3_octet_13 : decode cX3_octet 13 = .ok (.ifCond .lt 21, 3) := by decide +kernel
theorem dX3_octet_16 : decode cX3_octet 16 = .ok (.iload_n 2, 1) := by decide +kernel
theorem dX3_octet_17 : decode cX3_octet 17 = .ok (.aload 4, 2) := by decide +kernel
theorem dX3_octet_19 : decode cX3_octet 19 = .ok (.getfield 69, 3) := by decide +kernel
theorem dX3_octet_22 : decode cX3_octet 22 = .ok (.arraylength, 1) := by decide +kernel
theorem dX3_octet_23 : decode cX3_octet 23 = .ok (.if_icmp .ge 11, 3) := by decide +kernel
theorem dX3_octet_26 : decode cX3_octet 26 = .ok (.aload 4, 2) := by decide +kernel
theorem dX3_octet_28 : decode cX3_octet 28 = .ok (.getfield 69, 3) := by decide +kernel
theorem dX3_octet_31 : decode cX3_octet 31 = .ok (.iload_n 2, 1) := by decide +kernel
theorem dX3_octet_32 : decode cX3_octet 32 = .ok (.iload_n 3, 1) := by decide +kernel
theorem dX3_octet_33 : decode cX3_octet 33 = .ok (.bastore, 1) := by decide +kernel
theorem dX3_octet_34 : decode cX3_octet 34 = .ok (.return_, 1) := by decide +kernel
set_option maxRecDepth 20000 in
theorem ggX3_frame_Jx4a65c_size_8abf5 : GoodIn wsX3_frame wsJx4a65c_size_8abf5 := goodIn_r _ [12, 13, 65, 66, 67] (by decide +kernel) (by decide +kernel)
set_option maxRecDepth 20000 in
theorem gX3_frame_Jx4a65c_size_8abf5 : GoodIn wsX3_frame (wsV RX3 48 RJx4a65c yJx4a65c_size_8abf5 wsJx4a65c_size_8abf5) := goodIn_app (goodIn_of _ (by decide +kernel)) ggX3_frame_Jx4a65c_size_8abf5
set_option maxRecDepth 20000 in
theorem ggX3_frame_X3_findFrame : GoodIn wsX3_frame wsX3_findFrame := goodIn_r _ [18, 1, 19, 8, 9, 10, 11, 12, 13, 20, 21, 22, 23, 24, 25, 26, 27, 28, 29, 30, 31, 32, 33, 34, 35, 36, 43, 44, 45, 46, 47, 48, 49, 50, 51, 52, 53, 54, 55, 56, 65, 66, 67] (by decide +kernel) (by decide +kernel)
set_option maxRecDepth 20000 in
theorem gX3_frame_X3_findFrame : GoodIn wsX3_frame (wsV RX3 72 RX3 yX3_findFrame wsX3_findFrame) := goodIn_app (goodIn_of _ (by decide +kernel)) ggX3_frame_X3_findFrame
set_option maxRecDepth 20000 in
theorem ggX3_frame_X0_octetAt : GoodIn wsX3_frame wsX0_octetAt := goodIn_r _ [41, 42, 57, 58, 59, 60, 61, 62, 63, 64] (by decide +kernel) (by decide +kernel)
set_option maxRecDepth 20000 in
theorem gX3_frame_X0_octetAt : GoodIn wsX3_frame (wsV RX3 76 RX0 yX0_octetAt wsX0_octetAt) := goodIn_app (goodIn_of _ (by decide +kernel)) ggX3_frame_X0_octetAt
theorem dX3_frame_0 : decode cX3_frame 0 = .ok (.iload_n 1, 1) := by decide +kernel
theorem dX3_frame_1 : decode cX3_frame 1 = .ok (.ifCond .ne 15, 3) := by decide +kernel
theorem dX3_frame_4 : decode cX3_frame 4 = .ok (.iload_n 2, 1) := by decide +kernel
theorem dX3_frame_5 : decode cX3_frame 5 = .ok (.ifCond .ne 11, 3) := by decide +kernel
theorem dX3_frame_8 : decode cX3_frame 8 = .ok (.aload_n 0, 1) := by decide +kernel
theorem dX3_frame_9 : decode cX3_frame 9 = .ok (.getfield 16, 3) := by decide +kernel
theorem dX3_frame_12 : decode cX3_frame 12 = .ok (.invokevirtual 48, 3) := by decide +kernel
theorem dX3_frame_15 : decode cX3_frame 15 = .ok (.ireturn, 1) := by decide +kernel
theorem dX3_frame_16 : decode cX3_frame 16 = .ok (.aload_n 0, 1) := by decide +kernel
theorem dX3_frame_17 : decode cX3_frame 17 = .ok (.iload_n 1, 1) := by decide +kernel
theorem dX3_frame_18 : decode cX3_frame 18 = .ok (.invokevirtual 72, 3) := by decide +kernel
theorem dX3_frame_21 : decode cX3_frame 21 = .ok (.astore_n 3, 1) := by decide +kernel
theorem dX3_frame_22 : decode cX3_frame 22 = .ok (.aload_n 3, 1) := by decide +kernel
theorem dX3_frame_23 : decode cX3_frame 23 = .ok (.ifnonnull 5, 3) := by decide +kernel
theorem dX3_frame_26 : decode cX3_frame 26 = .ok (.iconst (-1), 1) := by decide +kernel
theorem dX3_frame_27 : decode cX3_frame 27 = .ok (.ireturn, 1) := by decide +kernel
theorem dX3_frame_28 : decode cX3_frame 28 = .ok (.iload_n 2, 1) := by decide +kernel
theorem dX3_frame_29 : decode cX3_frame 29 = .ok (.bipush 8, 2) := by decide +kernel
theorem dX3_frame_31 : decode cX3_frame 31 = .ok (.if_icmp .lt 18, 3) := by decide +kernel
theorem dX3_frame_34 : decode cX3_frame 34 = .ok (.iload_n 2, 1) := by decide +kernel
theorem dX3_frame_35 : decode cX3_frame 35 = .ok (.bipush 14, 2) := by decide +kernel
theorem dX3_frame_37 : decode cX3_frame 37 = .ok (.if_icmp .gt 12, 3) := by decide +kernel
theorem dX3_frame_40 : decode cX3_frame 40 = .ok (.aload_n 3, 1) := by decide +kernel
theorem dX3_frame_41 : decode cX3_frame 41 = .ok (.iload_n 2, 1) := by decide +kernel
theorem dX3_frame_42 : decode cX3_frame 42 = .ok (.bipush 8, 2) := by decide +kernel
theorem dX3_frame_44 : decode cX3_frame 44 = .ok (.isub, 1) := by decide +kernel
theorem dX3_frame_45 : decode cX3_frame 45 = .ok (.invokevirtual 76, 3) := by decide +kernel
theorem dX3_frame_48 : decode cX3_frame 48 = .ok (.ireturn, 1) := by decide +kernel
theorem dX3_frame_49 : decode cX3_frame 49 = .ok (.iload_n 2, 1) := by decide +kernel
theorem dX3_frame_50 : decode cX3_frame 50 = .ok (.tableswitch 69 0 5 #[38, 43, 48, 53, 58, 64], 38) := by decide +kernel
theorem dX3_frame_88 : decode cX3_frame 88 = .ok (.aload_n 3, 1) := by decide +kernel
theorem dX3_frame_89 : decode cX3_frame 89 = .ok (.getfield 82, 3) := by decide +kernel
theorem dX3_frame_92 : decode cX3_frame 92 = .ok (.ireturn, 1) := by decide +kernel
theorem dX3_frame_93 : decode cX3_frame 93 = .ok (.aload_n 3, 1) := by decide +kernel
theorem dX3_frame_94 : decode cX3_frame 94 = .ok (.getfield 85, 3) := by decide +kernel
theorem dX3_frame_97 : decode cX3_frame 97 = .ok (.ireturn, 1) := by decide +kernel
theorem dX3_frame_98 : decode cX3_frame 98 = .ok (.aload_n 3, 1) := by decide +kernel
theorem dX3_frame_99 : decode cX3_frame 99 = .ok (.getfield 88, 3) := by decide +kernel
theorem dX3_frame_102 : decode cX3_frame 102 = .ok (.ireturn, 1) := by decide +kernel
theorem dX3_frame_103 : decode cX3_frame 103 = .ok (.aload_n 3, 1) := by decide +kernel
theorem dX3_frame_104 : decode cX3_frame 104 = .ok (.getfield 91, 3) := by decide +kernel
theorem dX3_frame_107 : decode cX3_frame 107 = .ok (.ireturn, 1) := by decide +kernel
theorem dX3_frame_108 : decode cX3_frame 108 = .ok (.aload_n 3, 1) := by decide +kernel
theorem dX3_frame_109 : decode cX3_frame 109 = .ok (.getfield 93, 3) := by decide +kernel
theorem dX3_frame_112 : decode cX3_frame 112 = .ok (.l2i, 1) := by decide +kernel
theorem dX3_frame_113 : decode cX3_frame 113 = .ok (.ireturn, 1) := by decide +kernel
theorem dX3_frame_114 : decode cX3_frame 114 = .ok (.aload_n 3, 1) := by decide +kernel
theorem dX3_frame_115 : decode cX3_frame 115 = .ok (.getfield 97, 3) := by decide +kernel
theorem dX3_frame_118 : decode cX3_frame 118 = .ok (.ireturn, 1) := by decide +kernel
theorem dX3_frame_119 : decode cX3_frame 119 = .ok (.bipush (-2), 2) := by decide +kernel
theorem dX3_frame_121 : decode cX3_frame 121 = .ok (.ireturn, 1) := by decide +kernel
set_option maxRecDepth 20000 in
theorem ggX3_receive_X3_findFrame : GoodIn wsX3_receive wsX3_findFrame := goodIn_r _ [7, 8, 9, 10, 11, 12, 13, 14, 15, 16, 17, 18, 19, 20, 21, 22, 23, 24, 25, 26, 27, 28, 29, 30, 31, 32, 262, 263, 264, 265, 266, 267, 268, 269, 270, 271, 272, 273, 274, 275, 276, 277, 278] (by decide +kernel) (by decide +kernel)
set_option maxRecDepth 20000 in
theorem gX3_receive_X3_findFrame : GoodIn wsX3_receive (wsV RX3 72 RX3 yX3_findFrame wsX3_findFrame) := goodIn_app (goodIn_of _ (by decide +kernel)) ggX3_receive_X3_findFrame
set_option maxRecDepth 20000 in
theorem ggX3_receive_X3_reachSender : GoodIn wsX3_receive wsX3_reachSender := goodIn_r _ [36, 37, 38, 39, 40, 41, 6, 42, 43, 44, 10, 11, 12, 13, 14, 15, 16, 17, 18, 19, 20, 21, 22, 23, 24, 25, 26, 27, 28, 29, 30, 31, 32, 45, 46, 47, 48, 49, 50, 51, 52, 53, 54, 55, 56, 57, 58, 59, 60, 61, 62, 63, 64, 65, 66, 67, 68, 69, 70, 71, 72, 73, 74, 75, 76, 77, 78, 79, 80, 81, 82, 83, 84, 85, 86, 87, 88, 89, 90, 254, 255, 256, 257, 258, 259, 260, 261, 279, 280, 281, 282, 283, 284, 285, 286, 287, 262, 263, 264, 265, 266, 267, 268, 269, 270, 271, 272, 273, 274, 275, 276, 277, 278] (by decide +kernel) (by decide +kernel)
set_option maxRecDepth 20000 in
theorem gX3_receive_X3_reachSender : GoodIn wsX3_receive (wsV RX3 103 RX3 yX3_reachSender wsX3_reachSender) := goodIn_app (goodIn_of _ (by decide +kernel)) ggX3_receive_X3_reachSender
set_option maxRecDepth 20000 in
theorem ggX3_receive_X3_reachReceiver : GoodIn wsX3_receive wsX3_reachReceiver := goodIn_r _ [94, 37, 2, 95, 96, 97, 98, 99, 6, 100, 101, 102, 103, 104, 105, 106, 107, 108, 109, 110, 111, 112, 113, 114, 115, 116, 49, 117, 52, 118, 119, 120, 121, 122, 123, 124, 75, 125, 126, 127, 128, 129, 130, 131, 81, 82, 83, 84, 85, 132, 133, 134, 135, 136, 137, 138, 139, 140, 141, 142, 143, 144, 145, 146, 147, 148, 149, 150, 151, 152, 153, 154, 155, 156, 157, 158, 159, 160, 161, 162, 163, 164, 165, 166, 167, 168, 169, 170, 171, 172, 8, 173, 174, 175, 176, 177, 178, 179, 10, 11, 12, 13, 14, 15, 180, 181, 182, 183, 184, 185, 186, 187, 188, 189, 190, 191, 192, 193, 194, 195, 196, 197, 198, 199, 32, 200, 201, 202, 203, 204, 205, 206, 207, 208, 209, 210, 211, 212, 213, 214, 215, 216, 217, 218, 219, 220, 221, 222, 223, 224, 225, 226, 227, 228, 229, 230, 231, 232, 233, 234, 235, 236, 237, 238, 239, 240, 241, 242, 243, 244, 245, 246, 247, 248, 249, 250, 251, 252, 253, 254, 255, 256, 257, 258, 259, 260, 261, 288, 289, 290, 291, 292, 293, 294, 295, 296, 262, 263, 264, 265, 266, 267, 268, 269, 270, 271, 272, 273, 274, 275, 276, 277, 278] (by decide +kernel) (by decide +kernel)
set_option maxRecDepth 20000 in
theorem gX3_receive_X3_reachReceiver : GoodIn wsX3_receive (wsV RX3 107 RX3 yX3_reachReceiver wsX3_reachReceiver) := goodIn_app (goodIn_of _ (by decide +kernel)) ggX3_receive_X3_reachReceiver
theorem dX3_receive_0 : decode cX3_receive 0 = .ok (.aload_n 0, 1) := by decide +kernel
theorem dX3_receive_1 : decode cX3_receive 1 = .ok (.iload_n 1, 1) := by decide +kernel
theorem dX3_receive_2 : decode cX3_receive 2 = .ok (.invokevirtual 72, 3) := by decide +kernel
theorem dX3_receive_5 : decode cX3_receive 5 = .ok (.astore_n 2, 1) := by decide +kernel
theorem dX3_receive_6 : decode cX3_receive 6 = .ok (.aload_n 2, 1) := by decide +kernel
theorem dX3_receive_7 : decode cX3_receive 7 = .ok (.ifnonnull 5, 3) := by decide +kernel
theorem dX3_receive_10 : decode cX3_receive 10 = .ok (.iconst (-1), 1) := by decide +kernel
theorem dX3_receive_11 : decode cX3_receive 11 = .ok (.ireturn, 1) := by decide +kernel
theorem dX3_receive_12 : decode cX3_receive 12 = .ok (.aload_n 2, 1) := by decide +kernel
theorem dX3_receive_13 : decode cX3_receive 13 = .ok (.getfield 100, 3) := by decide +kernel
theorem dX3_receive_16 : decode cX3_receive 16 = .ok (.ifCond .ne 6, 3) := by decide +kernel
theorem dX3_receive_19 : decode cX3_receive 19 = .ok (.bipush (-3), 2) := by decide +kernel
theorem dX3_receive_21 : decode cX3_receive 21 = .ok (.ireturn, 1) := by decide +kernel
theorem dX3_receive_22 : decode cX3_receive 22 = .ok (.aload_n 2, 1) := by decide +kernel
theorem dX3_receive_23 : decode cX3_receive 23 = .ok (.iconst 0, 1) := by decide +kernel
theorem dX3_receive_24 : decode cX3_receive 24 = .ok (.putfield 100, 3) := by decide +kernel
theorem dX3_receive_27 : decode cX3_receive 27 = .ok (.aload_n 2, 1) := by decide +kernel
theorem dX3_receive_28 : decode cX3_receive 28 = .ok (.getfield 82, 3) := by decide +kernel
theorem dX3_receive_31 : decode cX3_receive 31 = .ok (.iconst 3, 1) := by decide +kernel
theorem dX3_receive_32 : decode cX3_receive 32 = .ok (.if_icmp .ne 11, 3) := by decide +kernel
theorem dX3_receive_35 : decode cX3_receive 35 = .ok (.aload_n 0, 1) := by decide +kernel
theorem dX3_receive_36 : decode cX3_receive 36 = .ok (.aload_n 2, 1) := by decide +kernel
theorem dX3_receive_37 : decode cX3_receive 37 = .ok (.invokevirtual 103, 3) := by decide +kernel
theorem dX3_receive_40 : decode cX3_receive 40 = .ok (.goto 8, 3) := by decide +kernel
theorem dX3_receive_43 : decode cX3_receive 43 = .ok (.aload_n 0, 1) := by decide +kernel
theorem dX3_receive_44 : decode cX3_receive 44 = .ok (.aload_n 2, 1) := by decide +kernel
theorem dX3_receive_45 : decode cX3_receive 45 = .ok (.invokevirtual 107, 3) := by decide +kernel
theorem dX3_receive_48 : decode cX3_receive 48 = .ok (.ireturn, 1) := by decide +kernel
set_option maxRecDepth 20000 in
theorem ggX3_lose_X3_findFrame : GoodIn wsX3_lose wsX3_findFrame := goodIn_r _ [6, 7, 8, 9, 10, 11, 12, 13, 14, 15, 16, 17, 18, 19, 20, 21, 22, 23, 24, 25, 26, 27, 28, 29, 30, 31, 40, 41, 42, 43, 44, 45, 46, 47, 48, 49, 50, 51, 52, 53, 54, 55, 56] (by decide +kernel) (by decide +kernel)
set_option maxRecDepth 20000 in
theorem gX3_lose_X3_findFrame : GoodIn wsX3_lose (wsV RX3 72 RX3 yX3_findFrame wsX3_findFrame) := goodIn_app (goodIn_of _ (by decide +kernel)) ggX3_lose_X3_findFrame
theorem dX3_lose_0 : decode cX3_lose 0 = .ok (.aload_n 0, 1) := by decide +kernel
theorem dX3_lose_1 : decode cX3_lose 1 = .ok (.iload_n 1, 1) := by decide +kernel
theorem dX3_lose_2 : decode cX3_lose 2 = .ok (.invokevirtual 72, 3) := by decide +kernel
theorem dX3_lose_5 : decode cX3_lose 5 = .ok (.astore_n 2, 1) := by decide +kernel
theorem dX3_lose_6 : decode cX3_lose 6 = .ok (.aload_n 2, 1) := by decide +kernel
theorem dX3_lose_7 : decode cX3_lose 7 = .ok (.ifnull 10, 3) := by decide +kernel
theorem dX3_lose_10 : decode cX3_lose 10 = .ok (.aload_n 2, 1) := by decide +kernel
theorem dX3_lose_11 : decode cX3_lose 11 = .ok (.getfield 100, 3) := by decide +kernel
theorem dX3_lose_14 : decode cX3_lose 14 = .ok (.ifCond .ne 5, 3) := by decide +kernel
theorem dX3_lose_17 : decode cX3_lose 17 = .ok (.iconst 0, 1) := by decide +kernel
theorem dX3_lose_18 : decode cX3_lose 18 = .ok (.ireturn, 1) := by decide +kernel
theorem dX3_lose_19 : decode cX3_lose 19 = .ok (.aload_n 2, 1) := by decide +kernel
theorem dX3_lose_20 : decode cX3_lose 20 = .ok (.iconst 0, 1) := by decide +kernel
theorem dX3_lose_21 : decode cX3_lose 21 = .ok (.putfield 100, 3) := by decide +kernel
theorem dX3_lose_24 : decode cX3_lose 24 = .ok (.iconst 1, 1) := by decide +kernel
theorem dX3_lose_25 : decode cX3_lose 25 = .ok (.ireturn, 1) := by decide +kernel
set_option maxRecDepth 20000 in
theorem ggX3_flow_X3_isFlowNumber : GoodIn wsX3_flow wsX3_isFlowNumber := goodIn_r _ [7] (by decide +kernel) (by decide +kernel)
set_option maxRecDepth 20000 in
theorem gX3_flow_X3_isFlowNumber : GoodIn wsX3_flow (va_wsS RX3 110 yX3_isFlowNumber wsX3_isFlowNumber) := goodIn_app (goodIn_of _ (by decide +kernel)) ggX3_flow_X3_isFlowNumber
theorem dX3_flow_0 : decode cX3_flow 0 = .ok (.iload_n 1, 1) := by decide +kernel
theorem dX3_flow_1 : decode cX3_flow 1 = .ok (.invokestatic 110, 3) := by decide +kernel
theorem dX3_flow_4 : decode cX3_flow 4 = .ok (.ifCond .eq 19, 3) := by decide +kernel
theorem dX3_flow_7 : decode cX3_flow 7 = .ok (.iload_n 2, 1) := by decide +kernel
theorem dX3_flow_8 : decode cX3_flow 8 = .ok (.invokestatic 110, 3) := by decide +kernel
theorem dX3_flow_11 : decode cX3_flow 11 = .ok (.ifCond .eq 12, 3) := by decide +kernel
theorem dX3_flow_14 : decode cX3_flow 14 = .ok (.iload_n 3, 1) := by decide +kernel
theorem dX3_flow_15 : decode cX3_flow 15 = .ok (.ifCond .lt 8, 3) := by decide +kernel
theorem dX3_flow_18 : decode cX3_flow 18 = .ok (.iload_n 3, 1) := by decide +kernel
theorem dX3_flow_19 : decode cX3_flow 19 = .ok (.iconst 2, 1) := by decide +kernel
theorem dX3_flow_20 : decode cX3_flow 20 = .ok (.if_icmp .le 6, 3) := by decide +kernel
theorem dX3_flow_23 : decode cX3_flow 23 = .ok (.bipush (-2), 2) := by decide +kernel
theorem dX3_flow_25 : decode cX3_flow 25 = .ok (.ireturn, 1) := by decide +kernel
theorem dX3_flow_26 : decode cX3_flow 26 = .ok (.aload_n 0, 1) := by decide +kernel
theorem dX3_flow_27 : decode cX3_flow 27 = .ok (.iload_n 1, 1) := by decide +kernel
theorem dX3_flow_28 : decode cX3_flow 28 = .ok (.putfield 114, 3) := by decide +kernel
theorem dX3_flow_31 : decode cX3_flow 31 = .ok (.aload_n 0, 1) := by decide +kernel
theorem dX3_flow_32 : decode cX3_flow 32 = .ok (.iload_n 2, 1) := by decide +kernel
theorem dX3_flow_33 : decode cX3_flow 33 = .ok (.putfield 117, 3) := by decide +kernel
theorem dX3_flow_36 : decode cX3_flow 36 = .ok (.aload_n 0, 1) := by decide +kernel
theorem dX3_flow_37 : decode cX3_flow 37 = .ok (.iload_n 3, 1) := by decide +kernel
theorem dX3_flow_38 : decode cX3_flow 38 = .ok (.putfield 36, 3) := by decide +kernel
theorem dX3_flow_41 : decode cX3_flow 41 = .ok (.iconst 1, 1) := by decide +kernel
theorem dX3_flow_42 : decode cX3_flow 42 = .ok (.ireturn, 1) := by decide +kernel
set_option maxRecDepth 20000 in
theorem ggX3_tick_X3_startMessages : GoodIn wsX3_tick wsX3_startMessages := goodIn_r _ [8, 9, 10, 11, 12, 13, 14, 15, 16, 17, 18, 19, 20, 21, 22, 23, 24, 25, 26, 27, 28, 29, 30, 31, 32, 33, 34, 35, 36, 37, 7, 38, 39, 1, 40, 41, 42, 43, 44, 45, 46, 47, 48, 49, 50, 51, 52, 53, 54, 55, 56, 3, 57, 58, 59, 60, 61, 62, 63, 64, 65, 66, 67, 68, 69, 70, 71, 72, 73, 74, 75, 76, 77, 78, 79, 80, 81, 82, 83, 84, 85, 86, 87, 88, 89, 90, 91, 92, 93, 94, 95, 96, 97, 98, 99, 100, 101, 102, 103, 104, 105, 106, 107, 108, 109, 110, 111, 112, 113, 114, 115, 116, 117, 118, 119, 120, 121, 122, 123, 124, 125, 126, 127, 128, 129, 130, 131, 132, 133, 134, 135, 136, 137, 138, 139, 140, 141, 142, 143, 144, 145, 146, 147, 148, 149, 150, 151, 152, 153, 154, 155, 156, 157, 158, 159, 160, 161, 162, 163, 164, 247, 248, 249, 250, 251, 252, 253, 254, 255, 256, 257, 258, 259, 260, 261, 262, 263, 264, 265, 266, 267, 268, 269, 270, 271, 272, 273, 274, 275, 276, 277, 278, 279, 280] (by decide +kernel) (by decide +kernel)
set_option maxRecDepth 20000 in
theorem gX3_tick_X3_startMessages : GoodIn wsX3_tick (wsV RX3 128 RX3 yX3_startMessages wsX3_startMessages) := goodIn_app (goodIn_of _ (by decide +kernel)) ggX3_tick_X3_startMessages
set_option maxRecDepth 20000 in
theorem ggX3_tick_X3_passTimeTo : GoodIn wsX3_tick wsX3_passTimeTo := goodIn_r _ [168, 1, 10, 11, 169, 170, 171, 7, 172, 173, 174, 175, 176, 78, 177, 178, 12, 13, 14, 15, 16, 17, 18, 19, 20, 21, 22, 23, 24, 25, 26, 27, 28, 29, 30, 31, 32, 33, 34, 179, 180, 181, 182, 183, 184, 185, 186, 187, 188, 189, 190, 191, 192, 193, 194, 195, 196, 197, 198, 136, 137, 199, 40, 41, 42, 43, 44, 45, 46, 47, 48, 49, 50, 51, 52, 53, 54, 55, 56, 3, 57, 58, 59, 60, 61, 62, 63, 64, 65, 66, 67, 68, 69, 70, 71, 72, 73, 74, 75, 76, 77, 79, 80, 81, 82, 83, 84, 85, 86, 87, 88, 89, 90, 91, 92, 93, 94, 95, 96, 97, 98, 99, 100, 101, 102, 103, 104, 105, 106, 107, 108, 109, 110, 111, 112, 113, 114, 115, 116, 117, 118, 119, 120, 121, 122, 123, 124, 125, 126, 127, 128, 129, 130, 131, 132, 133, 134, 135, 138, 139, 140, 141, 142, 143, 144, 145, 146, 147, 148, 149, 150, 151, 152, 153, 154, 155, 156, 157, 158, 159, 200, 201, 202, 203, 160, 161, 162, 163, 164, 204, 205, 206, 207, 208, 209, 210, 211, 212, 213, 214, 215, 216, 217, 218, 219, 220, 221, 222, 223, 224, 225, 226, 227, 228, 229, 230, 231, 232, 233, 234, 235, 236, 237, 238, 239, 240, 241, 242, 243, 244, 245, 246, 247, 248, 249, 250, 251, 252, 253, 254, 255, 256, 257, 258, 259, 260, 264, 265, 266, 267, 268, 269, 270, 271, 272, 261, 262, 263, 281, 282, 283, 284, 285, 286, 287, 288, 289, 273, 274, 275, 276, 277, 278, 279, 280] (by decide +kernel) (by decide +kernel)
set_option maxRecDepth 20000 in
theorem gX3_tick_X3_passTimeTo : GoodIn wsX3_tick (wsV RX3 131 RX3 yX3_passTimeTo wsX3_passTimeTo) := goodIn_app (goodIn_of _ (by decide +kernel)) ggX3_tick_X3_passTimeTo
theorem dX3_tick_0 : decode cX3_tick 0 = .ok (.lload_n 1, 1) := by decide +kernel
theorem dX3_tick_1 : decode cX3_tick 1 = .ok (.aload_n 0, 1) := by decide +kernel
theorem dX3_tick_2 : decode cX3_tick 2 = .ok (.getfield 120, 3) := by decide +kernel
theorem dX3_tick_5 : decode cX3_tick 5 = .ok (.lcmp, 1) := by decide +kernel
theorem dX3_tick_6 : decode cX3_tick 6 = .ok (.ifCond .lt 16, 3) := by decide +kernel
theorem dX3_tick_9 : decode cX3_tick 9 = .ok (.lload_n 1, 1) := by decide +kernel
theorem dX3_tick_10 : decode cX3_tick 10 = .ok (.aload_n 0, 1) := by decide +kernel
theorem dX3_tick_11 : decode cX3_tick 11 = .ok (.getfield 120, 3) := by decide +kernel
theorem dX3_tick_14 : decode cX3_tick 14 = .ok (.lsub, 1) := by decide +kernel
theorem dX3_tick_15 : decode cX3_tick 15 = .ok (.ldc2_w 123, 3) := by decide +kernel
theorem dX3_tick_18 : decode cX3_tick 18 = .ok (.lcmp, 1) := by decide +kernel
theorem dX3_tick_19 : decode cX3_tick 19 = .ok (.ifCond .le 6, 3) := by decide +kernel
theorem dX3_tick_22 : decode cX3_tick 22 = .ok (.bipush (-2), 2) := by decide +kernel
theorem dX3_tick_24 : decode cX3_tick 24 = .ok (.ireturn, 1) := by decide +kernel
theorem dX3_tick_25 : decode cX3_tick 25 = .ok (.aload_n 0, 1) := by decide +kernel
theorem dX3_tick_26 : decode cX3_tick 26 = .ok (.getfield 125, 3) := by decide +kernel
theorem dX3_tick_29 : decode cX3_tick 29 = .ok (.istore_n 3, 1) := by decide +kernel
theorem dX3_tick_30 : decode cX3_tick 30 = .ok (.aload_n 0, 1) := by decide +kernel
theorem dX3_tick_31 : decode cX3_tick 31 = .ok (.invokevirtual 128, 3) := by decide +kernel
theorem dX3_tick_34 : decode cX3_tick 34 = .ok (.aload_n 0, 1) := by decide +kernel
theorem dX3_tick_35 : decode cX3_tick 35 = .ok (.lload_n 1, 1) := by decide +kernel
theorem dX3_tick_36 : decode cX3_tick 36 = .ok (.invokevirtual 131, 3) := by decide +kernel
theorem dX3_tick_39 : decode cX3_tick 39 = .ok (.aload_n 0, 1) := by decide +kernel
theorem dX3_tick_40 : decode cX3_tick 40 = .ok (.getfield 125, 3) := by decide +kernel
theorem dX3_tick_43 : decode cX3_tick 43 = .ok (.iload_n 3, 1) := by decide +kernel
theorem dX3_tick_44 : decode cX3_tick 44 = .ok (.isub, 1) := by decide +kernel
theorem dX3_tick_45 : decode cX3_tick 45 = .ok (.ireturn, 1) := by decide +kernel
theorem dX3_got_0 : decode cX3_got 0 = .ok (.iload_n 1, 1) := by decide +kernel
theorem dX3_got_1 : decode cX3_got 1 = .ok (.ifCond .lt 12, 3) := by decide +kernel
theorem dX3_got_4 : decode cX3_got 4 = .ok (.iload_n 1, 1) := by decide +kernel
theorem dX3_got_5 : decode cX3_got 5 = .ok (.aload_n 0, 1) := by decide +kernel
theorem dX3_got_6 : decode cX3_got 6 = .ok (.getfield 33, 3) := by decide +kernel
theorem dX3_got_9 : decode cX3_got 9 = .ok (.arraylength, 1) := by decide +kernel
theorem dX3_got_10 : decode cX3_got 10 = .ok (.if_icmp .lt 13, 3) := by decide +kernel
theorem dX3_got_13 : decode cX3_got 13 = .ok (.new 135, 3) := by decide +kernel
theorem dX3_got_16 : decode cX3_got 16 = .ok (.dup, 1) := by decide +kernel
theorem dX3_got_17 : decode cX3_got 17 = .ok (.ldc 137, 2) := by decide +kernel
theorem dX3_got_19 : decode cX3_got 19 = .ok (.invokespecial 139, 3) := by decide +kernel
theorem dX3_got_22 : decode cX3_got 22 = .ok (.athrow, 1) := by decide +kernel
theorem dX3_got_23 : decode cX3_got 23 = .ok (.aload_n 0, 1) := by decide +kernel
theorem dX3_got_24 : decode cX3_got 24 = .ok (.getfield 33, 3) := by decide +kernel
theorem dX3_got_27 : decode cX3_got 27 = .ok (.iload_n 1, 1) := by decide +kernel
theorem dX3_got_28 : decode cX3_got 28 = .ok (.baload, 1) := by decide +kernel
theorem dX3_got_29 : decode cX3_got 29 = .ok (.ireturn, 1) := by decide +kernel
theorem dX3_length_0 : decode cX3_length 0 = .ok (.aload_n 0, 1) := by decide +kernel
theorem dX3_length_1 : decode cX3_length 1 = .ok (.getfield 33, 3) := by decide +kernel
theorem dX3_length_4 : decode cX3_length 4 = .ok (.arraylength, 1) := by decide +kernel
theorem dX3_length_5 : decode cX3_length 5 = .ok (.ireturn, 1) := by decide +kernel
theorem dX3_ended_0 : decode cX3_ended 0 = .ok (.iload_n 1, 1) := by decide +kernel
theorem dX3_ended_1 : decode cX3_ended 1 = .ok (.ifCond .lt 21, 3) := by decide +kernel
theorem dX3_ended_4 : decode cX3_ended 4 = .ok (.iload_n 1, 1) := by decide +kernel
theorem dX3_ended_5 : decode cX3_ended 5 = .ok (.aload_n 0, 1) := by decide +kernel
theorem dX3_ended_6 : decode cX3_ended 6 = .ok (.getfield 25, 3) := by decide +kernel
theorem dX3_ended_9 : decode cX3_ended 9 = .ok (.arraylength, 1) := by decide +kernel
theorem dX3_ended_10 : decode cX3_ended 10 = .ok (.if_icmp .ge 12, 3) := by decide +kernel
theorem dX3_ended_13 : decode cX3_ended 13 = .ok (.aload_n 0, 1) := by decide +kernel
theorem dX3_ended_14 : decode cX3_ended 14 = .ok (.getfield 25, 3) := by decide +kernel
theorem dX3_ended_17 : decode cX3_ended 17 = .ok (.iload_n 1, 1) := by decide +kernel
theorem dX3_ended_18 : decode cX3_ended 18 = .ok (.iaload, 1) := by decide +kernel
theorem dX3_ended_19 : decode cX3_ended 19 = .ok (.goto 5, 3) := by decide +kernel
theorem dX3_ended_22 : decode cX3_ended 22 = .ok (.bipush (-2), 2) := by decide +kernel
theorem dX3_ended_24 : decode cX3_ended 24 = .ok (.ireturn, 1) := by decide +kernel
theorem dX3_wait2_0 : decode cX3_wait2 0 = .ok (.iload_n 1, 1) := by decide +kernel
theorem dX3_wait2_1 : decode cX3_wait2 1 = .ok (.ifCond .lt 9, 3) := by decide +kernel
theorem dX3_wait2_4 : decode cX3_wait2 4 = .ok (.iload_n 1, 1) := by decide +kernel
theorem dX3_wait2_5 : decode cX3_wait2 5 = .ok (.bipush 100, 2) := by decide +kernel
theorem dX3_wait2_7 : decode cX3_wait2 7 = .ok (.if_icmp .le 6, 3) := by decide +kernel
theorem dX3_wait2_10 : decode cX3_wait2 10 = .ok (.bipush (-2), 2) := by decide +kernel
theorem dX3_wait2_12 : decode cX3_wait2 12 = .ok (.ireturn, 1) := by decide +kernel
theorem dX3_wait2_13 : decode cX3_wait2 13 = .ok (.aload_n 0, 1) := by decide +kernel
theorem dX3_wait2_14 : decode cX3_wait2 14 = .ok (.getfield 40, 3) := by decide +kernel
theorem dX3_wait2_17 : decode cX3_wait2 17 = .ok (.istore_n 2, 1) := by decide +kernel
theorem dX3_wait2_18 : decode cX3_wait2 18 = .ok (.aload_n 0, 1) := by decide +kernel
theorem dX3_wait2_19 : decode cX3_wait2 19 = .ok (.iload_n 1, 1) := by decide +kernel
theorem dX3_wait2_20 : decode cX3_wait2 20 = .ok (.putfield 40, 3) := by decide +kernel
theorem dX3_wait2_23 : decode cX3_wait2 23 = .ok (.iload_n 2, 1) := by decide +kernel
theorem dX3_wait2_24 : decode cX3_wait2 24 = .ok (.ireturn, 1) := by decide +kernel
set_option maxRecDepth 20000 in
theorem ggX3_functional_Jx4a65c_size_8abf5 : GoodIn wsX3_functional wsJx4a65c_size_8abf5 := goodIn_r _ [7, 8, 23, 24, 25] (by decide +kernel) (by decide +kernel)
set_option maxRecDepth 20000 in
theorem gX3_functional_Jx4a65c_size_8abf5 : GoodIn wsX3_functional (wsV RX3 48 RJx4a65c yJx4a65c_size_8abf5 wsJx4a65c_size_8abf5) := goodIn_app (goodIn_of _ (by decide +kernel)) ggX3_functional_Jx4a65c_size_8abf5
theorem dX3_functional_0 : decode cX3_functional 0 = .ok (.aload_n 0, 1) := by decide +kernel
theorem dX3_functional_1 : decode cX3_functional 1 = .ok (.iload_n 1, 1) := by decide +kernel
theorem dX3_functional_2 : decode cX3_functional 2 = .ok (.putfield 52, 3) := by decide +kernel
theorem dX3_functional_5 : decode cX3_functional 5 = .ok (.aload_n 0, 1) := by decide +kernel
theorem dX3_functional_6 : decode cX3_functional 6 = .ok (.getfield 10, 3) := by decide +kernel
theorem dX3_functional_9 : decode cX3_functional 9 = .ok (.invokevirtual 48, 3) := by decide +kernel
theorem dX3_functional_12 : decode cX3_functional 12 = .ok (.ireturn, 1) := by decide +kernel
set_option maxRecDepth 20000 in
theorem ggX3_findSender_Jx4a65c_size_8abf5 : GoodIn wsX3_findSender wsJx4a65c_size_8abf5 := goodIn_r _ [7, 8, 40, 41, 42] (by decide +kernel) (by decide +kernel)
set_option maxRecDepth 20000 in
theorem gX3_findSender_Jx4a65c_size_8abf5 : GoodIn wsX3_findSender (wsV RX3 48 RJx4a65c yJx4a65c_size_8abf5 wsJx4a65c_size_8abf5) := goodIn_app (goodIn_of _ (by decide +kernel)) ggX3_findSender_Jx4a65c_size_8abf5
set_option maxRecDepth 20000 in
theorem ggX3_findSender_Jx4a65c_get_915e3 : GoodIn wsX3_findSender wsJx4a65c_get_915e3 := goodIn_r _ [12, 8, 13, 14, 15, 16, 17, 18, 19, 20, 21, 22, 23, 6, 24, 25, 40, 41, 42] (by decide +kernel) (by decide +kernel)
set_option maxRecDepth 20000 in
theorem gX3_findSender_Jx4a65c_get_915e3 : GoodIn wsX3_findSender (wsV RX3 142 RJx4a65c yJx4a65c_get_915e3 wsJx4a65c_get_915e3) := goodIn_app (goodIn_of _ (by decide +kernel)) ggX3_findSender_Jx4a65c_get_915e3
theorem dX3_findSender_0 : decode cX3_findSender 0 = .ok (.iload_n 1, 1) := by decide +kernel
theorem dX3_findSender_1 : decode cX3_findSender 1 = .ok (.iconst 1, 1) := by decide +kernel
theorem dX3_findSender_2 : decode cX3_findSender 2 = .ok (.if_icmp .lt 30, 3) := by decide +kernel
theorem dX3_findSender_5 : decode cX3_findSender 5 = .ok (.iload_n 1, 1) := by decide +kernel
theorem dX3_findSender_6 : decode cX3_findSender 6 = .ok (.aload_n 0, 1) := by decide +kernel
theorem dX3_findSender_7 : decode cX3_findSender 7 = .ok (.getfield 10, 3) := by decide +kernel
theorem dX3_findSender_10 : decode cX3_findSender 10 = .ok (.invokevirtual 48, 3) := by decide +kernel
theorem dX3_findSender_13 : decode cX3_findSender 13 = .ok (.if_icmp .gt 19, 3) := by decide +kernel
theorem dX3_findSender_16 : decode cX3_findSender 16 = .ok (.aload_n 0, 1) := by decide +kernel
theorem dX3_findSender_17 : decode cX3_findSender 17 = .ok (.getfield 10, 3) := by decide +kernel
theorem dX3_findSender_20 : decode cX3_findSender 20 = .ok (.iload_n 1, 1) := by decide +kernel
theorem dX3_findSender_21 : decode cX3_findSender 21 = .ok (.iconst 1, 1) := by decide +kernel
theorem dX3_findSender_22 : decode cX3_findSender 22 = .ok (.isub, 1) := by decide +kernel
theorem dX3_findSender_23 : decode cX3_findSender 23 = .ok (.invokevirtual 142, 3) := by decide +kernel
theorem dX3_findSender_26 : decode cX3_findSender 26 = .ok (.checkcast 56, 3) := by decide +kernel
theorem dX3_findSender_29 : decode cX3_findSender 29 = .ok (.goto 4, 3) := by decide +kernel
theorem dX3_findSender_32 : decode cX3_findSender 32 = .ok (.aconst_null, 1) := by decide +kernel
theorem dX3_findSender_33 : decode cX3_findSender 33 = .ok (.areturn, 1) := by decide +kernel
set_option maxRecDepth 20000 in
theorem ggX3_findFrame_Jx4a65c_size_8abf5 : GoodIn wsX3_findFrame wsJx4a65c_size_8abf5 := goodIn_r _ [7, 8, 40, 41, 42] (by decide +kernel) (by decide +kernel)
set_option maxRecDepth 20000 in
theorem gX3_findFrame_Jx4a65c_size_8abf5 : GoodIn wsX3_findFrame (wsV RX3 48 RJx4a65c yJx4a65c_size_8abf5 wsJx4a65c_size_8abf5) := goodIn_app (goodIn_of _ (by decide +kernel)) ggX3_findFrame_Jx4a65c_size_8abf5
set_option maxRecDepth 20000 in
theorem ggX3_findFrame_Jx4a65c_get_915e3 : GoodIn wsX3_findFrame wsJx4a65c_get_915e3 := goodIn_r _ [12, 8, 13, 14, 15, 16, 17, 18, 19, 20, 21, 22, 23, 6, 24, 25, 40, 41, 42] (by decide +kernel) (by decide +kernel)
set_option maxRecDepth 20000 in
theorem gX3_findFrame_Jx4a65c_get_915e3 : GoodIn wsX3_findFrame (wsV RX3 142 RJx4a65c yJx4a65c_get_915e3 wsJx4a65c_get_915e3) := goodIn_app (goodIn_of _ (by decide +kernel)) ggX3_findFrame_Jx4a65c_get_915e3
theorem dX3_findFrame_0 : decode cX3_findFrame 0 = .ok (.iload_n 1, 1) := by decide +kernel
theorem dX3_findFrame_1 : decode cX3_findFrame 1 = .ok (.iconst 1, 1) := by decide +kernel
theorem dX3_findFrame_2 : decode cX3_findFrame 2 = .ok (.if_icmp .lt 30, 3) := by decide +kernel
theorem dX3_findFrame_5 : decode cX3_findFrame 5 = .ok (.iload_n 1, 1) := by decide +kernel
theorem dX3_findFrame_6 : decode cX3_findFrame 6 = .ok (.aload_n 0, 1) := by decide +kernel
theorem dX3_findFrame_7 : decode cX3_findFrame 7 = .ok (.getfield 16, 3) := by decide +kernel
theorem dX3_findFrame_10 : decode cX3_findFrame 10 = .ok (.invokevirtual 48, 3) := by decide +kernel
theorem dX3_findFrame_13 : decode cX3_findFrame 13 = .ok (.if_icmp .gt 19, 3) := by decide +kernel
theorem dX3_findFrame_16 : decode cX3_findFrame 16 = .ok (.aload_n 0, 1) := by decide +kernel
theorem dX3_findFrame_17 : decode cX3_findFrame 17 = .ok (.getfield 16, 3) := by decide +kernel
theorem dX3_findFrame_20 : decode cX3_findFrame 20 = .ok (.iload_n 1, 1) := by decide +kernel
theorem dX3_findFrame_21 : decode cX3_findFrame 21 = .ok (.iconst 1, 1) := by decide +kernel
theorem dX3_findFrame_22 : decode cX3_findFrame 22 = .ok (.isub, 1) := by decide +kernel
theorem dX3_findFrame_23 : decode cX3_findFrame 23 = .ok (.invokevirtual 142, 3) := by decide +kernel
theorem dX3_findFrame_26 : decode cX3_findFrame 26 = .ok (.checkcast 77, 3) := by decide +kernel
theorem dX3_findFrame_29 : decode cX3_findFrame 29 = .ok (.goto 4, 3) := by decide +kernel
theorem dX3_findFrame_32 : decode cX3_findFrame 32 = .ok (.aconst_null, 1) := by decide +kernel
theorem dX3_findFrame_33 : decode cX3_findFrame 33 = .ok (.areturn, 1) := by decide +kernel
set_option maxRecDepth 20000 in
theorem ggX3_receiverOf_J9_floorMod_7cf53 : GoodIn wsX3_receiverOf wsJ9_floorMod_7cf53 := goodIn_r _ [5] (by decide +kernel) (by decide +kernel)
set_option maxRecDepth 20000 in
theorem gX3_receiverOf_J9_floorMod_7cf53 : GoodIn wsX3_receiverOf (va_wsS RX3 146 yJ9_floorMod_7cf53 wsJ9_floorMod_7cf53) := goodIn_app (goodIn_of _ (by decide +kernel)) ggX3_receiverOf_J9_floorMod_7cf53
theorem dX3_receiverOf_0 : decode cX3_receiverOf 0 = .ok (.aload_n 0, 1) := by decide +kernel
theorem dX3_receiverOf_1 : decode cX3_receiverOf 1 = .ok (.getfield 21, 3) := by decide +kernel
theorem dX3_receiverOf_4 : decode cX3_receiverOf 4 = .ok (.iload_n 1, 1) := by decide +kernel
theorem dX3_receiverOf_5 : decode cX3_receiverOf 5 = .ok (.iconst 4, 1) := by decide +kernel
theorem dX3_receiverOf_6 : decode cX3_receiverOf 6 = .ok (.invokestatic 146, 3) := by decide +kernel
theorem dX3_receiverOf_9 : decode cX3_receiverOf 9 = .ok (.aaload, 1) := by decide +kernel
theorem dX3_receiverOf_10 : decode cX3_receiverOf 10 = .ok (.areturn, 1) := by decide +kernel
theorem dX3_isFlowNumber_0 : decode cX3_isFlowNumber 0 = .ok (.iload_n 0, 1) := by decide +kernel
theorem dX3_isFlowNumber_1 : decode cX3_isFlowNumber 1 = .ok (.ifCond .lt 14, 3) := by decide +kernel
theorem dX3_isFlowNumber_4 : decode cX3_isFlowNumber 4 = .ok (.iload_n 0, 1) := by decide +kernel
theorem dX3_isFlowNumber_5 : decode cX3_isFlowNumber 5 = .ok (.sipush 255, 3) := by decide +kernel
theorem dX3_isFlowNumber_8 : decode cX3_isFlowNumber 8 = .ok (.if_icmp .gt 7, 3) := by decide +kernel
theorem dX3_isFlowNumber_11 : decode cX3_isFlowNumber 11 = .ok (.iconst 1, 1) := by decide +kernel
theorem dX3_isFlowNumber_12 : decode cX3_isFlowNumber 12 = .ok (.goto 4, 3) := by decide +kernel
theorem dX3_isFlowNumber_15 : decode cX3_isFlowNumber 15 = .ok (.iconst 0, 1) := by decide +kernel
theorem dX3_isFlowNumber_16 : decode cX3_isFlowNumber 16 = .ok (.ireturn, 1) := by decide +kernel
set_option maxRecDepth 20000 in
theorem ggX3_areFramesFull_Jx4a65c_size_8abf5 : GoodIn wsX3_areFramesFull wsJx4a65c_size_8abf5 := goodIn_r _ [6, 7, 22, 23, 24] (by decide +kernel) (by decide +kernel)
set_option maxRecDepth 20000 in
theorem gX3_areFramesFull_Jx4a65c_size_8abf5 : GoodIn wsX3_areFramesFull (wsV RX3 48 RJx4a65c yJx4a65c_size_8abf5 wsJx4a65c_size_8abf5) := goodIn_app (goodIn_of _ (by decide +kernel)) ggX3_areFramesFull_Jx4a65c_size_8abf5
theorem dX3_areFramesFull_0 : decode cX3_areFramesFull 0 = .ok (.aload_n 0, 1) := by decide +kernel
theorem dX3_areFramesFull_1 : decode cX3_areFramesFull 1 = .ok (.getfield 16, 3) := by decide +kernel
theorem dX3_areFramesFull_4 : decode cX3_areFramesFull 4 = .ok (.invokevirtual 48, 3) := by decide +kernel
theorem dX3_areFramesFull_7 : decode cX3_areFramesFull 7 = .ok (.sipush 6000, 3) := by decide +kernel
theorem dX3_areFramesFull_10 : decode cX3_areFramesFull 10 = .ok (.if_icmp .lt 7, 3) := by decide +kernel
theorem dX3_areFramesFull_13 : decode cX3_areFramesFull 13 = .ok (.iconst 1, 1) := by decide +kernel
theorem dX3_areFramesFull_14 : decode cX3_areFramesFull 14 = .ok (.goto 4, 3) := by decide +kernel
theorem dX3_areFramesFull_17 : decode cX3_areFramesFull 17 = .ok (.iconst 0, 1) := by decide +kernel
theorem dX3_areFramesFull_18 : decode cX3_areFramesFull 18 = .ok (.ireturn, 1) := by decide +kernel
theorem dX3_count_0 : decode cX3_count 0 = .ok (.iload_n 1, 1) := by decide +kernel
theorem dX3_count_1 : decode cX3_count 1 = .ok (.ifCond .lt 22, 3) := by decide +kernel
theorem dX3_count_4 : decode cX3_count 4 = .ok (.iload_n 1, 1) := by decide +kernel
theorem dX3_count_5 : decode cX3_count 5 = .ok (.aload_n 0, 1) := by decide +kernel
theorem dX3_count_6 : decode cX3_count 6 = .ok (.getfield 25, 3) := by decide +kernel
theorem dX3_count_9 : decode cX3_count 9 = .ok (.arraylength, 1) := by decide +kernel
theorem dX3_count_10 : decode cX3_count 10 = .ok (.if_icmp .ge 13, 3) := by decide +kernel
theorem dX3_count_13 : decode cX3_count 13 = .ok (.aload_n 0, 1) := by decide +kernel
theorem dX3_count_14 : decode cX3_count 14 = .ok (.getfield 25, 3) := by decide +kernel
theorem dX3_count_17 : decode cX3_count 17 = .ok (.iload_n 1, 1) := by decide +kernel
theorem dX3_count_18 : decode cX3_count 18 = .ok (.dup2, 1) := by decide +kernel
theorem dX3_count_19 : decode cX3_count 19 = .ok (.iaload, 1) := by decide +kernel
theorem dX3_count_20 : decode cX3_count 20 = .ok (.iconst 1, 1) := by decide +kernel
theorem dX3_count_21 : decode cX3_count 21 = .ok (.iadd, 1) := by decide +kernel
theorem dX3_count_22 : decode cX3_count 22 = .ok (.iastore, 1) := by decide +kernel
theorem dX3_count_23 : decode cX3_count 23 = .ok (.return_, 1) := by decide +kernel
set_option maxRecDepth 20000 in
theorem ggX3_endSender_X2_rest : GoodIn wsX3_endSender wsX2_rest := goodIn_r _ [6, 7, 8, 9, 30, 31, 32, 33, 34, 35, 36, 37, 38] (by decide +kernel) (by decide +kernel)
set_option maxRecDepth 20000 in
theorem gX3_endSender_X2_rest : GoodIn wsX3_endSender (wsV RX3 152 RX2 yX2_rest wsX2_rest) := goodIn_app (goodIn_of _ (by decide +kernel)) ggX3_endSender_X2_rest
set_option maxRecDepth 20000 in
theorem ggX3_endSender_X3_count : GoodIn wsX3_endSender wsX3_count := goodIn_r _ [14, 15, 16, 17, 18, 19, 20, 21, 22, 23, 24, 25, 26, 27, 28, 29] (by decide +kernel) (by decide +kernel)
set_option maxRecDepth 20000 in
theorem gX3_endSender_X3_count : GoodIn wsX3_endSender (wsV RX3 156 RX3 yX3_count wsX3_count) := goodIn_app (goodIn_of _ (by decide +kernel)) ggX3_endSender_X3_count
theorem dX3_endSender_0 : decode cX3_endSender 0 = .ok (.aload_n 1, 1) := by decide +kernel
theorem dX3_endSender_1 : decode cX3_endSender 1 = .ok (.iconst 4, 1) := by decide +kernel
theorem dX3_endSender_2 : decode cX3_endSender 2 = .ok (.invokevirtual 152, 3) := by decide +kernel
theorem dX3_endSender_5 : decode cX3_endSender 5 = .ok (.aload_n 0, 1) := by decide +kernel
theorem dX3_endSender_6 : decode cX3_endSender 6 = .ok (.dup, 1) := by decide +kernel
theorem dX3_endSender_7 : decode cX3_endSender 7 = .ok (.getfield 125, 3) := by decide +kernel
theorem dX3_endSender_10 : decode cX3_endSender 10 = .ok (.iconst 1, 1) := by decide +kernel
theorem dX3_endSender_11 : decode cX3_endSender 11 = .ok (.iadd, 1) := by decide +kernel
theorem dX3_endSender_12 : decode cX3_endSender 12 = .ok (.putfield 125, 3) := by decide +kernel
theorem dX3_endSender_15 : decode cX3_endSender 15 = .ok (.aload_n 0, 1) := by decide +kernel
theorem dX3_endSender_16 : decode cX3_endSender 16 = .ok (.iload_n 2, 1) := by decide +kernel
theorem dX3_endSender_17 : decode cX3_endSender 17 = .ok (.invokevirtual 156, 3) := by decide +kernel
theorem dX3_endSender_20 : decode cX3_endSender 20 = .ok (.return_, 1) := by decide +kernel
set_option maxRecDepth 20000 in
theorem ggX3_endReceiver_X1_rest : GoodIn wsX3_endReceiver wsX1_rest := goodIn_r _ [6, 7, 8, 9, 10, 31, 32, 33, 34, 35, 36, 37, 38, 39] (by decide +kernel) (by decide +kernel)
set_option maxRecDepth 20000 in
theorem gX3_endReceiver_X1_rest : GoodIn wsX3_endReceiver (wsV RX3 159 RX1 yX1_rest wsX1_rest) := goodIn_app (goodIn_of _ (by decide +kernel)) ggX3_endReceiver_X1_rest
set_option maxRecDepth 20000 in
theorem ggX3_endReceiver_X3_count : GoodIn wsX3_endReceiver wsX3_count := goodIn_r _ [15, 16, 17, 18, 19, 20, 21, 22, 23, 24, 25, 26, 27, 28, 29, 30] (by decide +kernel) (by decide +kernel)
set_option maxRecDepth 20000 in
theorem gX3_endReceiver_X3_count : GoodIn wsX3_endReceiver (wsV RX3 156 RX3 yX3_count wsX3_count) := goodIn_app (goodIn_of _ (by decide +kernel)) ggX3_endReceiver_X3_count
theorem dX3_endReceiver_0 : decode cX3_endReceiver 0 = .ok (.aload_n 1, 1) := by decide +kernel
theorem dX3_endReceiver_1 : decode cX3_endReceiver 1 = .ok (.iconst 3, 1) := by decide +kernel
theorem dX3_endReceiver_2 : decode cX3_endReceiver 2 = .ok (.invokevirtual 159, 3) := by decide +kernel
theorem dX3_endReceiver_5 : decode cX3_endReceiver 5 = .ok (.aload_n 0, 1) := by decide +kernel
theorem dX3_endReceiver_6 : decode cX3_endReceiver 6 = .ok (.dup, 1) := by decide +kernel
theorem dX3_endReceiver_7 : decode cX3_endReceiver 7 = .ok (.getfield 125, 3) := by decide +kernel
theorem dX3_endReceiver_10 : decode cX3_endReceiver 10 = .ok (.iconst 1, 1) := by decide +kernel
theorem dX3_endReceiver_11 : decode cX3_endReceiver 11 = .ok (.iadd, 1) := by decide +kernel
theorem dX3_endReceiver_12 : decode cX3_endReceiver 12 = .ok (.putfield 125, 3) := by decide +kernel
theorem dX3_endReceiver_15 : decode cX3_endReceiver 15 = .ok (.aload_n 0, 1) := by decide +kernel
theorem dX3_endReceiver_16 : decode cX3_endReceiver 16 = .ok (.iload_n 2, 1) := by decide +kernel
theorem dX3_endReceiver_17 : decode cX3_endReceiver 17 = .ok (.invokevirtual 156, 3) := by decide +kernel
theorem dX3_endReceiver_20 : decode cX3_endReceiver 20 = .ok (.return_, 1) := by decide +kernel
set_option maxRecDepth 20000 in
theorem ggX3_startMessages_Jx4a65c_size_8abf5 : GoodIn wsX3_startMessages wsJx4a65c_size_8abf5 := goodIn_r _ [8, 9, 174, 175, 176] (by decide +kernel) (by decide +kernel)
set_option maxRecDepth 20000 in
theorem gX3_startMessages_Jx4a65c_size_8abf5 : GoodIn wsX3_startMessages (wsV RX3 48 RJx4a65c yJx4a65c_size_8abf5 wsJx4a65c_size_8abf5) := goodIn_app (goodIn_of _ (by decide +kernel)) ggX3_startMessages_Jx4a65c_size_8abf5
set_option maxRecDepth 20000 in
theorem ggX3_startMessages_Jx4a65c_get_915e3 : GoodIn wsX3_startMessages wsJx4a65c_get_915e3 := goodIn_r _ [13, 9, 14, 15, 16, 17, 18, 19, 20, 21, 22, 23, 24, 7, 25, 26, 174, 175, 176] (by decide +kernel) (by decide +kernel)
set_option maxRecDepth 20000 in
theorem gX3_startMessages_Jx4a65c_get_915e3 : GoodIn wsX3_startMessages (wsV RX3 142 RJx4a65c yJx4a65c_get_915e3 wsJx4a65c_get_915e3) := goodIn_app (goodIn_of _ (by decide +kernel)) ggX3_startMessages_Jx4a65c_get_915e3
set_option maxRecDepth 20000 in
theorem ggX3_startMessages_X3_startMessage : GoodIn wsX3_startMessages wsX3_startMessage := goodIn_r _ [31, 32, 33, 34, 35, 36, 30, 37, 38, 39, 40, 41, 42, 43, 44, 45, 46, 4, 5, 6, 7, 8, 9, 47, 48, 49, 50, 51, 52, 53, 54, 55, 56, 57, 58, 59, 60, 61, 62, 63, 64, 65, 66, 67, 68, 69, 70, 71, 72, 73, 74, 75, 76, 77, 78, 79, 80, 81, 82, 83, 84, 85, 86, 87, 88, 89, 90, 91, 92, 93, 94, 95, 96, 97, 98, 99, 100, 101, 102, 103, 104, 105, 106, 107, 108, 109, 110, 111, 112, 113, 114, 115, 116, 26, 117, 118, 119, 120, 121, 122, 123, 124, 125, 126, 127, 128, 129, 130, 131, 132, 133, 134, 135, 136, 137, 138, 139, 140, 141, 142, 143, 144, 145, 146, 147, 148, 149, 150, 151, 152, 153, 154, 155, 156, 157, 158, 159, 177, 178, 179, 180, 181, 182, 183, 184, 185, 160, 161, 162, 163, 164, 165, 166, 167, 168, 169, 170, 171, 172, 173, 186, 187, 188, 189, 190, 191, 192, 193, 174, 175, 176] (by decide +kernel) (by decide +kernel)
set_option maxRecDepth 20000 in
theorem gX3_startMessages_X3_startMessage : GoodIn wsX3_startMessages (wsV RX3 163 RX3 yX3_startMessage wsX3_startMessage) := goodIn_app (goodIn_of _ (by decide +kernel)) ggX3_startMessages_X3_startMessage
theorem dX3_startMessages_0 : decode cX3_startMessages 0 = .ok (.aload_n 0, 1) := by decide +kernel
theorem dX3_startMessages_1 : decode cX3_startMessages 1 = .ok (.getfield 160, 3) := by decide +kernel
theorem dX3_startMessages_4 : decode cX3_startMessages 4 = .ok (.aload_n 0, 1) := by decide +kernel
theorem dX3_startMessages_5 : decode cX3_startMessages 5 = .ok (.getfield 10, 3) := by decide +kernel
theorem dX3_startMessages_8 : decode cX3_startMessages 8 = .ok (.invokevirtual 48, 3) := by decide +kernel
theorem dX3_startMessages_11 : decode cX3_startMessages 11 = .ok (.if_icmp .ge 34, 3) := by decide +kernel
theorem dX3_startMessages_14 : decode cX3_startMessages 14 = .ok (.aload_n 0, 1) := by decide +kernel
theorem dX3_startMessages_15 : decode cX3_startMessages 15 = .ok (.aload_n 0, 1) := by decide +kernel
theorem dX3_startMessages_16 : decode cX3_startMessages 16 = .ok (.getfield 10, 3) := by decide +kernel
theorem dX3_startMessages_19 : decode cX3_startMessages 19 = .ok (.aload_n 0, 1) := by decide +kernel
theorem dX3_startMessages_20 : decode cX3_startMessages 20 = .ok (.getfield 160, 3) := by decide +kernel
theorem dX3_startMessages_23 : decode cX3_startMessages 23 = .ok (.invokevirtual 142, 3) := by decide +kernel
theorem dX3_startMessages_26 : decode cX3_startMessages 26 = .ok (.checkcast 56, 3) := by decide +kernel
theorem dX3_startMessages_29 : decode cX3_startMessages 29 = .ok (.invokevirtual 163, 3) := by decide +kernel
theorem dX3_startMessages_32 : decode cX3_startMessages 32 = .ok (.aload_n 0, 1) := by decide +kernel
theorem dX3_startMessages_33 : decode cX3_startMessages 33 = .ok (.dup, 1) := by decide +kernel
theorem dX3_startMessages_34 : decode cX3_startMessages 34 = .ok (.getfield 160, 3) := by decide +kernel
theorem dX3_startMessages_37 : decode cX3_startMessages 37 = .ok (.iconst 1, 1) := by decide +kernel
theorem dX3_startMessages_38 : decode cX3_startMessages 38 = .ok (.iadd, 1) := by decide +kernel
theorem dX3_startMessages_39 : decode cX3_startMessages 39 = .ok (.putfield 160, 3) := by decide +kernel
theorem dX3_startMessages_42 : decode cX3_startMessages 42 = .ok (.goto (-42), 3) := by decide +kernel
theorem dX3_startMessages_45 : decode cX3_startMessages 45 = .ok (.return_, 1) := by decide +kernel
set_option maxRecDepth 20000 in
theorem ggX3_startMessage_X3_makeDataFrame : GoodIn wsX3_startMessage wsX3_makeDataFrame := goodIn_r _ [7, 8, 9, 10, 11, 12, 2, 13, 14, 15, 6, 16, 17, 18, 19, 20, 21, 22, 23, 24, 25, 26, 27, 28, 29, 30, 31, 32, 33, 34, 35, 36, 37, 38, 39, 40, 41, 42, 43, 44, 45, 46, 47, 48, 49, 50, 51, 52, 53, 54, 55, 56, 57, 58, 59, 60, 61, 62, 63, 64, 65, 66, 67, 68, 69, 70, 71, 72, 73, 74, 75, 76, 77, 78, 79, 80, 81, 82, 83, 84, 85, 86, 87, 88, 89, 90, 91, 92, 93, 94, 95, 96, 97, 98, 99, 100, 101, 102, 103, 104, 105, 106, 107, 108, 109, 110, 111, 112, 113, 114, 115, 116, 117, 118, 119, 120, 121, 122, 123, 124, 125, 126, 127, 128, 129, 130, 131, 146, 147, 148, 149, 150, 151, 152, 153, 154, 155, 156, 157, 158, 159, 160, 161, 162, 163, 164, 165, 166, 167, 137, 138, 139, 140, 141, 142, 143, 144, 145, 168, 169, 170] (by decide +kernel) (by decide +kernel)
set_option maxRecDepth 20000 in
theorem gX3_startMessage_X3_makeDataFrame : GoodIn wsX3_startMessage (wsV RX3 167 RX3 yX3_makeDataFrame wsX3_makeDataFrame) := goodIn_app (goodIn_of _ (by decide +kernel)) ggX3_startMessage_X3_makeDataFrame
set_option maxRecDepth 20000 in
theorem ggX3_startMessage_X2_rest : GoodIn wsX3_startMessage wsX2_rest := goodIn_r _ [32, 33, 34, 35, 137, 138, 139, 140, 141, 142, 143, 144, 145] (by decide +kernel) (by decide +kernel)
set_option maxRecDepth 20000 in
theorem gX3_startMessage_X2_rest : GoodIn wsX3_startMessage (wsV RX3 152 RX2 yX2_rest wsX2_rest) := goodIn_app (goodIn_of _ (by decide +kernel)) ggX3_startMessage_X2_rest
set_option maxRecDepth 20000 in
theorem ggX3_startMessage_X2_awaitFlow : GoodIn wsX3_startMessage wsX2_awaitFlow := goodIn_r _ [135, 33, 136, 35, 137, 138, 139, 140, 141, 142, 143, 144, 145] (by decide +kernel) (by decide +kernel)
set_option maxRecDepth 20000 in
theorem gX3_startMessage_X2_awaitFlow : GoodIn wsX3_startMessage (wsV RX3 171 RX2 yX2_awaitFlow wsX2_awaitFlow) := goodIn_app (goodIn_of _ (by decide +kernel)) ggX3_startMessage_X2_awaitFlow
theorem dX3_startMessage_0 : decode cX3_startMessage 0 = .ok (.aload_n 1, 1) := by decide +kernel
theorem dX3_startMessage_1 : decode cX3_startMessage 1 = .ok (.getfield 69, 3) := by decide +kernel
theorem dX3_startMessage_4 : decode cX3_startMessage 4 = .ok (.arraylength, 1) := by decide +kernel
theorem dX3_startMessage_5 : decode cX3_startMessage 5 = .ok (.istore_n 2, 1) := by decide +kernel
theorem dX3_startMessage_6 : decode cX3_startMessage 6 = .ok (.iload_n 2, 1) := by decide +kernel
theorem dX3_startMessage_7 : decode cX3_startMessage 7 = .ok (.bipush 7, 2) := by decide +kernel
theorem dX3_startMessage_9 : decode cX3_startMessage 9 = .ok (.if_icmp .gt 21, 3) := by decide +kernel
theorem dX3_startMessage_12 : decode cX3_startMessage 12 = .ok (.aload_n 0, 1) := by decide +kernel
theorem dX3_startMessage_13 : decode cX3_startMessage 13 = .ok (.aload_n 1, 1) := by decide +kernel
theorem dX3_startMessage_14 : decode cX3_startMessage 14 = .ok (.iconst 0, 1) := by decide +kernel
theorem dX3_startMessage_15 : decode cX3_startMessage 15 = .ok (.iconst 0, 1) := by decide +kernel
theorem dX3_startMessage_16 : decode cX3_startMessage 16 = .ok (.bipush 7, 2) := by decide +kernel
theorem dX3_startMessage_18 : decode cX3_startMessage 18 = .ok (.invokevirtual 167, 3) := by decide +kernel
theorem dX3_startMessage_21 : decode cX3_startMessage 21 = .ok (.ifCond .eq 8, 3) := by decide +kernel
theorem dX3_startMessage_24 : decode cX3_startMessage 24 = .ok (.aload_n 1, 1) := by decide +kernel
theorem dX3_startMessage_25 : decode cX3_startMessage 25 = .ok (.iconst 3, 1) := by decide +kernel
theorem dX3_startMessage_26 : decode cX3_startMessage 26 = .ok (.invokevirtual 152, 3) := by decide +kernel
theorem dX3_startMessage_29 : decode cX3_startMessage 29 = .ok (.return_, 1) := by decide +kernel
theorem dX3_startMessage_30 : decode cX3_startMessage 30 = .ok (.iload_n 2, 1) := by decide +kernel
theorem dX3_startMessage_31 : decode cX3_startMessage 31 = .ok (.sipush 4095, 3) := by decide +kernel
theorem dX3_startMessage_34 : decode cX3_startMessage 34 = .ok (.if_icmp .le 7, 3) := by decide +kernel
theorem dX3_startMessage_37 : decode cX3_startMessage 37 = .ok (.iconst 2, 1) := by decide +kernel
theorem dX3_startMessage_38 : decode cX3_startMessage 38 = .ok (.goto 5, 3) := by decide +kernel
theorem dX3_startMessage_41 : decode cX3_startMessage 41 = .ok (.bipush 6, 2) := by decide +kernel
theorem dX3_startMessage_43 : decode cX3_startMessage 43 = .ok (.istore_n 3, 1) := by decide +kernel
theorem dX3_startMessage_44 : decode cX3_startMessage 44 = .ok (.aload_n 0, 1) := by decide +kernel
theorem dX3_startMessage_45 : decode cX3_startMessage 45 = .ok (.aload_n 1, 1) := by decide +kernel
theorem dX3_startMessage_46 : decode cX3_startMessage 46 = .ok (.iconst 1, 1) := by decide +kernel
theorem dX3_startMessage_47 : decode cX3_startMessage 47 = .ok (.iload_n 2, 1) := by decide +kernel
theorem dX3_startMessage_48 : decode cX3_startMessage 48 = .ok (.iload_n 3, 1) := by decide +kernel
theorem dX3_startMessage_49 : decode cX3_startMessage 49 = .ok (.invokevirtual 167, 3) := by decide +kernel
theorem dX3_startMessage_52 : decode cX3_startMessage 52 = .ok (.ifCond .eq 11, 3) := by decide +kernel
theorem dX3_startMessage_55 : decode cX3_startMessage 55 = .ok (.aload_n 1, 1) := by decide +kernel
theorem dX3_startMessage_56 : decode cX3_startMessage 56 = .ok (.aload_n 0, 1) := by decide +kernel
theorem dX3_startMessage_57 : decode cX3_startMessage 57 = .ok (.getfield 120, 3) := by decide +kernel
theorem dX3_startMessage_60 : decode cX3_startMessage 60 = .ok (.invokevirtual 171, 3) := by decide +kernel
theorem dX3_startMessage_63 : decode cX3_startMessage 63 = .ok (.return_, 1) := by decide +kernel
set_option maxRecDepth 20000 in
theorem ggX3_makeDataFrame_X3_areFramesFull : GoodIn wsX3_makeDataFrame wsX3_areFramesFull := goodIn_r _ [11, 1, 12, 13, 14, 15, 16, 17, 127, 128, 129, 130, 131, 132, 133, 134, 135, 136, 137, 138, 139, 140, 158, 159, 160] (by decide +kernel) (by decide +kernel)
set_option maxRecDepth 20000 in
theorem gX3_makeDataFrame_X3_areFramesFull : GoodIn wsX3_makeDataFrame (wsV RX3 174 RX3 yX3_areFramesFull wsX3_areFramesFull) := goodIn_app (goodIn_of _ (by decide +kernel)) ggX3_makeDataFrame_X3_areFramesFull
set_option maxRecDepth 20000 in
theorem ggX3_makeDataFrame_X3_endSender : GoodIn wsX3_makeDataFrame wsX3_endSender := goodIn_r _ [21, 22, 23, 24, 25, 26, 27, 28, 29, 30, 31, 32, 33, 10, 34, 35, 127, 128, 129, 130, 131, 132, 133, 134, 135, 136, 137, 138, 139, 140, 149, 150, 151, 152, 153, 154, 155, 156, 157] (by decide +kernel) (by decide +kernel)
set_option maxRecDepth 20000 in
theorem gX3_makeDataFrame_X3_endSender : GoodIn wsX3_makeDataFrame (wsV RX3 178 RX3 yX3_endSender wsX3_endSender) := goodIn_app (goodIn_of _ (by decide +kernel)) ggX3_makeDataFrame_X3_endSender
set_option maxRecDepth 20000 in
theorem ggX3_makeDataFrame_X2_cutNext : GoodIn wsX3_makeDataFrame wsX2_cutNext := goodIn_r _ [39, 40, 41, 42, 43, 44, 45, 46, 47, 48, 49, 50, 51, 52, 53, 54, 55, 56, 57, 58, 59, 60, 61, 62, 63, 64, 65, 66, 67, 149, 150, 151, 152, 153, 154, 155, 156, 157] (by decide +kernel) (by decide +kernel)
set_option maxRecDepth 20000 in
theorem gX3_makeDataFrame_X2_cutNext : GoodIn wsX3_makeDataFrame (wsV RX3 183 RX2 yX2_cutNext wsX2_cutNext) := goodIn_app (goodIn_of _ (by decide +kernel)) ggX3_makeDataFrame_X2_cutNext
set_option maxRecDepth 20000 in
theorem ggX3_makeDataFrame_X0_init : GoodIn wsX3_makeDataFrame wsX0_init := goodIn_r _ [70, 71, 72, 73, 74, 75, 76, 77, 78, 79, 80, 81, 141, 142, 143, 144, 145, 146, 147, 148] (by decide +kernel) (by decide +kernel)
set_option maxRecDepth 20000 in
theorem gX3_makeDataFrame_X0_init : GoodIn wsX3_makeDataFrame (wsX0_init) := ggX3_makeDataFrame_X0_init
set_option maxRecDepth 20000 in
theorem ggX3_makeDataFrame_Jx4a65c_add_9ea2d : GoodIn wsX3_makeDataFrame wsJx4a65c_add_9ea2d := goodIn_r _ [85, 86, 87, 88, 17, 89, 90, 91, 15, 92, 93, 94, 95, 96, 97, 98, 99, 100, 101, 102, 103, 44, 104, 105, 106, 107, 108, 109, 110, 111, 112, 113, 114, 115, 116, 48, 117, 118, 119, 120, 121, 122, 123, 124, 125, 126, 60, 43, 45, 61, 62, 63, 64, 158, 159, 160] (by decide +kernel) (by decide +kernel)
set_option maxRecDepth 20000 in
theorem gX3_makeDataFrame_Jx4a65c_add_9ea2d : GoodIn wsX3_makeDataFrame (wsV RX3 61 RJx4a65c yJx4a65c_add_9ea2d wsJx4a65c_add_9ea2d) := goodIn_app (goodIn_of _ (by decide +kernel)) ggX3_makeDataFrame_Jx4a65c_add_9ea2d
theorem dX3_makeDataFrame_0 : decode cX3_makeDataFrame 0 = .ok (.aload_n 0, 1) := by decide +kernel
theorem dX3_makeDataFrame_1 : decode cX3_makeDataFrame 1 = .ok (.invokevirtual 174, 3) := by decide +kernel
theorem dX3_makeDataFrame_4 : decode cX3_makeDataFrame 4 = .ok (.ifCond .eq 12, 3) := by decide +kernel
theorem dX3_makeDataFrame_7 : decode cX3_makeDataFrame 7 = .ok (.aload_n 0, 1) := by decide +kernel
theorem dX3_makeDataFrame_8 : decode cX3_makeDataFrame 8 = .ok (.aload_n 1, 1) := by decide +kernel
theorem dX3_makeDataFrame_9 : decode cX3_makeDataFrame 9 = .ok (.bipush 7, 2) := by decide +kernel
theorem dX3_makeDataFrame_11 : decode cX3_makeDataFrame 11 = .ok (.invokevirtual 178, 3) := by decide +kernel
theorem dX3_makeDataFrame_14 : decode cX3_makeDataFrame 14 = .ok (.iconst 0, 1) := by decide +kernel
theorem dX3_makeDataFrame_15 : decode cX3_makeDataFrame 15 = .ok (.ireturn, 1) := by decide +kernel
theorem dX3_makeDataFrame_16 : decode cX3_makeDataFrame 16 = .ok (.aload_n 0, 1) := by decide +kernel
theorem dX3_makeDataFrame_17 : decode cX3_makeDataFrame 17 = .ok (.getfield 16, 3) := by decide +kernel
theorem dX3_makeDataFrame_20 : decode cX3_makeDataFrame 20 = .ok (.new 77, 3) := by decide +kernel
theorem dX3_makeDataFrame_23 : decode cX3_makeDataFrame 23 = .ok (.dup, 1) := by decide +kernel
theorem dX3_makeDataFrame_24 : decode cX3_makeDataFrame 24 = .ok (.iload_n 2, 1) := by decide +kernel
theorem dX3_makeDataFrame_25 : decode cX3_makeDataFrame 25 = .ok (.aload_n 1, 1) := by decide +kernel
theorem dX3_makeDataFrame_26 : decode cX3_makeDataFrame 26 = .ok (.getfield 182, 3) := by decide +kernel
theorem dX3_makeDataFrame_29 : decode cX3_makeDataFrame 29 = .ok (.iload_n 3, 1) := by decide +kernel
theorem dX3_makeDataFrame_30 : decode cX3_makeDataFrame 30 = .ok (.aload_n 1, 1) := by decide +kernel
theorem dX3_makeDataFrame_31 : decode cX3_makeDataFrame 31 = .ok (.iload 4, 2) := by decide +kernel
theorem dX3_makeDataFrame_33 : decode cX3_makeDataFrame 33 = .ok (.invokevirtual 183, 3) := by decide +kernel
theorem dX3_makeDataFrame_36 : decode cX3_makeDataFrame 36 = .ok (.aload_n 0, 1) := by decide +kernel
theorem dX3_makeDataFrame_37 : decode cX3_makeDataFrame 37 = .ok (.getfield 120, 3) := by decide +kernel
theorem dX3_makeDataFrame_40 : decode cX3_makeDataFrame 40 = .ok (.invokespecial 187, 3) := by decide +kernel
theorem dX3_makeDataFrame_43 : decode cX3_makeDataFrame 43 = .ok (.invokevirtual 61, 3) := by decide +kernel
theorem dX3_makeDataFrame_46 : decode cX3_makeDataFrame 46 = .ok (.pop, 1) := by decide +kernel
theorem dX3_makeDataFrame_47 : decode cX3_makeDataFrame 47 = .ok (.iconst 1, 1) := by decide +kernel
theorem dX3_makeDataFrame_48 : decode cX3_makeDataFrame 48 = .ok (.ireturn, 1) := by decide +kernel
set_option maxRecDepth 20000 in
theorem ggX3_makeFlowFrame_X3_areFramesFull : GoodIn wsX3_makeFlowFrame wsX3_areFramesFull := goodIn_r _ [10, 1, 11, 12, 13, 14, 15, 16, 104, 105, 106, 107, 108, 109, 110, 111, 112, 113, 114, 115, 116, 117, 126, 127, 128] (by decide +kernel) (by decide +kernel)
set_option maxRecDepth 20000 in
theorem gX3_makeFlowFrame_X3_areFramesFull : GoodIn wsX3_makeFlowFrame (wsV RX3 174 RX3 yX3_areFramesFull wsX3_areFramesFull) := goodIn_app (goodIn_of _ (by decide +kernel)) ggX3_makeFlowFrame_X3_areFramesFull
set_option maxRecDepth 20000 in
theorem ggX3_makeFlowFrame_X3_endReceiver : GoodIn wsX3_makeFlowFrame wsX3_endReceiver := goodIn_r _ [20, 21, 22, 23, 24, 25, 26, 27, 28, 29, 30, 31, 32, 33, 9, 34, 35, 104, 105, 106, 107, 108, 109, 110, 111, 112, 113, 114, 115, 116, 117, 129, 130, 131, 132, 133, 134, 135, 136, 137] (by decide +kernel) (by decide +kernel)
set_option maxRecDepth 20000 in
theorem gX3_makeFlowFrame_X3_endReceiver : GoodIn wsX3_makeFlowFrame (wsV RX3 190 RX3 yX3_endReceiver wsX3_endReceiver) := goodIn_app (goodIn_of _ (by decide +kernel)) ggX3_makeFlowFrame_X3_endReceiver
set_option maxRecDepth 20000 in
theorem ggX3_makeFlowFrame_X0_init_ : GoodIn wsX3_makeFlowFrame wsX0_init_ := goodIn_r _ [38, 39, 40, 41, 42, 43, 44, 45, 46, 47, 48, 49, 118, 119, 120, 121, 122, 123, 124, 125] (by decide +kernel) (by decide +kernel)
set_option maxRecDepth 20000 in
theorem gX3_makeFlowFrame_X0_init_ : GoodIn wsX3_makeFlowFrame (wsX0_init_) := ggX3_makeFlowFrame_X0_init_
set_option maxRecDepth 20000 in
theorem ggX3_makeFlowFrame_Jx4a65c_add_9ea2d : GoodIn wsX3_makeFlowFrame wsJx4a65c_add_9ea2d := goodIn_r _ [53, 54, 55, 56, 16, 57, 58, 59, 14, 60, 61, 62, 63, 64, 65, 66, 67, 68, 69, 70, 71, 72, 73, 74, 75, 76, 77, 78, 79, 80, 81, 82, 83, 84, 85, 86, 87, 88, 89, 90, 91, 92, 93, 94, 95, 96, 97, 98, 99, 100, 101, 102, 103, 126, 127, 128] (by decide +kernel) (by decide +kernel)
set_option maxRecDepth 20000 in
theorem gX3_makeFlowFrame_Jx4a65c_add_9ea2d : GoodIn wsX3_makeFlowFrame (wsV RX3 61 RJx4a65c yJx4a65c_add_9ea2d wsJx4a65c_add_9ea2d) := goodIn_app (goodIn_of _ (by decide +kernel)) ggX3_makeFlowFrame_Jx4a65c_add_9ea2d
theorem dX3_makeFlowFrame_0 : decode cX3_makeFlowFrame 0 = .ok (.aload_n 0, 1) := by decide +kernel
theorem dX3_makeFlowFrame_1 : decode cX3_makeFlowFrame 1 = .ok (.invokevirtual 174, 3) := by decide +kernel
theorem dX3_makeFlowFrame_4 : decode cX3_makeFlowFrame 4 = .ok (.ifCond .eq 12, 3) := by decide +kernel
theorem dX3_makeFlowFrame_7 : decode cX3_makeFlowFrame 7 = .ok (.aload_n 0, 1) := by decide +kernel
theorem dX3_makeFlowFrame_8 : decode cX3_makeFlowFrame 8 = .ok (.aload_n 1, 1) := by decide +kernel
theorem dX3_makeFlowFrame_9 : decode cX3_makeFlowFrame 9 = .ok (.bipush 7, 2) := by decide +kernel
theorem dX3_makeFlowFrame_11 : decode cX3_makeFlowFrame 11 = .ok (.invokevirtual 190, 3) := by decide +kernel
theorem dX3_makeFlowFrame_14 : decode cX3_makeFlowFrame 14 = .ok (.iconst 0, 1) := by decide +kernel
theorem dX3_makeFlowFrame_15 : decode cX3_makeFlowFrame 15 = .ok (.ireturn, 1) := by decide +kernel
theorem dX3_makeFlowFrame_16 : decode cX3_makeFlowFrame 16 = .ok (.aload_n 0, 1) := by decide +kernel
theorem dX3_makeFlowFrame_17 : decode cX3_makeFlowFrame 17 = .ok (.getfield 16, 3) := by decide +kernel
theorem dX3_makeFlowFrame_20 : decode cX3_makeFlowFrame 20 = .ok (.new 77, 3) := by decide +kernel
theorem dX3_makeFlowFrame_23 : decode cX3_makeFlowFrame 23 = .ok (.dup, 1) := by decide +kernel
theorem dX3_makeFlowFrame_24 : decode cX3_makeFlowFrame 24 = .ok (.iload_n 2, 1) := by decide +kernel
theorem dX3_makeFlowFrame_25 : decode cX3_makeFlowFrame 25 = .ok (.iload_n 3, 1) := by decide +kernel
theorem dX3_makeFlowFrame_26 : decode cX3_makeFlowFrame 26 = .ok (.iload 4, 2) := by decide +kernel
theorem dX3_makeFlowFrame_28 : decode cX3_makeFlowFrame 28 = .ok (.iload 5, 2) := by decide +kernel
theorem dX3_makeFlowFrame_30 : decode cX3_makeFlowFrame 30 = .ok (.aload_n 0, 1) := by decide +kernel
theorem dX3_makeFlowFrame_31 : decode cX3_makeFlowFrame 31 = .ok (.getfield 120, 3) := by decide +kernel
theorem dX3_makeFlowFrame_34 : decode cX3_makeFlowFrame 34 = .ok (.invokespecial 194, 3) := by decide +kernel
theorem dX3_makeFlowFrame_37 : decode cX3_makeFlowFrame 37 = .ok (.invokevirtual 61, 3) := by decide +kernel
theorem dX3_makeFlowFrame_40 : decode cX3_makeFlowFrame 40 = .ok (.pop, 1) := by decide +kernel
theorem dX3_makeFlowFrame_41 : decode cX3_makeFlowFrame 41 = .ok (.iconst 1, 1) := by decide +kernel
theorem dX3_makeFlowFrame_42 : decode cX3_makeFlowFrame 42 = .ok (.ireturn, 1) := by decide +kernel
set_option maxRecDepth 20000 in
theorem ggX3_passTimeTo_X3_nextTime : GoodIn wsX3_passTimeTo wsX3_nextTime := goodIn_r _ [8, 9, 2, 3, 10, 11, 12, 13, 14, 15, 16, 17, 18, 19, 20, 21, 22, 23, 24, 25, 26, 27, 28, 29, 30, 31, 32, 33, 34, 35, 36, 37, 38, 39, 40, 41, 42, 43, 44, 45, 46, 232, 233, 234, 235, 236, 237, 238, 239, 240, 241, 242, 243, 244, 245, 246, 247, 248, 249, 250, 251, 252, 253, 254, 255, 256, 257, 258, 259, 260, 261, 262, 263, 264, 265, 266] (by decide +kernel) (by decide +kernel)
set_option maxRecDepth 20000 in
theorem gX3_passTimeTo_X3_nextTime : GoodIn wsX3_passTimeTo (wsV RX3 197 RX3 yX3_nextTime wsX3_nextTime) := goodIn_app (goodIn_of _ (by decide +kernel)) ggX3_passTimeTo_X3_nextTime
set_option maxRecDepth 20000 in
theorem ggX3_passTimeTo_Jx4a65c_size_8abf5 : GoodIn wsX3_passTimeTo wsJx4a65c_size_8abf5 := goodIn_r _ [20, 21, 255, 256, 257] (by decide +kernel) (by decide +kernel)
set_option maxRecDepth 20000 in
theorem gX3_passTimeTo_Jx4a65c_size_8abf5 : GoodIn wsX3_passTimeTo (wsV RX3 48 RJx4a65c yJx4a65c_size_8abf5 wsJx4a65c_size_8abf5) := goodIn_app (goodIn_of _ (by decide +kernel)) ggX3_passTimeTo_Jx4a65c_size_8abf5
set_option maxRecDepth 20000 in
theorem ggX3_passTimeTo_Jx4a65c_get_915e3 : GoodIn wsX3_passTimeTo wsJx4a65c_get_915e3 := goodIn_r _ [25, 21, 26, 27, 28, 29, 30, 31, 32, 33, 34, 35, 36, 19, 37, 38, 255, 256, 257] (by decide +kernel) (by decide +kernel)
set_option maxRecDepth 20000 in
theorem gX3_passTimeTo_Jx4a65c_get_915e3 : GoodIn wsX3_passTimeTo (wsV RX3 142 RJx4a65c yJx4a65c_get_915e3 wsJx4a65c_get_915e3) := goodIn_app (goodIn_of _ (by decide +kernel)) ggX3_passTimeTo_Jx4a65c_get_915e3
set_option maxRecDepth 20000 in
theorem ggX3_passTimeTo_X3_actSender : GoodIn wsX3_passTimeTo wsX3_actSender := goodIn_r _ [50, 10, 1, 51, 52, 53, 54, 7, 55, 56, 57, 58, 59, 13, 60, 61, 62, 63, 64, 65, 66, 67, 68, 69, 70, 71, 72, 73, 74, 16, 17, 18, 19, 20, 21, 75, 76, 77, 78, 79, 80, 81, 82, 83, 84, 85, 86, 87, 88, 89, 90, 91, 92, 93, 94, 95, 96, 97, 98, 99, 100, 101, 102, 103, 104, 105, 106, 107, 108, 109, 110, 111, 112, 113, 114, 115, 116, 117, 118, 119, 120, 121, 122, 123, 124, 125, 126, 127, 128, 129, 130, 131, 132, 133, 134, 135, 136, 137, 138, 139, 140, 141, 142, 143, 38, 144, 145, 146, 147, 148, 149, 150, 151, 152, 153, 154, 155, 156, 157, 158, 159, 160, 161, 162, 163, 164, 165, 166, 167, 168, 169, 170, 171, 172, 173, 174, 175, 176, 177, 178, 179, 180, 181, 182, 183, 184, 185, 186, 187, 188, 246, 247, 248, 249, 250, 251, 252, 253, 254, 232, 233, 234, 235, 236, 237, 238, 239, 240, 241, 242, 243, 244, 245, 267, 268, 269, 270, 271, 272, 273, 274, 255, 256, 257] (by decide +kernel) (by decide +kernel)
set_option maxRecDepth 20000 in
theorem gX3_passTimeTo_X3_actSender : GoodIn wsX3_passTimeTo (wsV RX3 201 RX3 yX3_actSender wsX3_actSender) := goodIn_app (goodIn_of _ (by decide +kernel)) ggX3_passTimeTo_X3_actSender
set_option maxRecDepth 20000 in
theorem ggX3_passTimeTo_X3_receiverOf : GoodIn wsX3_passTimeTo wsX3_receiverOf := goodIn_r _ [192, 15, 193, 194, 195, 196, 232, 233, 234, 235, 236, 237, 238, 239, 240, 241, 242, 243, 244, 245] (by decide +kernel) (by decide +kernel)
set_option maxRecDepth 20000 in
theorem gX3_passTimeTo_X3_receiverOf : GoodIn wsX3_passTimeTo (wsV RX3 204 RX3 yX3_receiverOf wsX3_receiverOf) := goodIn_app (goodIn_of _ (by decide +kernel)) ggX3_passTimeTo_X3_receiverOf
set_option maxRecDepth 20000 in
theorem ggX3_passTimeTo_X3_actReceiver : GoodIn wsX3_passTimeTo wsX3_actReceiver := goodIn_r _ [200, 201, 1, 202, 203, 204, 205, 7, 206, 207, 208, 209, 210, 211, 212, 9, 213, 214, 215, 216, 217, 218, 66, 67, 68, 69, 71, 72, 73, 74, 16, 17, 18, 19, 20, 21, 219, 220, 221, 222, 79, 223, 224, 225, 42, 226, 227, 228, 44, 45, 88, 89, 90, 91, 92, 229, 230, 231, 127, 128, 129, 130, 131, 132, 133, 134, 135, 136, 137, 138, 139, 140, 141, 142, 143, 38, 144, 145, 146, 147, 148, 149, 150, 151, 152, 153, 154, 155, 156, 157, 59, 13, 60, 158, 159, 160, 161, 162, 163, 164, 165, 166, 167, 168, 169, 104, 170, 171, 172, 173, 174, 175, 176, 177, 178, 179, 116, 100, 101, 117, 118, 119, 120, 258, 259, 260, 261, 262, 263, 264, 265, 266, 232, 233, 234, 235, 236, 237, 238, 239, 240, 241, 242, 243, 244, 245, 267, 268, 269, 270, 271, 272, 273, 274, 255, 256, 257] (by decide +kernel) (by decide +kernel)
set_option maxRecDepth 20000 in
theorem gX3_passTimeTo_X3_actReceiver : GoodIn wsX3_passTimeTo (wsV RX3 208 RX3 yX3_actReceiver wsX3_actReceiver) := goodIn_app (goodIn_of _ (by decide +kernel)) ggX3_passTimeTo_X3_actReceiver
theorem dX3_passTimeTo_0 : decode cX3_passTimeTo 0 = .ok (.aload_n 0, 1) := by decide +kernel
theorem dX3_passTimeTo_1 : decode cX3_passTimeTo 1 = .ok (.invokevirtual 197, 3) := by decide +kernel
theorem dX3_passTimeTo_4 : decode cX3_passTimeTo 4 = .ok (.lstore_n 3, 1) := by decide +kernel
theorem dX3_passTimeTo_5 : decode cX3_passTimeTo 5 = .ok (.iconst 0, 1) := by decide +kernel
theorem dX3_passTimeTo_6 : decode cX3_passTimeTo 6 = .ok (.istore 5, 2) := by decide +kernel
theorem dX3_passTimeTo_8 : decode cX3_passTimeTo 8 = .ok (.iload 5, 2) := by decide +kernel
theorem dX3_passTimeTo_10 : decode cX3_passTimeTo 10 = .ok (.sipush 5000, 3) := by decide +kernel
theorem dX3_passTimeTo_13 : decode cX3_passTimeTo 13 = .ok (.if_icmp .gt 87, 3) := by decide +kernel
theorem dX3_passTimeTo_16 : decode cX3_passTimeTo 16 = .ok (.lload_n 3, 1) := by decide +kernel
theorem dX3_passTimeTo_17 : decode cX3_passTimeTo 17 = .ok (.lload_n 1, 1) := by decide +kernel
theorem dX3_passTimeTo_18 : decode cX3_passTimeTo 18 = .ok (.lcmp, 1) := by decide +kernel
theorem dX3_passTimeTo_19 : decode cX3_passTimeTo 19 = .ok (.ifCond .gt 81, 3) := by decide +kernel
theorem dX3_passTimeTo_22 : decode cX3_passTimeTo 22 = .ok (.aload_n 0, 1) := by decide +kernel
theorem dX3_passTimeTo_23 : decode cX3_passTimeTo 23 = .ok (.lload_n 3, 1) := by decide +kernel
theorem dX3_passTimeTo_24 : decode cX3_passTimeTo 24 = .ok (.putfield 120, 3) := by decide +kernel
theorem dX3_passTimeTo_27 : decode cX3_passTimeTo 27 = .ok (.iconst 0, 1) := by decide +kernel
theorem dX3_passTimeTo_28 : decode cX3_passTimeTo 28 = .ok (.istore 6, 2) := by decide +kernel
theorem dX3_passTimeTo_30 : decode cX3_passTimeTo 30 = .ok (.iload 6, 2) := by decide +kernel
theorem dX3_passTimeTo_32 : decode cX3_passTimeTo 32 = .ok (.aload_n 0, 1) := by decide +kernel
theorem dX3_passTimeTo_33 : decode cX3_passTimeTo 33 = .ok (.getfield 10, 3) := by decide +kernel
theorem dX3_passTimeTo_36 : decode cX3_passTimeTo 36 = .ok (.invokevirtual 48, 3) := by decide +kernel
theorem dX3_passTimeTo_39 : decode cX3_passTimeTo 39 = .ok (.if_icmp .ge 25, 3) := by decide +kernel
theorem dX3_passTimeTo_42 : decode cX3_passTimeTo 42 = .ok (.aload_n 0, 1) := by decide +kernel
theorem dX3_passTimeTo_43 : decode cX3_passTimeTo 43 = .ok (.aload_n 0, 1) := by decide +kernel
theorem dX3_passTimeTo_44 : decode cX3_passTimeTo 44 = .ok (.getfield 10, 3) := by decide +kernel
theorem dX3_passTimeTo_47 : decode cX3_passTimeTo 47 = .ok (.iload 6, 2) := by decide +kernel
theorem dX3_passTimeTo_49 : decode cX3_passTimeTo 49 = .ok (.invokevirtual 142, 3) := by decide +kernel
theorem dX3_passTimeTo_52 : decode cX3_passTimeTo 52 = .ok (.checkcast 56, 3) := by decide +kernel
theorem dX3_passTimeTo_55 : decode cX3_passTimeTo 55 = .ok (.invokevirtual 201, 3) := by decide +kernel
theorem dX3_passTimeTo_58 : decode cX3_passTimeTo 58 = .ok (.iinc 6 1, 3) := by decide +kernel
theorem dX3_passTimeTo_61 : decode cX3_passTimeTo 61 = .ok (.goto (-31), 3) := by decide +kernel
theorem dX3_passTimeTo_64 : decode cX3_passTimeTo 64 = .ok (.iconst 1, 1) := by decide +kernel
theorem dX3_passTimeTo_65 : decode cX3_passTimeTo 65 = .ok (.istore 6, 2) := by decide +kernel
theorem dX3_passTimeTo_67 : decode cX3_passTimeTo 67 = .ok (.iload 6, 2) := by decide +kernel
theorem dX3_passTimeTo_69 : decode cX3_passTimeTo 69 = .ok (.iconst 4, 1) := by decide +kernel
theorem dX3_passTimeTo_70 : decode cX3_passTimeTo 70 = .ok (.if_icmp .gt 19, 3) := by decide +kernel
theorem dX3_passTimeTo_73 : decode cX3_passTimeTo 73 = .ok (.aload_n 0, 1) := by decide +kernel
theorem dX3_passTimeTo_74 : decode cX3_passTimeTo 74 = .ok (.aload_n 0, 1) := by decide +kernel
theorem dX3_passTimeTo_75 : decode cX3_passTimeTo 75 = .ok (.iload 6, 2) := by decide +kernel
theorem dX3_passTimeTo_77 : decode cX3_passTimeTo 77 = .ok (.invokevirtual 204, 3) := by decide +kernel
theorem dX3_passTimeTo_80 : decode cX3_passTimeTo 80 = .ok (.invokevirtual 208, 3) := by decide +kernel
theorem dX3_passTimeTo_83 : decode cX3_passTimeTo 83 = .ok (.iinc 6 1, 3) := by decide +kernel
theorem dX3_passTimeTo_86 : decode cX3_passTimeTo 86 = .ok (.goto (-19), 3) := by decide +kernel
theorem dX3_passTimeTo_89 : decode cX3_passTimeTo 89 = .ok (.aload_n 0, 1) := by decide +kernel
theorem dX3_passTimeTo_90 : decode cX3_passTimeTo 90 = .ok (.invokevirtual 197, 3) := by decide +kernel
theorem dX3_passTimeTo_93 : decode cX3_passTimeTo 93 = .ok (.lstore_n 3, 1) := by decide +kernel
theorem dX3_passTimeTo_94 : decode cX3_passTimeTo 94 = .ok (.iinc 5 1, 3) := by decide +kernel
theorem dX3_passTimeTo_97 : decode cX3_passTimeTo 97 = .ok (.goto (-89), 3) := by decide +kernel
theorem dX3_passTimeTo_100 : decode cX3_passTimeTo 100 = .ok (.aload_n 0, 1) := by decide +kernel
theorem dX3_passTimeTo_101 : decode cX3_passTimeTo 101 = .ok (.lload_n 1, 1) := by decide +kernel
theorem dX3_passTimeTo_102 : decode cX3_passTimeTo 102 = .ok (.putfield 120, 3) := by decide +kernel
theorem dX3_passTimeTo_105 : decode cX3_passTimeTo 105 = .ok (.return_, 1) := by decide +kernel
set_option maxRecDepth 20000 in
theorem ggX3_nextTime_Jx4a65c_size_8abf5 : GoodIn wsX3_nextTime wsJx4a65c_size_8abf5 := goodIn_r _ [14, 15, 64, 65, 66] (by decide +kernel) (by decide +kernel)
set_option maxRecDepth 20000 in
theorem gX3_nextTime_Jx4a65c_size_8abf5 : GoodIn wsX3_nextTime (wsV RX3 48 RJx4a65c yJx4a65c_size_8abf5 wsJx4a65c_size_8abf5) := goodIn_app (goodIn_of _ (by decide +kernel)) ggX3_nextTime_Jx4a65c_size_8abf5
set_option maxRecDepth 20000 in
theorem ggX3_nextTime_Jx4a65c_get_915e3 : GoodIn wsX3_nextTime wsJx4a65c_get_915e3 := goodIn_r _ [19, 15, 20, 21, 22, 23, 24, 25, 26, 27, 28, 29, 30, 13, 31, 32, 64, 65, 66] (by decide +kernel) (by decide +kernel)
set_option maxRecDepth 20000 in
theorem gX3_nextTime_Jx4a65c_get_915e3 : GoodIn wsX3_nextTime (wsV RX3 142 RJx4a65c yJx4a65c_get_915e3 wsJx4a65c_get_915e3) := goodIn_app (goodIn_of _ (by decide +kernel)) ggX3_nextTime_Jx4a65c_get_915e3
set_option maxRecDepth 20000 in
theorem ggX3_nextTime_X1_wakeAt : GoodIn wsX3_nextTime wsX1_wakeAt := goodIn_r _ [37, 38, 39, 40, 6, 7, 8, 67, 68, 69, 70, 71, 72, 73, 74, 75] (by decide +kernel) (by decide +kernel)
set_option maxRecDepth 20000 in
theorem gX3_nextTime_X1_wakeAt : GoodIn wsX3_nextTime (wsV RX3 221 RX1 yX1_wakeAt wsX1_wakeAt) := goodIn_app (goodIn_of _ (by decide +kernel)) ggX3_nextTime_X1_wakeAt
theorem dX3_nextTime_0 : decode cX3_nextTime 0 = .ok (.ldc2_w 212, 3) := by decide +kernel
theorem dX3_nextTime_3 : decode cX3_nextTime 3 = .ok (.lstore_n 1, 1) := by decide +kernel
theorem dX3_nextTime_4 : decode cX3_nextTime 4 = .ok (.iconst 0, 1) := by decide +kernel
theorem dX3_nextTime_5 : decode cX3_nextTime 5 = .ok (.istore_n 3, 1) := by decide +kernel
theorem dX3_nextTime_6 : decode cX3_nextTime 6 = .ok (.iload_n 3, 1) := by decide +kernel
theorem dX3_nextTime_7 : decode cX3_nextTime 7 = .ok (.aload_n 0, 1) := by decide +kernel
theorem dX3_nextTime_8 : decode cX3_nextTime 8 = .ok (.getfield 10, 3) := by decide +kernel
theorem dX3_nextTime_11 : decode cX3_nextTime 11 = .ok (.invokevirtual 48, 3) := by decide +kernel
theorem dX3_nextTime_14 : decode cX3_nextTime 14 = .ok (.if_icmp .ge 28, 3) := by decide +kernel
theorem dX3_nextTime_17 : decode cX3_nextTime 17 = .ok (.lload_n 1, 1) := by decide +kernel
theorem dX3_nextTime_18 : decode cX3_nextTime 18 = .ok (.aload_n 0, 1) := by decide +kernel
theorem dX3_nextTime_19 : decode cX3_nextTime 19 = .ok (.getfield 10, 3) := by decide +kernel
theorem dX3_nextTime_22 : decode cX3_nextTime 22 = .ok (.iload_n 3, 1) := by decide +kernel
theorem dX3_nextTime_23 : decode cX3_nextTime 23 = .ok (.invokevirtual 142, 3) := by decide +kernel
theorem dX3_nextTime_26 : decode cX3_nextTime 26 = .ok (.checkcast 56, 3) := by decide +kernel
theorem dX3_nextTime_29 : decode cX3_nextTime 29 = .ok (.getfield 214, 3) := by decide +kernel
theorem dX3_nextTime_32 : decode cX3_nextTime 32 = .ok (.invokestatic 217, 3) := by decide +kernel
theorem dX3_nextTime_35 : decode cX3_nextTime 35 = .ok (.lstore_n 1, 1) := by decide +kernel
theorem dX3_nextTime_36 : decode cX3_nextTime 36 = .ok (.iinc 3 1, 3) := by decide +kernel
theorem dX3_nextTime_39 : decode cX3_nextTime 39 = .ok (.goto (-33), 3) := by decide +kernel
theorem dX3_nextTime_42 : decode cX3_nextTime 42 = .ok (.iconst 0, 1) := by decide +kernel
theorem dX3_nextTime_43 : decode cX3_nextTime 43 = .ok (.istore_n 3, 1) := by decide +kernel
theorem dX3_nextTime_44 : decode cX3_nextTime 44 = .ok (.iload_n 3, 1) := by decide +kernel
theorem dX3_nextTime_45 : decode cX3_nextTime 45 = .ok (.aload_n 0, 1) := by decide +kernel
theorem dX3_nextTime_46 : decode cX3_nextTime 46 = .ok (.getfield 21, 3) := by decide +kernel
theorem dX3_nextTime_49 : decode cX3_nextTime 49 = .ok (.arraylength, 1) := by decide +kernel
theorem dX3_nextTime_50 : decode cX3_nextTime 50 = .ok (.if_icmp .ge 23, 3) := by decide +kernel
theorem dX3_nextTime_53 : decode cX3_nextTime 53 = .ok (.lload_n 1, 1) := by decide +kernel
theorem dX3_nextTime_54 : decode cX3_nextTime 54 = .ok (.aload_n 0, 1) := by decide +kernel
theorem dX3_nextTime_55 : decode cX3_nextTime 55 = .ok (.getfield 21, 3) := by decide +kernel
theorem dX3_nextTime_58 : decode cX3_nextTime 58 = .ok (.iload_n 3, 1) := by decide +kernel
theorem dX3_nextTime_59 : decode cX3_nextTime 59 = .ok (.aaload, 1) := by decide +kernel
theorem dX3_nextTime_60 : decode cX3_nextTime 60 = .ok (.invokevirtual 221, 3) := by decide +kernel
theorem dX3_nextTime_63 : decode cX3_nextTime 63 = .ok (.invokestatic 217, 3) := by decide +kernel
theorem dX3_nextTime_66 : decode cX3_nextTime 66 = .ok (.lstore_n 1, 1) := by decide +kernel
theorem dX3_nextTime_67 : decode cX3_nextTime 67 = .ok (.iinc 3 1, 3) := by decide +kernel
theorem dX3_nextTime_70 : decode cX3_nextTime 70 = .ok (.goto (-26), 3) := by decide +kernel
theorem dX3_nextTime_73 : decode cX3_nextTime 73 = .ok (.lload_n 1, 1) := by decide +kernel
theorem dX3_nextTime_74 : decode cX3_nextTime 74 = .ok (.lreturn, 1) := by decide +kernel
set_option maxRecDepth 20000 in
theorem ggX3_actSender_X3_sendNext : GoodIn wsX3_actSender wsX3_sendNext := goodIn_r _ [8, 9, 10, 2, 11, 12, 13, 14, 15, 1, 16, 17, 18, 7, 19, 20, 21, 22, 23, 24, 25, 26, 27, 28, 29, 30, 31, 32, 33, 34, 35, 36, 37, 38, 39, 40, 41, 42, 43, 44, 45, 46, 47, 48, 49, 50, 51, 52, 53, 54, 55, 56, 57, 58, 59, 60, 61, 62, 63, 64, 65, 66, 67, 68, 69, 70, 71, 72, 73, 74, 75, 76, 77, 78, 79, 80, 81, 82, 83, 84, 85, 86, 87, 88, 89, 90, 91, 92, 93, 94, 95, 96, 97, 98, 99, 100, 101, 102, 103, 104, 105, 106, 107, 108, 109, 110, 111, 112, 113, 114, 115, 116, 117, 118, 119, 120, 121, 122, 123, 124, 125, 126, 127, 128, 129, 130, 131, 132, 133, 134, 135, 136, 137, 138, 139, 140, 141, 142, 143, 144, 145, 146, 147, 148, 149, 150, 151, 152, 153, 154, 155, 156, 157, 158, 159, 160, 161, 162, 163, 164, 165, 166, 167, 168, 169, 170, 171, 172, 173, 174, 175, 176, 177, 178, 179, 180, 181, 182, 183] (by decide +kernel) (by decide +kernel)
set_option maxRecDepth 20000 in
theorem gX3_actSender_X3_sendNext : GoodIn wsX3_actSender (wsV RX3 226 RX3 yX3_sendNext wsX3_sendNext) := goodIn_app (goodIn_of _ (by decide +kernel)) ggX3_actSender_X3_sendNext
set_option maxRecDepth 20000 in
theorem ggX3_actSender_X3_endSender : GoodIn wsX3_actSender wsX3_endSender := goodIn_r _ [38, 39, 40, 41, 42, 43, 44, 45, 46, 47, 48, 49, 50, 7, 51, 52, 159, 160, 161, 162, 163, 164, 165, 166, 167, 168, 169, 170, 171, 172, 150, 151, 152, 153, 154, 155, 156, 157, 158] (by decide +kernel) (by decide +kernel)
set_option maxRecDepth 20000 in
theorem gX3_actSender_X3_endSender : GoodIn wsX3_actSender (wsV RX3 178 RX3 yX3_endSender wsX3_endSender) := goodIn_app (goodIn_of _ (by decide +kernel)) ggX3_actSender_X3_endSender
theorem dX3_actSender_0 : decode cX3_actSender 0 = .ok (.iconst 0, 1) := by decide +kernel
theorem dX3_actSender_1 : decode cX3_actSender 1 = .ok (.istore_n 2, 1) := by decide +kernel
theorem dX3_actSender_2 : decode cX3_actSender 2 = .ok (.iload_n 2, 1) := by decide +kernel
theorem dX3_actSender_3 : decode cX3_actSender 3 = .ok (.sipush 6000, 3) := by decide +kernel
theorem dX3_actSender_6 : decode cX3_actSender 6 = .ok (.if_icmp .gt 43, 3) := by decide +kernel
theorem dX3_actSender_9 : decode cX3_actSender 9 = .ok (.aload_n 1, 1) := by decide +kernel
theorem dX3_actSender_10 : decode cX3_actSender 10 = .ok (.getfield 214, 3) := by decide +kernel
theorem dX3_actSender_13 : decode cX3_actSender 13 = .ok (.aload_n 0, 1) := by decide +kernel
theorem dX3_actSender_14 : decode cX3_actSender 14 = .ok (.getfield 120, 3) := by decide +kernel
theorem dX3_actSender_17 : decode cX3_actSender 17 = .ok (.lcmp, 1) := by decide +kernel
theorem dX3_actSender_18 : decode cX3_actSender 18 = .ok (.ifCond .gt 31, 3) := by decide +kernel
theorem dX3_actSender_21 : decode cX3_actSender 21 = .ok (.aload_n 1, 1) := by decide +kernel
theorem dX3_actSender_22 : decode cX3_actSender 22 = .ok (.getfield 223, 3) := by decide +kernel
theorem dX3_actSender_25 : decode cX3_actSender 25 = .ok (.iconst 2, 1) := by decide +kernel
theorem dX3_actSender_26 : decode cX3_actSender 26 = .ok (.if_icmp .ne 11, 3) := by decide +kernel
theorem dX3_actSender_29 : decode cX3_actSender 29 = .ok (.aload_n 0, 1) := by decide +kernel
theorem dX3_actSender_30 : decode cX3_actSender 30 = .ok (.aload_n 1, 1) := by decide +kernel
theorem dX3_actSender_31 : decode cX3_actSender 31 = .ok (.invokevirtual 226, 3) := by decide +kernel
theorem dX3_actSender_34 : decode cX3_actSender 34 = .ok (.goto 9, 3) := by decide +kernel
theorem dX3_actSender_37 : decode cX3_actSender 37 = .ok (.aload_n 0, 1) := by decide +kernel
theorem dX3_actSender_38 : decode cX3_actSender 38 = .ok (.aload_n 1, 1) := by decide +kernel
theorem dX3_actSender_39 : decode cX3_actSender 39 = .ok (.iconst 1, 1) := by decide +kernel
theorem dX3_actSender_40 : decode cX3_actSender 40 = .ok (.invokevirtual 178, 3) := by decide +kernel
theorem dX3_actSender_43 : decode cX3_actSender 43 = .ok (.iinc 2 1, 3) := by decide +kernel
theorem dX3_actSender_46 : decode cX3_actSender 46 = .ok (.goto (-44), 3) := by decide +kernel
theorem dX3_actSender_49 : decode cX3_actSender 49 = .ok (.return_, 1) := by decide +kernel
set_option maxRecDepth 20000 in
theorem ggX3_sendNext_X3_makeDataFrame : GoodIn wsX3_sendNext wsX3_makeDataFrame := goodIn_r _ [14, 15, 16, 17, 18, 19, 3, 20, 21, 22, 13, 23, 24, 25, 26, 27, 28, 29, 30, 31, 32, 33, 34, 35, 36, 37, 38, 39, 40, 41, 42, 43, 44, 45, 46, 47, 48, 49, 50, 51, 52, 53, 54, 55, 6, 56, 57, 58, 59, 60, 61, 62, 63, 64, 65, 66, 67, 68, 69, 70, 71, 72, 73, 74, 75, 76, 77, 78, 79, 80, 81, 82, 83, 84, 85, 86, 87, 88, 89, 90, 91, 92, 93, 94, 95, 96, 97, 98, 99, 100, 101, 102, 103, 104, 105, 106, 107, 108, 109, 110, 111, 112, 113, 5, 7, 114, 115, 116, 117, 118, 119, 120, 121, 122, 123, 124, 125, 126, 127, 128, 129, 130, 131, 132, 133, 134, 135, 154, 155, 156, 157, 158, 159, 160, 161, 162, 163, 164, 165, 166, 167, 168, 169, 170, 171, 172, 173, 174, 175, 145, 146, 147, 148, 149, 150, 151, 152, 153, 176, 177, 178] (by decide +kernel) (by decide +kernel)
set_option maxRecDepth 20000 in
theorem gX3_sendNext_X3_makeDataFrame : GoodIn wsX3_sendNext (wsV RX3 167 RX3 yX3_makeDataFrame wsX3_makeDataFrame) := goodIn_app (goodIn_of _ (by decide +kernel)) ggX3_sendNext_X3_makeDataFrame
set_option maxRecDepth 20000 in
theorem ggX3_sendNext_X2_isAllFramed : GoodIn wsX3_sendNext wsX2_isAllFramed := goodIn_r _ [139, 52, 53, 145, 146, 147, 148, 149, 150, 151, 152, 153] (by decide +kernel) (by decide +kernel)
set_option maxRecDepth 20000 in
theorem gX3_sendNext_X2_isAllFramed : GoodIn wsX3_sendNext (wsV RX3 232 RX2 yX2_isAllFramed wsX2_isAllFramed) := goodIn_app (goodIn_of _ (by decide +kernel)) ggX3_sendNext_X2_isAllFramed
set_option maxRecDepth 20000 in
theorem ggX3_sendNext_X2_rest : GoodIn wsX3_sendNext wsX2_rest := goodIn_r _ [39, 40, 41, 42, 145, 146, 147, 148, 149, 150, 151, 152, 153] (by decide +kernel) (by decide +kernel)
set_option maxRecDepth 20000 in
theorem gX3_sendNext_X2_rest : GoodIn wsX3_sendNext (wsV RX3 152 RX2 yX2_rest wsX2_rest) := goodIn_app (goodIn_of _ (by decide +kernel)) ggX3_sendNext_X2_rest
set_option maxRecDepth 20000 in
theorem ggX3_sendNext_X2_awaitFlow : GoodIn wsX3_sendNext wsX2_awaitFlow := goodIn_r _ [143, 40, 144, 42, 145, 146, 147, 148, 149, 150, 151, 152, 153] (by decide +kernel) (by decide +kernel)
set_option maxRecDepth 20000 in
theorem gX3_sendNext_X2_awaitFlow : GoodIn wsX3_sendNext (wsV RX3 171 RX2 yX2_awaitFlow wsX2_awaitFlow) := goodIn_app (goodIn_of _ (by decide +kernel)) ggX3_sendNext_X2_awaitFlow
theorem dX3_sendNext_0 : decode cX3_sendNext 0 = .ok (.aload_n 0, 1) := by decide +kernel
theorem dX3_sendNext_1 : decode cX3_sendNext 1 = .ok (.aload_n 1, 1) := by decide +kernel
theorem dX3_sendNext_2 : decode cX3_sendNext 2 = .ok (.iconst 2, 1) := by decide +kernel
theorem dX3_sendNext_3 : decode cX3_sendNext 3 = .ok (.aload_n 1, 1) := by decide +kernel
theorem dX3_sendNext_4 : decode cX3_sendNext 4 = .ok (.getfield 229, 3) := by decide +kernel
theorem dX3_sendNext_7 : decode cX3_sendNext 7 = .ok (.bipush 7, 2) := by decide +kernel
theorem dX3_sendNext_9 : decode cX3_sendNext 9 = .ok (.invokevirtual 167, 3) := by decide +kernel
theorem dX3_sendNext_12 : decode cX3_sendNext 12 = .ok (.ifCond .ne 4, 3) := by decide +kernel
theorem dX3_sendNext_15 : decode cX3_sendNext 15 = .ok (.return_, 1) := by decide +kernel
theorem dX3_sendNext_16 : decode cX3_sendNext 16 = .ok (.aload_n 1, 1) := by decide +kernel
theorem dX3_sendNext_17 : decode cX3_sendNext 17 = .ok (.aload_n 1, 1) := by decide +kernel
theorem dX3_sendNext_18 : decode cX3_sendNext 18 = .ok (.getfield 229, 3) := by decide +kernel
theorem dX3_sendNext_21 : decode cX3_sendNext 21 = .ok (.iconst 1, 1) := by decide +kernel
theorem dX3_sendNext_22 : decode cX3_sendNext 22 = .ok (.iadd, 1) := by decide +kernel
theorem dX3_sendNext_23 : decode cX3_sendNext 23 = .ok (.bipush 16, 2) := by decide +kernel
theorem dX3_sendNext_25 : decode cX3_sendNext 25 = .ok (.irem, 1) := by decide +kernel
theorem dX3_sendNext_26 : decode cX3_sendNext 26 = .ok (.putfield 229, 3) := by decide +kernel
theorem dX3_sendNext_29 : decode cX3_sendNext 29 = .ok (.aload_n 1, 1) := by decide +kernel
theorem dX3_sendNext_30 : decode cX3_sendNext 30 = .ok (.invokevirtual 232, 3) := by decide +kernel
theorem dX3_sendNext_33 : decode cX3_sendNext 33 = .ok (.ifCond .eq 11, 3) := by decide +kernel
theorem dX3_sendNext_36 : decode cX3_sendNext 36 = .ok (.aload_n 1, 1) := by decide +kernel
theorem dX3_sendNext_37 : decode cX3_sendNext 37 = .ok (.iconst 3, 1) := by decide +kernel
theorem dX3_sendNext_38 : decode cX3_sendNext 38 = .ok (.invokevirtual 152, 3) := by decide +kernel
theorem dX3_sendNext_41 : decode cX3_sendNext 41 = .ok (.goto 50, 3) := by decide +kernel
theorem dX3_sendNext_44 : decode cX3_sendNext 44 = .ok (.aload_n 1, 1) := by decide +kernel
theorem dX3_sendNext_45 : decode cX3_sendNext 45 = .ok (.getfield 235, 3) := by decide +kernel
theorem dX3_sendNext_48 : decode cX3_sendNext 48 = .ok (.iconst 1, 1) := by decide +kernel
theorem dX3_sendNext_49 : decode cX3_sendNext 49 = .ok (.if_icmp .ne 14, 3) := by decide +kernel
theorem dX3_sendNext_52 : decode cX3_sendNext 52 = .ok (.aload_n 1, 1) := by decide +kernel
theorem dX3_sendNext_53 : decode cX3_sendNext 53 = .ok (.aload_n 0, 1) := by decide +kernel
theorem dX3_sendNext_54 : decode cX3_sendNext 54 = .ok (.getfield 120, 3) := by decide +kernel
theorem dX3_sendNext_57 : decode cX3_sendNext 57 = .ok (.invokevirtual 171, 3) := by decide +kernel
theorem dX3_sendNext_60 : decode cX3_sendNext 60 = .ok (.goto 31, 3) := by decide +kernel
theorem dX3_sendNext_63 : decode cX3_sendNext 63 = .ok (.aload_n 1, 1) := by decide +kernel
theorem dX3_sendNext_64 : decode cX3_sendNext 64 = .ok (.iconst 0, 1) := by decide +kernel
theorem dX3_sendNext_65 : decode cX3_sendNext 65 = .ok (.aload_n 1, 1) := by decide +kernel
theorem dX3_sendNext_66 : decode cX3_sendNext 66 = .ok (.getfield 235, 3) := by decide +kernel
theorem dX3_sendNext_69 : decode cX3_sendNext 69 = .ok (.iconst 1, 1) := by decide +kernel
theorem dX3_sendNext_70 : decode cX3_sendNext 70 = .ok (.isub, 1) := by decide +kernel
theorem dX3_sendNext_71 : decode cX3_sendNext 71 = .ok (.invokestatic 238, 3) := by decide +kernel
theorem dX3_sendNext_74 : decode cX3_sendNext 74 = .ok (.putfield 235, 3) := by decide +kernel
theorem dX3_sendNext_77 : decode cX3_sendNext 77 = .ok (.aload_n 1, 1) := by decide +kernel
theorem dX3_sendNext_78 : decode cX3_sendNext 78 = .ok (.aload_n 0, 1) := by decide +kernel
theorem dX3_sendNext_79 : decode cX3_sendNext 79 = .ok (.getfield 120, 3) := by decide +kernel
theorem dX3_sendNext_82 : decode cX3_sendNext 82 = .ok (.aload_n 1, 1) := by decide +kernel
theorem dX3_sendNext_83 : decode cX3_sendNext 83 = .ok (.getfield 241, 3) := by decide +kernel
theorem dX3_sendNext_86 : decode cX3_sendNext 86 = .ok (.i2l, 1) := by decide +kernel
theorem dX3_sendNext_87 : decode cX3_sendNext 87 = .ok (.ladd, 1) := by decide +kernel
theorem dX3_sendNext_88 : decode cX3_sendNext 88 = .ok (.putfield 214, 3) := by decide +kernel
theorem dX3_sendNext_91 : decode cX3_sendNext 91 = .ok (.return_, 1) := by decide +kernel
set_option maxRecDepth 20000 in
theorem ggX3_actReceiver_X3_answer : GoodIn wsX3_actReceiver wsX3_answer := goodIn_r _ [8, 9, 10, 11, 12, 2, 13, 3, 14, 1, 15, 16, 17, 18, 19, 20, 7, 21, 22, 23, 24, 25, 26, 27, 28, 29, 30, 31, 32, 33, 34, 35, 36, 37, 38, 39, 40, 41, 42, 43, 44, 45, 46, 47, 48, 49, 50, 51, 52, 53, 54, 55, 56, 57, 58, 59, 60, 61, 62, 63, 64, 65, 66, 67, 68, 69, 70, 71, 72, 73, 74, 75, 76, 77, 78, 79, 80, 81, 82, 83, 84, 85, 86, 87, 88, 89, 90, 91, 92, 93, 94, 95, 96, 97, 98, 99, 100, 101, 102, 103, 104, 105, 106, 107, 108, 109, 110, 111, 112, 113, 114, 115, 116, 117, 118, 119, 120, 121, 122, 123, 124, 125, 126, 127, 128, 129, 130, 131, 132, 133, 134, 135, 136, 137, 138, 139, 140, 141, 142, 143, 144, 145, 146, 147, 148, 149, 150, 151, 152, 153, 154, 155, 156] (by decide +kernel) (by decide +kernel)
set_option maxRecDepth 20000 in
theorem gX3_actReceiver_X3_answer : GoodIn wsX3_actReceiver (wsV RX3 245 RX3 yX3_answer wsX3_answer) := goodIn_app (goodIn_of _ (by decide +kernel)) ggX3_actReceiver_X3_answer
set_option maxRecDepth 20000 in
theorem ggX3_actReceiver_X3_endReceiver : GoodIn wsX3_actReceiver wsX3_endReceiver := goodIn_r _ [39, 40, 41, 42, 43, 44, 45, 46, 47, 48, 49, 50, 51, 52, 7, 53, 54, 132, 133, 134, 135, 136, 137, 138, 139, 140, 141, 142, 143, 144, 145, 123, 124, 125, 126, 127, 128, 129, 130, 131] (by decide +kernel) (by decide +kernel)
set_option maxRecDepth 20000 in
theorem gX3_actReceiver_X3_endReceiver : GoodIn wsX3_actReceiver (wsV RX3 190 RX3 yX3_endReceiver wsX3_endReceiver) := goodIn_app (goodIn_of _ (by decide +kernel)) ggX3_actReceiver_X3_endReceiver
theorem dX3_actReceiver_0 : decode cX3_actReceiver 0 = .ok (.aload_n 1, 1) := by decide +kernel
theorem dX3_actReceiver_1 : decode cX3_actReceiver 1 = .ok (.getfield 242, 3) := by decide +kernel
theorem dX3_actReceiver_4 : decode cX3_actReceiver 4 = .ok (.aload_n 0, 1) := by decide +kernel
theorem dX3_actReceiver_5 : decode cX3_actReceiver 5 = .ok (.getfield 120, 3) := by decide +kernel
theorem dX3_actReceiver_8 : decode cX3_actReceiver 8 = .ok (.lcmp, 1) := by decide +kernel
theorem dX3_actReceiver_9 : decode cX3_actReceiver 9 = .ok (.ifCond .gt 8, 3) := by decide +kernel
theorem dX3_actReceiver_12 : decode cX3_actReceiver 12 = .ok (.aload_n 0, 1) := by decide +kernel
theorem dX3_actReceiver_13 : decode cX3_actReceiver 13 = .ok (.aload_n 1, 1) := by decide +kernel
theorem dX3_actReceiver_14 : decode cX3_actReceiver 14 = .ok (.invokevirtual 245, 3) := by decide +kernel
theorem dX3_actReceiver_17 : decode cX3_actReceiver 17 = .ok (.aload_n 1, 1) := by decide +kernel
theorem dX3_actReceiver_18 : decode cX3_actReceiver 18 = .ok (.getfield 248, 3) := by decide +kernel
theorem dX3_actReceiver_21 : decode cX3_actReceiver 21 = .ok (.aload_n 0, 1) := by decide +kernel
theorem dX3_actReceiver_22 : decode cX3_actReceiver 22 = .ok (.getfield 120, 3) := by decide +kernel
theorem dX3_actReceiver_25 : decode cX3_actReceiver 25 = .ok (.lcmp, 1) := by decide +kernel
theorem dX3_actReceiver_26 : decode cX3_actReceiver 26 = .ok (.ifCond .gt 9, 3) := by decide +kernel
theorem dX3_actReceiver_29 : decode cX3_actReceiver 29 = .ok (.aload_n 0, 1) := by decide +kernel
theorem dX3_actReceiver_30 : decode cX3_actReceiver 30 = .ok (.aload_n 1, 1) := by decide +kernel
theorem dX3_actReceiver_31 : decode cX3_actReceiver 31 = .ok (.iconst 2, 1) := by decide +kernel
theorem dX3_actReceiver_32 : decode cX3_actReceiver 32 = .ok (.invokevirtual 190, 3) := by decide +kernel
theorem dX3_actReceiver_35 : decode cX3_actReceiver 35 = .ok (.return_, 1) := by decide +kernel
set_option maxRecDepth 20000 in
theorem ggX3_reachSender_X3_findSender : GoodIn wsX3_reachSender wsX3_findSender := goodIn_r _ [7, 8, 9, 10, 11, 12, 13, 14, 15, 16, 17, 18, 19, 20, 21, 22, 23, 24, 25, 26, 27, 28, 29, 30, 31, 32, 96, 97, 98, 99, 100, 101, 102, 103, 104, 105, 106, 107, 108, 109, 110, 111, 112] (by decide +kernel) (by decide +kernel)
set_option maxRecDepth 20000 in
theorem gX3_reachSender_X3_findSender : GoodIn wsX3_reachSender (wsV RX3 65 RX3 yX3_findSender wsX3_findSender) := goodIn_app (goodIn_of _ (by decide +kernel)) ggX3_reachSender_X3_findSender
set_option maxRecDepth 20000 in
theorem ggX3_reachSender_X3_takeFlow : GoodIn wsX3_reachSender wsX3_takeFlow := goodIn_r _ [36, 37, 38, 39, 40, 41, 42, 6, 43, 44, 45, 46, 47, 48, 49, 50, 51, 52, 53, 54, 55, 56, 57, 58, 59, 60, 61, 62, 63, 64, 65, 66, 67, 68, 69, 70, 71, 72, 73, 74, 75, 76, 77, 78, 79, 80, 81, 82, 83, 84, 85, 86, 96, 97, 98, 99, 100, 101, 102, 103, 104, 105, 106, 107, 108, 109, 87, 88, 89, 90, 91, 92, 93, 94, 95] (by decide +kernel) (by decide +kernel)
set_option maxRecDepth 20000 in
theorem gX3_reachSender_X3_takeFlow : GoodIn wsX3_reachSender (wsV RX3 251 RX3 yX3_takeFlow wsX3_takeFlow) := goodIn_app (goodIn_of _ (by decide +kernel)) ggX3_reachSender_X3_takeFlow
theorem dX3_reachSender_0 : decode cX3_reachSender 0 = .ok (.aload_n 0, 1) := by decide +kernel
theorem dX3_reachSender_1 : decode cX3_reachSender 1 = .ok (.aload_n 1, 1) := by decide +kernel
theorem dX3_reachSender_2 : decode cX3_reachSender 2 = .ok (.getfield 85, 3) := by decide +kernel
theorem dX3_reachSender_5 : decode cX3_reachSender 5 = .ok (.invokevirtual 65, 3) := by decide +kernel
theorem dX3_reachSender_8 : decode cX3_reachSender 8 = .ok (.astore_n 2, 1) := by decide +kernel
theorem dX3_reachSender_9 : decode cX3_reachSender 9 = .ok (.aload_n 2, 1) := by decide +kernel
theorem dX3_reachSender_10 : decode cX3_reachSender 10 = .ok (.ifnonnull 5, 3) := by decide +kernel
theorem dX3_reachSender_13 : decode cX3_reachSender 13 = .ok (.iconst (-1), 1) := by decide +kernel
theorem dX3_reachSender_14 : decode cX3_reachSender 14 = .ok (.ireturn, 1) := by decide +kernel
theorem dX3_reachSender_15 : decode cX3_reachSender 15 = .ok (.aload_n 2, 1) := by decide +kernel
theorem dX3_reachSender_16 : decode cX3_reachSender 16 = .ok (.getfield 223, 3) := by decide +kernel
theorem dX3_reachSender_19 : decode cX3_reachSender 19 = .ok (.iconst 1, 1) := by decide +kernel
theorem dX3_reachSender_20 : decode cX3_reachSender 20 = .ok (.if_icmp .ne 9, 3) := by decide +kernel
theorem dX3_reachSender_23 : decode cX3_reachSender 23 = .ok (.aload_n 0, 1) := by decide +kernel
theorem dX3_reachSender_24 : decode cX3_reachSender 24 = .ok (.aload_n 2, 1) := by decide +kernel
theorem dX3_reachSender_25 : decode cX3_reachSender 25 = .ok (.aload_n 1, 1) := by decide +kernel
theorem dX3_reachSender_26 : decode cX3_reachSender 26 = .ok (.invokevirtual 251, 3) := by decide +kernel
theorem dX3_reachSender_29 : decode cX3_reachSender 29 = .ok (.aload_n 2, 1) := by decide +kernel
theorem dX3_reachSender_30 : decode cX3_reachSender 30 = .ok (.getfield 223, 3) := by decide +kernel
theorem dX3_reachSender_33 : decode cX3_reachSender 33 = .ok (.ireturn, 1) := by decide +kernel
set_option maxRecDepth 20000 in
theorem ggX3_takeFlow_X3_ticksOf : GoodIn wsX3_takeFlow wsX3_ticksOf := goodIn_r _ [8] (by decide +kernel) (by decide +kernel)
set_option maxRecDepth 20000 in
theorem gX3_takeFlow_X3_ticksOf : GoodIn wsX3_takeFlow (va_wsS RX3 255 yX3_ticksOf wsX3_ticksOf) := goodIn_app (goodIn_of _ (by decide +kernel)) ggX3_takeFlow_X3_ticksOf
set_option maxRecDepth 20000 in
theorem ggX3_takeFlow_X2_goOn : GoodIn wsX3_takeFlow wsX2_goOn := goodIn_r _ [13, 14, 15, 16, 17, 66, 67, 68, 69, 70, 71, 72, 73, 74] (by decide +kernel) (by decide +kernel)
set_option maxRecDepth 20000 in
theorem gX3_takeFlow_X2_goOn : GoodIn wsX3_takeFlow (wsV RX3 258 RX2 yX2_goOn wsX2_goOn) := goodIn_app (goodIn_of _ (by decide +kernel)) ggX3_takeFlow_X2_goOn
set_option maxRecDepth 20000 in
theorem ggX3_takeFlow_X3_takeWait : GoodIn wsX3_takeFlow wsX3_takeWait := goodIn_r _ [21, 22, 23, 4, 24, 25, 26, 7, 27, 28, 29, 30, 31, 12, 32, 14, 33, 17, 34, 35, 36, 37, 38, 39, 40, 41, 42, 43, 66, 67, 68, 69, 70, 71, 72, 73, 74, 52, 53, 54, 55, 56, 57, 58, 59, 60, 61, 62, 63, 64, 65] (by decide +kernel) (by decide +kernel)
set_option maxRecDepth 20000 in
theorem gX3_takeFlow_X3_takeWait : GoodIn wsX3_takeFlow (wsV RX3 262 RX3 yX3_takeWait wsX3_takeWait) := goodIn_app (goodIn_of _ (by decide +kernel)) ggX3_takeFlow_X3_takeWait
set_option maxRecDepth 20000 in
theorem ggX3_takeFlow_X3_endSender : GoodIn wsX3_takeFlow wsX3_endSender := goodIn_r _ [27, 28, 29, 30, 31, 12, 32, 14, 33, 17, 34, 35, 36, 7, 37, 38, 52, 53, 54, 55, 56, 57, 58, 59, 60, 61, 62, 63, 64, 65, 66, 67, 68, 69, 70, 71, 72, 73, 74] (by decide +kernel) (by decide +kernel)
set_option maxRecDepth 20000 in
theorem gX3_takeFlow_X3_endSender : GoodIn wsX3_takeFlow (wsV RX3 178 RX3 yX3_endSender wsX3_endSender) := goodIn_app (goodIn_of _ (by decide +kernel)) ggX3_takeFlow_X3_endSender
theorem dX3_takeFlow_0 : decode cX3_takeFlow 0 = .ok (.aload_n 2, 1) := by decide +kernel
theorem dX3_takeFlow_1 : decode cX3_takeFlow 1 = .ok (.getfield 88, 3) := by decide +kernel
theorem dX3_takeFlow_4 : decode cX3_takeFlow 4 = .ok (.lookupswitch 58 #[(0, 28), (1, 50)], 28) := by decide +kernel
theorem dX3_takeFlow_32 : decode cX3_takeFlow 32 = .ok (.aload_n 1, 1) := by decide +kernel
theorem dX3_takeFlow_33 : decode cX3_takeFlow 33 = .ok (.aload_n 2, 1) := by decide +kernel
theorem dX3_takeFlow_34 : decode cX3_takeFlow 34 = .ok (.getfield 91, 3) := by decide +kernel
theorem dX3_takeFlow_37 : decode cX3_takeFlow 37 = .ok (.aload_n 2, 1) := by decide +kernel
theorem dX3_takeFlow_38 : decode cX3_takeFlow 38 = .ok (.getfield 97, 3) := by decide +kernel
theorem dX3_takeFlow_41 : decode cX3_takeFlow 41 = .ok (.invokestatic 255, 3) := by decide +kernel
theorem dX3_takeFlow_44 : decode cX3_takeFlow 44 = .ok (.aload_n 0, 1) := by decide +kernel
theorem dX3_takeFlow_45 : decode cX3_takeFlow 45 = .ok (.getfield 120, 3) := by decide +kernel
theorem dX3_takeFlow_48 : decode cX3_takeFlow 48 = .ok (.invokevirtual 258, 3) := by decide +kernel
theorem dX3_takeFlow_51 : decode cX3_takeFlow 51 = .ok (.goto 17, 3) := by decide +kernel
theorem dX3_takeFlow_54 : decode cX3_takeFlow 54 = .ok (.aload_n 0, 1) := by decide +kernel
theorem dX3_takeFlow_55 : decode cX3_takeFlow 55 = .ok (.aload_n 1, 1) := by decide +kernel
theorem dX3_takeFlow_56 : decode cX3_takeFlow 56 = .ok (.invokevirtual 262, 3) := by decide +kernel
theorem dX3_takeFlow_59 : decode cX3_takeFlow 59 = .ok (.goto 9, 3) := by decide +kernel
theorem dX3_takeFlow_62 : decode cX3_takeFlow 62 = .ok (.aload_n 0, 1) := by decide +kernel
theorem dX3_takeFlow_63 : decode cX3_takeFlow 63 = .ok (.aload_n 1, 1) := by decide +kernel
theorem dX3_takeFlow_64 : decode cX3_takeFlow 64 = .ok (.iconst 4, 1) := by decide +kernel
theorem dX3_takeFlow_65 : decode cX3_takeFlow 65 = .ok (.invokevirtual 178, 3) := by decide +kernel
theorem dX3_takeFlow_68 : decode cX3_takeFlow 68 = .ok (.return_, 1) := by decide +kernel
set_option maxRecDepth 20000 in
theorem ggX3_takeWait_X3_endSender : GoodIn wsX3_takeWait wsX3_endSender := goodIn_r _ [8, 9, 10, 11, 12, 13, 14, 15, 16, 17, 18, 19, 20, 7, 21, 22, 37, 38, 39, 40, 41, 42, 43, 44, 45, 46, 47, 48, 49, 50, 28, 29, 30, 31, 32, 33, 34, 35, 36] (by decide +kernel) (by decide +kernel)
set_option maxRecDepth 20000 in
theorem gX3_takeWait_X3_endSender : GoodIn wsX3_takeWait (wsV RX3 178 RX3 yX3_endSender wsX3_endSender) := goodIn_app (goodIn_of _ (by decide +kernel)) ggX3_takeWait_X3_endSender
set_option maxRecDepth 20000 in
theorem ggX3_takeWait_X2_awaitFlow : GoodIn wsX3_takeWait wsX2_awaitFlow := goodIn_r _ [26, 15, 27, 17, 28, 29, 30, 31, 32, 33, 34, 35, 36] (by decide +kernel) (by decide +kernel)
set_option maxRecDepth 20000 in
theorem gX3_takeWait_X2_awaitFlow : GoodIn wsX3_takeWait (wsV RX3 171 RX2 yX2_awaitFlow wsX2_awaitFlow) := goodIn_app (goodIn_of _ (by decide +kernel)) ggX3_takeWait_X2_awaitFlow
theorem dX3_takeWait_0 : decode cX3_takeWait 0 = .ok (.aload_n 1, 1) := by decide +kernel
theorem dX3_takeWait_1 : decode cX3_takeWait 1 = .ok (.dup, 1) := by decide +kernel
theorem dX3_takeWait_2 : decode cX3_takeWait 2 = .ok (.getfield 265, 3) := by decide +kernel
theorem dX3_takeWait_5 : decode cX3_takeWait 5 = .ok (.iconst 1, 1) := by decide +kernel
theorem dX3_takeWait_6 : decode cX3_takeWait 6 = .ok (.iadd, 1) := by decide +kernel
theorem dX3_takeWait_7 : decode cX3_takeWait 7 = .ok (.putfield 265, 3) := by decide +kernel
theorem dX3_takeWait_10 : decode cX3_takeWait 10 = .ok (.aload_n 1, 1) := by decide +kernel
theorem dX3_takeWait_11 : decode cX3_takeWait 11 = .ok (.getfield 265, 3) := by decide +kernel
theorem dX3_takeWait_14 : decode cX3_takeWait 14 = .ok (.aload_n 0, 1) := by decide +kernel
theorem dX3_takeWait_15 : decode cX3_takeWait 15 = .ok (.getfield 40, 3) := by decide +kernel
theorem dX3_takeWait_18 : decode cX3_takeWait 18 = .ok (.if_icmp .le 12, 3) := by decide +kernel
theorem dX3_takeWait_21 : decode cX3_takeWait 21 = .ok (.aload_n 0, 1) := by decide +kernel
theorem dX3_takeWait_22 : decode cX3_takeWait 22 = .ok (.aload_n 1, 1) := by decide +kernel
theorem dX3_takeWait_23 : decode cX3_takeWait 23 = .ok (.iconst 5, 1) := by decide +kernel
theorem dX3_takeWait_24 : decode cX3_takeWait 24 = .ok (.invokevirtual 178, 3) := by decide +kernel
theorem dX3_takeWait_27 : decode cX3_takeWait 27 = .ok (.goto 11, 3) := by decide +kernel
theorem dX3_takeWait_30 : decode cX3_takeWait 30 = .ok (.aload_n 1, 1) := by decide +kernel
theorem dX3_takeWait_31 : decode cX3_takeWait 31 = .ok (.aload_n 0, 1) := by decide +kernel
theorem dX3_takeWait_32 : decode cX3_takeWait 32 = .ok (.getfield 120, 3) := by decide +kernel
theorem dX3_takeWait_35 : decode cX3_takeWait 35 = .ok (.invokevirtual 171, 3) := by decide +kernel
theorem dX3_takeWait_38 : decode cX3_takeWait 38 = .ok (.return_, 1) := by decide +kernel
theorem dX3_ticksOf_0 : decode cX3_ticksOf 0 = .ok (.iload_n 0, 1) := by decide +kernel
theorem dX3_ticksOf_1 : decode cX3_ticksOf 1 = .ok (.ifCond .lt 11, 3) := by decide +kernel
theorem dX3_ticksOf_4 : decode cX3_ticksOf 4 = .ok (.iload_n 0, 1) := by decide +kernel
theorem dX3_ticksOf_5 : decode cX3_ticksOf 5 = .ok (.bipush 127, 2) := by decide +kernel
theorem dX3_ticksOf_7 : decode cX3_ticksOf 7 = .ok (.if_icmp .gt 5, 3) := by decide +kernel
theorem dX3_ticksOf_10 : decode cX3_ticksOf 10 = .ok (.iload_n 0, 1) := by decide +kernel
theorem dX3_ticksOf_11 : decode cX3_ticksOf 11 = .ok (.ireturn, 1) := by decide +kernel
theorem dX3_ticksOf_12 : decode cX3_ticksOf 12 = .ok (.iload_n 0, 1) := by decide +kernel
theorem dX3_ticksOf_13 : decode cX3_ticksOf 13 = .ok (.sipush 241, 3) := by decide +kernel
theorem dX3_ticksOf_16 : decode cX3_ticksOf 16 = .ok (.if_icmp .lt 14, 3) := by decide +kernel
theorem dX3_ticksOf_19 : decode cX3_ticksOf 19 = .ok (.iload_n 0, 1) := by decide +kernel
theorem dX3_ticksOf_20 : decode cX3_ticksOf 20 = .ok (.sipush 249, 3) := by decide +kernel
theorem dX3_ticksOf_23 : decode cX3_ticksOf 23 = .ok (.if_icmp .gt 7, 3) := by decide +kernel
theorem dX3_ticksOf_26 : decode cX3_ticksOf 26 = .ok (.iconst 1, 1) := by decide +kernel
theorem dX3_ticksOf_27 : decode cX3_ticksOf 27 = .ok (.goto 5, 3) := by decide +kernel
theorem dX3_ticksOf_30 : decode cX3_ticksOf 30 = .ok (.bipush 127, 2) := by decide +kernel
theorem dX3_ticksOf_32 : decode cX3_ticksOf 32 = .ok (.ireturn, 1) := by decide +kernel
set_option maxRecDepth 20000 in
theorem ggX3_reachReceiver_X3_receiverOf : GoodIn wsX3_reachReceiver wsX3_receiverOf := goodIn_r _ [9, 10, 11, 12, 13, 14, 196, 197, 198, 199, 200, 201, 202, 203, 204, 205, 206, 207, 208, 209] (by decide +kernel) (by decide +kernel)
set_option maxRecDepth 20000 in
theorem gX3_reachReceiver_X3_receiverOf : GoodIn wsX3_reachReceiver (wsV RX3 204 RX3 yX3_receiverOf wsX3_receiverOf) := goodIn_app (goodIn_of _ (by decide +kernel)) ggX3_reachReceiver_X3_receiverOf
set_option maxRecDepth 20000 in
theorem ggX3_reachReceiver_X1_isReceiving : GoodIn wsX3_reachReceiver wsX1_isReceiving := goodIn_r _ [19, 20, 21, 187, 188, 189, 190, 191, 192, 193, 194, 195] (by decide +kernel) (by decide +kernel)
set_option maxRecDepth 20000 in
theorem gX3_reachReceiver_X1_isReceiving : GoodIn wsX3_reachReceiver (wsV RX3 268 RX1 yX1_isReceiving wsX1_isReceiving) := goodIn_app (goodIn_of _ (by decide +kernel)) ggX3_reachReceiver_X1_isReceiving
set_option maxRecDepth 20000 in
theorem ggX3_reachReceiver_X3_takeConsecutive : GoodIn wsX3_reachReceiver wsX3_takeConsecutive := goodIn_r _ [25, 26, 27, 4, 28, 29, 30, 31, 32, 33, 34, 8, 35, 36, 37, 38, 39, 18, 40, 20, 41, 42, 43, 44, 45, 46, 47, 48, 49, 50, 51, 52, 53, 54, 55, 56, 57, 58, 59, 60, 61, 62, 63, 64, 65, 66, 67, 68, 69, 70, 71, 72, 73, 74, 75, 76, 77, 78, 79, 80, 81, 82, 83, 84, 85, 86, 87, 88, 89, 90, 91, 92, 93, 94, 95, 96, 97, 98, 99, 100, 101, 102, 103, 104, 105, 106, 107, 108, 109, 110, 111, 112, 113, 114, 115, 116, 117, 118, 119, 120, 121, 122, 123, 124, 125, 126, 127, 128, 129, 130, 131, 132, 133, 134, 135, 136, 137, 138, 139, 140, 141, 142, 143, 144, 145, 146, 147, 148, 149, 150, 151, 152, 153, 154, 155, 156, 157, 158, 159, 160, 161, 162, 163, 164, 165, 179, 180, 181, 182, 183, 184, 185, 186, 187, 188, 189, 190, 191, 192, 193, 194, 195, 196, 197, 198, 199, 200, 201, 202, 203, 204, 205, 206, 207, 208, 209, 210, 211, 212] (by decide +kernel) (by decide +kernel)
set_option maxRecDepth 20000 in
theorem gX3_reachReceiver_X3_takeConsecutive : GoodIn wsX3_reachReceiver (wsV RX3 271 RX3 yX3_takeConsecutive wsX3_takeConsecutive) := goodIn_app (goodIn_of _ (by decide +kernel)) ggX3_reachReceiver_X3_takeConsecutive
set_option maxRecDepth 20000 in
theorem ggX3_reachReceiver_X3_endReceiver : GoodIn wsX3_reachReceiver wsX3_endReceiver := goodIn_r _ [35, 36, 37, 38, 39, 18, 40, 20, 41, 42, 43, 44, 45, 46, 8, 47, 48, 196, 197, 198, 199, 200, 201, 202, 203, 204, 205, 206, 207, 208, 209, 187, 188, 189, 190, 191, 192, 193, 194, 195] (by decide +kernel) (by decide +kernel)
set_option maxRecDepth 20000 in
theorem gX3_reachReceiver_X3_endReceiver : GoodIn wsX3_reachReceiver (wsV RX3 190 RX3 yX3_endReceiver wsX3_endReceiver) := goodIn_app (goodIn_of _ (by decide +kernel)) ggX3_reachReceiver_X3_endReceiver
set_option maxRecDepth 20000 in
theorem ggX3_reachReceiver_X3_becomeWhole : GoodIn wsX3_reachReceiver wsX3_becomeWhole := goodIn_r _ [71, 72, 44, 45, 46, 8, 47, 48, 37, 38, 39, 18, 40, 20, 41, 42, 43, 196, 197, 198, 199, 200, 201, 202, 203, 204, 205, 206, 207, 208, 209, 187, 188, 189, 190, 191, 192, 193, 194, 195] (by decide +kernel) (by decide +kernel)
set_option maxRecDepth 20000 in
theorem gX3_reachReceiver_X3_becomeWhole : GoodIn wsX3_reachReceiver (wsV RX3 277 RX3 yX3_becomeWhole wsX3_becomeWhole) := goodIn_app (goodIn_of _ (by decide +kernel)) ggX3_reachReceiver_X3_becomeWhole
set_option maxRecDepth 20000 in
theorem ggX3_reachReceiver_X3_takeFirst : GoodIn wsX3_reachReceiver wsX3_takeFirst := goodIn_r _ [169, 26, 170, 1, 4, 28, 86, 87, 88, 8, 89, 90, 91, 92, 93, 94, 95, 96, 97, 98, 99, 100, 101, 102, 103, 32, 33, 34, 35, 36, 37, 38, 39, 18, 40, 20, 41, 42, 43, 44, 45, 46, 47, 48, 104, 105, 106, 107, 108, 109, 110, 111, 112, 113, 114, 115, 116, 117, 118, 119, 120, 121, 122, 123, 124, 125, 126, 127, 128, 129, 130, 131, 132, 133, 134, 135, 136, 137, 138, 139, 57, 140, 141, 142, 143, 144, 145, 146, 147, 148, 149, 150, 151, 152, 153, 154, 155, 156, 157, 158, 159, 160, 161, 162, 163, 164, 56, 58, 165, 60, 61, 62, 171, 172, 173, 174, 21, 175, 53, 54, 176, 177, 178, 49, 50, 51, 52, 55, 59, 63, 73, 74, 75, 76, 77, 78, 79, 80, 81, 82, 83, 84, 85, 31, 30, 179, 180, 181, 182, 183, 184, 185, 186, 196, 197, 198, 199, 200, 201, 202, 203, 204, 205, 206, 207, 208, 209, 210, 211, 212, 187, 188, 189, 190, 191, 192, 193, 194, 195] (by decide +kernel) (by decide +kernel)
set_option maxRecDepth 20000 in
theorem gX3_reachReceiver_X3_takeFirst : GoodIn wsX3_reachReceiver (wsV RX3 281 RX3 yX3_takeFirst wsX3_takeFirst) := goodIn_app (goodIn_of _ (by decide +kernel)) ggX3_reachReceiver_X3_takeFirst
theorem dX3_reachReceiver_0 : decode cX3_reachReceiver 0 = .ok (.aload_n 0, 1) := by decide +kernel
theorem dX3_reachReceiver_1 : decode cX3_reachReceiver 1 = .ok (.aload_n 1, 1) := by decide +kernel
theorem dX3_reachReceiver_2 : decode cX3_reachReceiver 2 = .ok (.getfield 85, 3) := by decide +kernel
theorem dX3_reachReceiver_5 : decode cX3_reachReceiver 5 = .ok (.invokevirtual 204, 3) := by decide +kernel
theorem dX3_reachReceiver_8 : decode cX3_reachReceiver 8 = .ok (.astore_n 2, 1) := by decide +kernel
theorem dX3_reachReceiver_9 : decode cX3_reachReceiver 9 = .ok (.aload_n 1, 1) := by decide +kernel
theorem dX3_reachReceiver_10 : decode cX3_reachReceiver 10 = .ok (.getfield 82, 3) := by decide +kernel
theorem dX3_reachReceiver_13 : decode cX3_reachReceiver 13 = .ok (.iconst 2, 1) := by decide +kernel
theorem dX3_reachReceiver_14 : decode cX3_reachReceiver 14 = .ok (.if_icmp .ne 25, 3) := by decide +kernel
theorem dX3_reachReceiver_17 : decode cX3_reachReceiver 17 = .ok (.aload_n 2, 1) := by decide +kernel
theorem dX3_reachReceiver_18 : decode cX3_reachReceiver 18 = .ok (.aload_n 1, 1) := by decide +kernel
theorem dX3_reachReceiver_19 : decode cX3_reachReceiver 19 = .ok (.getfield 85, 3) := by decide +kernel
theorem dX3_reachReceiver_22 : decode cX3_reachReceiver 22 = .ok (.invokevirtual 268, 3) := by decide +kernel
theorem dX3_reachReceiver_25 : decode cX3_reachReceiver 25 = .ok (.ifCond .eq 9, 3) := by decide +kernel
theorem dX3_reachReceiver_28 : decode cX3_reachReceiver 28 = .ok (.aload_n 0, 1) := by decide +kernel
theorem dX3_reachReceiver_29 : decode cX3_reachReceiver 29 = .ok (.aload_n 2, 1) := by decide +kernel
theorem dX3_reachReceiver_30 : decode cX3_reachReceiver 30 = .ok (.aload_n 1, 1) := by decide +kernel
theorem dX3_reachReceiver_31 : decode cX3_reachReceiver 31 = .ok (.invokevirtual 271, 3) := by decide +kernel
theorem dX3_reachReceiver_34 : decode cX3_reachReceiver 34 = .ok (.aload_n 2, 1) := by decide +kernel
theorem dX3_reachReceiver_35 : decode cX3_reachReceiver 35 = .ok (.getfield 275, 3) := by decide +kernel
theorem dX3_reachReceiver_38 : decode cX3_reachReceiver 38 = .ok (.ireturn, 1) := by decide +kernel
theorem dX3_reachReceiver_39 : decode cX3_reachReceiver 39 = .ok (.aload_n 2, 1) := by decide +kernel
theorem dX3_reachReceiver_40 : decode cX3_reachReceiver 40 = .ok (.getfield 275, 3) := by decide +kernel
theorem dX3_reachReceiver_43 : decode cX3_reachReceiver 43 = .ok (.iconst 1, 1) := by decide +kernel
theorem dX3_reachReceiver_44 : decode cX3_reachReceiver 44 = .ok (.if_icmp .ne 10, 3) := by decide +kernel
theorem dX3_reachReceiver_47 : decode cX3_reachReceiver 47 = .ok (.aload_n 0, 1) := by decide +kernel
theorem dX3_reachReceiver_48 : decode cX3_reachReceiver 48 = .ok (.aload_n 2, 1) := by decide +kernel
theorem dX3_reachReceiver_49 : decode cX3_reachReceiver 49 = .ok (.bipush 6, 2) := by decide +kernel
theorem dX3_reachReceiver_51 : decode cX3_reachReceiver 51 = .ok (.invokevirtual 190, 3) := by decide +kernel
theorem dX3_reachReceiver_54 : decode cX3_reachReceiver 54 = .ok (.aload_n 1, 1) := by decide +kernel
theorem dX3_reachReceiver_55 : decode cX3_reachReceiver 55 = .ok (.getfield 82, 3) := by decide +kernel
theorem dX3_reachReceiver_58 : decode cX3_reachReceiver 58 = .ok (.ifCond .ne 15, 3) := by decide +kernel
theorem dX3_reachReceiver_61 : decode cX3_reachReceiver 61 = .ok (.aload_n 0, 1) := by decide +kernel
theorem dX3_reachReceiver_62 : decode cX3_reachReceiver 62 = .ok (.aload_n 2, 1) := by decide +kernel
theorem dX3_reachReceiver_63 : decode cX3_reachReceiver 63 = .ok (.aload_n 1, 1) := by decide +kernel
theorem dX3_reachReceiver_64 : decode cX3_reachReceiver 64 = .ok (.getfield 276, 3) := by decide +kernel
theorem dX3_reachReceiver_67 : decode cX3_reachReceiver 67 = .ok (.invokevirtual 277, 3) := by decide +kernel
theorem dX3_reachReceiver_70 : decode cX3_reachReceiver 70 = .ok (.goto 9, 3) := by decide +kernel
theorem dX3_reachReceiver_73 : decode cX3_reachReceiver 73 = .ok (.aload_n 0, 1) := by decide +kernel
theorem dX3_reachReceiver_74 : decode cX3_reachReceiver 74 = .ok (.aload_n 2, 1) := by decide +kernel
theorem dX3_reachReceiver_75 : decode cX3_reachReceiver 75 = .ok (.aload_n 1, 1) := by decide +kernel
theorem dX3_reachReceiver_76 : decode cX3_reachReceiver 76 = .ok (.invokevirtual 281, 3) := by decide +kernel
theorem dX3_reachReceiver_79 : decode cX3_reachReceiver 79 = .ok (.aload_n 2, 1) := by decide +kernel
theorem dX3_reachReceiver_80 : decode cX3_reachReceiver 80 = .ok (.getfield 275, 3) := by decide +kernel
theorem dX3_reachReceiver_83 : decode cX3_reachReceiver 83 = .ok (.ireturn, 1) := by decide +kernel
set_option maxRecDepth 20000 in
theorem ggX3_takeFirst_X3_makeFlowFrame : GoodIn wsX3_takeFirst wsX3_makeFlowFrame := goodIn_r _ [10, 11, 12, 13, 14, 5, 15, 16, 17, 9, 18, 19, 20, 21, 22, 23, 24, 25, 26, 27, 28, 29, 30, 31, 32, 33, 34, 35, 36, 37, 38, 39, 40, 41, 42, 43, 44, 45, 46, 47, 48, 49, 50, 51, 52, 53, 54, 55, 56, 57, 58, 59, 60, 61, 62, 63, 64, 65, 66, 67, 68, 69, 70, 71, 72, 73, 74, 75, 76, 77, 78, 79, 80, 81, 82, 83, 84, 85, 86, 87, 88, 89, 90, 91, 92, 93, 94, 95, 96, 97, 98, 99, 100, 101, 102, 103, 104, 105, 106, 107, 108, 109, 110, 111, 153, 154, 155, 156, 157, 158, 159, 160, 161, 162, 163, 164, 165, 166, 145, 146, 147, 148, 149, 150, 151, 152, 167, 168, 169, 170, 171, 172, 173, 174, 175, 176, 177, 178] (by decide +kernel) (by decide +kernel)
set_option maxRecDepth 20000 in
theorem gX3_takeFirst_X3_makeFlowFrame : GoodIn wsX3_takeFirst (wsV RX3 284 RX3 yX3_makeFlowFrame wsX3_makeFlowFrame) := goodIn_app (goodIn_of _ (by decide +kernel)) ggX3_takeFirst_X3_makeFlowFrame
set_option maxRecDepth 20000 in
theorem ggX3_takeFirst_X3_endReceiver : GoodIn wsX3_takeFirst wsX3_endReceiver := goodIn_r _ [28, 29, 30, 31, 32, 33, 34, 35, 36, 37, 38, 39, 40, 41, 9, 42, 43, 153, 154, 155, 156, 157, 158, 159, 160, 161, 162, 163, 164, 165, 166, 170, 171, 172, 173, 174, 175, 176, 177, 178] (by decide +kernel) (by decide +kernel)
set_option maxRecDepth 20000 in
theorem gX3_takeFirst_X3_endReceiver : GoodIn wsX3_takeFirst (wsV RX3 190 RX3 yX3_endReceiver wsX3_endReceiver) := goodIn_app (goodIn_of _ (by decide +kernel)) ggX3_takeFirst_X3_endReceiver
set_option maxRecDepth 20000 in
theorem ggX3_takeFirst_X1_begin : GoodIn wsX3_takeFirst wsX1_begin := goodIn_r _ [115, 35, 116, 117, 118, 119, 120, 121, 122, 170, 171, 172, 173, 174, 175, 176, 177, 178] (by decide +kernel) (by decide +kernel)
set_option maxRecDepth 20000 in
theorem gX3_takeFirst_X1_begin : GoodIn wsX3_takeFirst (wsV RX3 288 RX1 yX1_begin wsX1_begin) := goodIn_app (goodIn_of _ (by decide +kernel)) ggX3_takeFirst_X1_begin
set_option maxRecDepth 20000 in
theorem ggX3_takeFirst_X1_take : GoodIn wsX3_takeFirst wsX1_take := goodIn_r _ [126, 118, 119, 127, 106, 80, 107, 128, 109, 110, 111, 36, 37, 129, 38, 170, 171, 172, 173, 174, 175, 176, 177, 178] (by decide +kernel) (by decide +kernel)
set_option maxRecDepth 20000 in
theorem gX3_takeFirst_X1_take : GoodIn wsX3_takeFirst (wsV RX3 292 RX1 yX1_take wsX1_take) := goodIn_app (goodIn_of _ (by decide +kernel)) ggX3_takeFirst_X1_take
set_option maxRecDepth 20000 in
theorem ggX3_takeFirst_X3_answer : GoodIn wsX3_takeFirst wsX3_answer := goodIn_r _ [133, 134, 135, 136, 137, 5, 138, 139, 140, 141, 142, 143, 144, 6, 7, 8, 9, 10, 11, 12, 13, 14, 15, 16, 17, 18, 19, 20, 21, 22, 23, 24, 25, 26, 27, 28, 29, 30, 31, 32, 33, 34, 35, 36, 37, 38, 39, 40, 41, 42, 43, 44, 45, 46, 47, 48, 49, 50, 51, 52, 53, 54, 55, 56, 57, 58, 59, 60, 61, 62, 63, 64, 65, 66, 67, 68, 69, 70, 71, 72, 73, 74, 75, 76, 77, 78, 79, 80, 81, 82, 83, 84, 85, 86, 87, 88, 89, 90, 91, 92, 93, 94, 95, 96, 97, 98, 99, 100, 101, 102, 103, 104, 105, 106, 107, 108, 109, 110, 111, 170, 171, 172, 173, 174, 175, 176, 177, 178, 153, 154, 155, 156, 157, 158, 159, 160, 161, 162, 163, 164, 165, 166, 145, 146, 147, 148, 149, 150, 151, 152, 167, 168, 169] (by decide +kernel) (by decide +kernel)
set_option maxRecDepth 20000 in
theorem gX3_takeFirst_X3_answer : GoodIn wsX3_takeFirst (wsV RX3 245 RX3 yX3_answer wsX3_answer) := goodIn_app (goodIn_of _ (by decide +kernel)) ggX3_takeFirst_X3_answer
theorem dX3_takeFirst_0 : decode cX3_takeFirst 0 = .ok (.aload_n 2, 1) := by decide +kernel
theorem dX3_takeFirst_1 : decode cX3_takeFirst 1 = .ok (.getfield 88, 3) := by decide +kernel
theorem dX3_takeFirst_4 : decode cX3_takeFirst 4 = .ok (.aload_n 0, 1) := by decide +kernel
theorem dX3_takeFirst_5 : decode cX3_takeFirst 5 = .ok (.getfield 44, 3) := by decide +kernel
theorem dX3_takeFirst_8 : decode cX3_takeFirst 8 = .ok (.if_icmp .le 25, 3) := by decide +kernel
theorem dX3_takeFirst_11 : decode cX3_takeFirst 11 = .ok (.aload_n 0, 1) := by decide +kernel
theorem dX3_takeFirst_12 : decode cX3_takeFirst 12 = .ok (.aload_n 1, 1) := by decide +kernel
theorem dX3_takeFirst_13 : decode cX3_takeFirst 13 = .ok (.aload_n 2, 1) := by decide +kernel
theorem dX3_takeFirst_14 : decode cX3_takeFirst 14 = .ok (.getfield 85, 3) := by decide +kernel
theorem dX3_takeFirst_17 : decode cX3_takeFirst 17 = .ok (.iconst 2, 1) := by decide +kernel
theorem dX3_takeFirst_18 : decode cX3_takeFirst 18 = .ok (.iconst 0, 1) := by decide +kernel
theorem dX3_takeFirst_19 : decode cX3_takeFirst 19 = .ok (.iconst 0, 1) := by decide +kernel
theorem dX3_takeFirst_20 : decode cX3_takeFirst 20 = .ok (.invokevirtual 284, 3) := by decide +kernel
theorem dX3_takeFirst_23 : decode cX3_takeFirst 23 = .ok (.ifCond .eq 9, 3) := by decide +kernel
theorem dX3_takeFirst_26 : decode cX3_takeFirst 26 = .ok (.aload_n 0, 1) := by decide +kernel
theorem dX3_takeFirst_27 : decode cX3_takeFirst 27 = .ok (.aload_n 1, 1) := by decide +kernel
theorem dX3_takeFirst_28 : decode cX3_takeFirst 28 = .ok (.iconst 4, 1) := by decide +kernel
theorem dX3_takeFirst_29 : decode cX3_takeFirst 29 = .ok (.invokevirtual 190, 3) := by decide +kernel
theorem dX3_takeFirst_32 : decode cX3_takeFirst 32 = .ok (.return_, 1) := by decide +kernel
theorem dX3_takeFirst_33 : decode cX3_takeFirst 33 = .ok (.aload_n 1, 1) := by decide +kernel
theorem dX3_takeFirst_34 : decode cX3_takeFirst 34 = .ok (.aload_n 2, 1) := by decide +kernel
theorem dX3_takeFirst_35 : decode cX3_takeFirst 35 = .ok (.getfield 85, 3) := by decide +kernel
theorem dX3_takeFirst_38 : decode cX3_takeFirst 38 = .ok (.aload_n 2, 1) := by decide +kernel
theorem dX3_takeFirst_39 : decode cX3_takeFirst 39 = .ok (.getfield 88, 3) := by decide +kernel
theorem dX3_takeFirst_42 : decode cX3_takeFirst 42 = .ok (.invokevirtual 288, 3) := by decide +kernel
theorem dX3_takeFirst_45 : decode cX3_takeFirst 45 = .ok (.aload_n 1, 1) := by decide +kernel
theorem dX3_takeFirst_46 : decode cX3_takeFirst 46 = .ok (.aload_n 2, 1) := by decide +kernel
theorem dX3_takeFirst_47 : decode cX3_takeFirst 47 = .ok (.getfield 276, 3) := by decide +kernel
theorem dX3_takeFirst_50 : decode cX3_takeFirst 50 = .ok (.aload_n 0, 1) := by decide +kernel
theorem dX3_takeFirst_51 : decode cX3_takeFirst 51 = .ok (.getfield 120, 3) := by decide +kernel
theorem dX3_takeFirst_54 : decode cX3_takeFirst 54 = .ok (.invokevirtual 292, 3) := by decide +kernel
theorem dX3_takeFirst_57 : decode cX3_takeFirst 57 = .ok (.aload_n 0, 1) := by decide +kernel
theorem dX3_takeFirst_58 : decode cX3_takeFirst 58 = .ok (.aload_n 1, 1) := by decide +kernel
theorem dX3_takeFirst_59 : decode cX3_takeFirst 59 = .ok (.invokevirtual 245, 3) := by decide +kernel
theorem dX3_takeFirst_62 : decode cX3_takeFirst 62 = .ok (.return_, 1) := by decide +kernel
set_option maxRecDepth 20000 in
theorem ggX3_takeConsecutive_X3_endReceiver : GoodIn wsX3_takeConsecutive wsX3_endReceiver := goodIn_r _ [12, 13, 14, 15, 16, 17, 18, 19, 20, 21, 22, 23, 24, 25, 11, 26, 27, 162, 163, 164, 165, 166, 167, 168, 169, 170, 171, 172, 173, 174, 175, 153, 154, 155, 156, 157, 158, 159, 160, 161] (by decide +kernel) (by decide +kernel)
set_option maxRecDepth 20000 in
theorem gX3_takeConsecutive_X3_endReceiver : GoodIn wsX3_takeConsecutive (wsV RX3 190 RX3 yX3_endReceiver wsX3_endReceiver) := goodIn_app (goodIn_of _ (by decide +kernel)) ggX3_takeConsecutive_X3_endReceiver
set_option maxRecDepth 20000 in
theorem ggX3_takeConsecutive_X1_take : GoodIn wsX3_takeConsecutive wsX1_take := goodIn_r _ [31, 32, 33, 34, 35, 36, 37, 38, 39, 40, 41, 20, 21, 42, 22, 153, 154, 155, 156, 157, 158, 159, 160, 161] (by decide +kernel) (by decide +kernel)
set_option maxRecDepth 20000 in
theorem gX3_takeConsecutive_X1_take : GoodIn wsX3_takeConsecutive (wsV RX3 292 RX1 yX1_take wsX1_take) := goodIn_app (goodIn_of _ (by decide +kernel)) ggX3_takeConsecutive_X1_take
set_option maxRecDepth 20000 in
theorem ggX3_takeConsecutive_X1_isWhole : GoodIn wsX3_takeConsecutive wsX1_isWhole := goodIn_r _ [46, 33, 32, 153, 154, 155, 156, 157, 158, 159, 160, 161] (by decide +kernel) (by decide +kernel)
set_option maxRecDepth 20000 in
theorem gX3_takeConsecutive_X1_isWhole : GoodIn wsX3_takeConsecutive (wsV RX3 297 RX1 yX1_isWhole wsX1_isWhole) := goodIn_app (goodIn_of _ (by decide +kernel)) ggX3_takeConsecutive_X1_isWhole
set_option maxRecDepth 20000 in
theorem ggX3_takeConsecutive_X3_becomeWhole : GoodIn wsX3_takeConsecutive wsX3_becomeWhole := goodIn_r _ [50, 51, 23, 24, 25, 11, 26, 27, 14, 15, 16, 17, 18, 19, 20, 21, 22, 162, 163, 164, 165, 166, 167, 168, 169, 170, 171, 172, 173, 174, 175, 153, 154, 155, 156, 157, 158, 159, 160, 161] (by decide +kernel) (by decide +kernel)
set_option maxRecDepth 20000 in
theorem gX3_takeConsecutive_X3_becomeWhole : GoodIn wsX3_takeConsecutive (wsV RX3 277 RX3 yX3_becomeWhole wsX3_becomeWhole) := goodIn_app (goodIn_of _ (by decide +kernel)) ggX3_takeConsecutive_X3_becomeWhole
set_option maxRecDepth 20000 in
theorem ggX3_takeConsecutive_X3_answer : GoodIn wsX3_takeConsecutive wsX3_answer := goodIn_r _ [55, 56, 57, 58, 59, 4, 60, 61, 62, 63, 64, 7, 6, 65, 66, 67, 11, 68, 69, 70, 71, 72, 73, 74, 75, 76, 77, 78, 79, 80, 81, 82, 8, 9, 10, 12, 13, 14, 15, 16, 17, 18, 19, 20, 21, 22, 23, 24, 25, 26, 27, 83, 84, 85, 86, 87, 88, 89, 90, 91, 92, 93, 94, 95, 96, 97, 98, 99, 100, 101, 102, 103, 104, 105, 106, 107, 108, 109, 110, 111, 112, 113, 114, 115, 116, 117, 118, 36, 119, 120, 121, 122, 123, 124, 125, 126, 127, 128, 129, 130, 131, 132, 133, 134, 135, 136, 137, 138, 139, 140, 141, 142, 143, 35, 37, 144, 39, 40, 41, 153, 154, 155, 156, 157, 158, 159, 160, 161, 162, 163, 164, 165, 166, 167, 168, 169, 170, 171, 172, 173, 174, 175, 145, 146, 147, 148, 149, 150, 151, 152, 176, 177, 178] (by decide +kernel) (by decide +kernel)
set_option maxRecDepth 20000 in
theorem gX3_takeConsecutive_X3_answer : GoodIn wsX3_takeConsecutive (wsV RX3 245 RX3 yX3_answer wsX3_answer) := goodIn_app (goodIn_of _ (by decide +kernel)) ggX3_takeConsecutive_X3_answer
theorem dX3_takeConsecutive_0 : decode cX3_takeConsecutive 0 = .ok (.aload_n 2, 1) := by decide +kernel
theorem dX3_takeConsecutive_1 : decode cX3_takeConsecutive 1 = .ok (.getfield 88, 3) := by decide +kernel
theorem dX3_takeConsecutive_4 : decode cX3_takeConsecutive 4 = .ok (.aload_n 1, 1) := by decide +kernel
theorem dX3_takeConsecutive_5 : decode cX3_takeConsecutive 5 = .ok (.getfield 296, 3) := by decide +kernel
theorem dX3_takeConsecutive_8 : decode cX3_takeConsecutive 8 = .ok (.if_icmp .eq 10, 3) := by decide +kernel
theorem dX3_takeConsecutive_11 : decode cX3_takeConsecutive 11 = .ok (.aload_n 0, 1) := by decide +kernel
theorem dX3_takeConsecutive_12 : decode cX3_takeConsecutive 12 = .ok (.aload_n 1, 1) := by decide +kernel
theorem dX3_takeConsecutive_13 : decode cX3_takeConsecutive 13 = .ok (.iconst 3, 1) := by decide +kernel
theorem dX3_takeConsecutive_14 : decode cX3_takeConsecutive 14 = .ok (.invokevirtual 190, 3) := by decide +kernel
theorem dX3_takeConsecutive_17 : decode cX3_takeConsecutive 17 = .ok (.return_, 1) := by decide +kernel
theorem dX3_takeConsecutive_18 : decode cX3_takeConsecutive 18 = .ok (.aload_n 1, 1) := by decide +kernel
theorem dX3_takeConsecutive_19 : decode cX3_takeConsecutive 19 = .ok (.aload_n 1, 1) := by decide +kernel
theorem dX3_takeConsecutive_20 : decode cX3_takeConsecutive 20 = .ok (.getfield 296, 3) := by decide +kernel
theorem dX3_takeConsecutive_23 : decode cX3_takeConsecutive 23 = .ok (.iconst 1, 1) := by decide +kernel
theorem dX3_takeConsecutive_24 : decode cX3_takeConsecutive 24 = .ok (.iadd, 1) := by decide +kernel
theorem dX3_takeConsecutive_25 : decode cX3_takeConsecutive 25 = .ok (.bipush 16, 2) := by decide +kernel
theorem dX3_takeConsecutive_27 : decode cX3_takeConsecutive 27 = .ok (.irem, 1) := by decide +kernel
theorem dX3_takeConsecutive_28 : decode cX3_takeConsecutive 28 = .ok (.putfield 296, 3) := by decide +kernel
theorem dX3_takeConsecutive_31 : decode cX3_takeConsecutive 31 = .ok (.aload_n 1, 1) := by decide +kernel
theorem dX3_takeConsecutive_32 : decode cX3_takeConsecutive 32 = .ok (.aload_n 2, 1) := by decide +kernel
theorem dX3_takeConsecutive_33 : decode cX3_takeConsecutive 33 = .ok (.getfield 276, 3) := by decide +kernel
theorem dX3_takeConsecutive_36 : decode cX3_takeConsecutive 36 = .ok (.aload_n 0, 1) := by decide +kernel
theorem dX3_takeConsecutive_37 : decode cX3_takeConsecutive 37 = .ok (.getfield 120, 3) := by decide +kernel
theorem dX3_takeConsecutive_40 : decode cX3_takeConsecutive 40 = .ok (.invokevirtual 292, 3) := by decide +kernel
theorem dX3_takeConsecutive_43 : decode cX3_takeConsecutive 43 = .ok (.aload_n 1, 1) := by decide +kernel
theorem dX3_takeConsecutive_44 : decode cX3_takeConsecutive 44 = .ok (.invokevirtual 297, 3) := by decide +kernel
theorem dX3_takeConsecutive_47 : decode cX3_takeConsecutive 47 = .ok (.ifCond .eq 13, 3) := by decide +kernel
theorem dX3_takeConsecutive_50 : decode cX3_takeConsecutive 50 = .ok (.aload_n 0, 1) := by decide +kernel
theorem dX3_takeConsecutive_51 : decode cX3_takeConsecutive 51 = .ok (.aload_n 1, 1) := by decide +kernel
theorem dX3_takeConsecutive_52 : decode cX3_takeConsecutive 52 = .ok (.aload_n 1, 1) := by decide +kernel
theorem dX3_takeConsecutive_53 : decode cX3_takeConsecutive 53 = .ok (.getfield 300, 3) := by decide +kernel
theorem dX3_takeConsecutive_56 : decode cX3_takeConsecutive 56 = .ok (.invokevirtual 277, 3) := by decide +kernel
theorem dX3_takeConsecutive_59 : decode cX3_takeConsecutive 59 = .ok (.return_, 1) := by decide +kernel
theorem dX3_takeConsecutive_60 : decode cX3_takeConsecutive 60 = .ok (.aload_n 1, 1) := by decide +kernel
theorem dX3_takeConsecutive_61 : decode cX3_takeConsecutive 61 = .ok (.dup, 1) := by decide +kernel
theorem dX3_takeConsecutive_62 : decode cX3_takeConsecutive 62 = .ok (.getfield 301, 3) := by decide +kernel
theorem dX3_takeConsecutive_65 : decode cX3_takeConsecutive 65 = .ok (.iconst 1, 1) := by decide +kernel
theorem dX3_takeConsecutive_66 : decode cX3_takeConsecutive 66 = .ok (.iadd, 1) := by decide +kernel
theorem dX3_takeConsecutive_67 : decode cX3_takeConsecutive 67 = .ok (.putfield 301, 3) := by decide +kernel
theorem dX3_takeConsecutive_70 : decode cX3_takeConsecutive 70 = .ok (.aload_n 1, 1) := by decide +kernel
theorem dX3_takeConsecutive_71 : decode cX3_takeConsecutive 71 = .ok (.getfield 304, 3) := by decide +kernel
theorem dX3_takeConsecutive_74 : decode cX3_takeConsecutive 74 = .ok (.ifCond .eq 19, 3) := by decide +kernel
theorem dX3_takeConsecutive_77 : decode cX3_takeConsecutive 77 = .ok (.aload_n 1, 1) := by decide +kernel
theorem dX3_takeConsecutive_78 : decode cX3_takeConsecutive 78 = .ok (.getfield 301, 3) := by decide +kernel
theorem dX3_takeConsecutive_81 : decode cX3_takeConsecutive 81 = .ok (.aload_n 1, 1) := by decide +kernel
theorem dX3_takeConsecutive_82 : decode cX3_takeConsecutive 82 = .ok (.getfield 304, 3) := by decide +kernel
theorem dX3_takeConsecutive_85 : decode cX3_takeConsecutive 85 = .ok (.if_icmp .ne 8, 3) := by decide +kernel
theorem dX3_takeConsecutive_88 : decode cX3_takeConsecutive 88 = .ok (.aload_n 0, 1) := by decide +kernel
theorem dX3_takeConsecutive_89 : decode cX3_takeConsecutive 89 = .ok (.aload_n 1, 1) := by decide +kernel
theorem dX3_takeConsecutive_90 : decode cX3_takeConsecutive 90 = .ok (.invokevirtual 245, 3) := by decide +kernel
theorem dX3_takeConsecutive_93 : decode cX3_takeConsecutive 93 = .ok (.return_, 1) := by decide +kernel
set_option maxRecDepth 20000 in
theorem ggX3_becomeWhole_X3_count : GoodIn wsX3_becomeWhole wsX3_count := goodIn_r _ [6, 7, 17, 18, 19, 20, 21, 22, 23, 24, 25, 26, 27, 28, 29, 30] (by decide +kernel) (by decide +kernel)
set_option maxRecDepth 20000 in
theorem gX3_becomeWhole_X3_count : GoodIn wsX3_becomeWhole (wsV RX3 156 RX3 yX3_count wsX3_count) := goodIn_app (goodIn_of _ (by decide +kernel)) ggX3_becomeWhole_X3_count
set_option maxRecDepth 20000 in
theorem ggX3_becomeWhole_X1_rest : GoodIn wsX3_becomeWhole wsX1_rest := goodIn_r _ [12, 13, 14, 15, 16, 31, 32, 33, 34, 35, 36, 37, 38, 39] (by decide +kernel) (by decide +kernel)
set_option maxRecDepth 20000 in
theorem gX3_becomeWhole_X1_rest : GoodIn wsX3_becomeWhole (wsV RX3 159 RX1 yX1_rest wsX1_rest) := goodIn_app (goodIn_of _ (by decide +kernel)) ggX3_becomeWhole_X1_rest
theorem dX3_becomeWhole_0 : decode cX3_becomeWhole 0 = .ok (.aload_n 0, 1) := by decide +kernel
theorem dX3_becomeWhole_1 : decode cX3_becomeWhole 1 = .ok (.aload_n 2, 1) := by decide +kernel
theorem dX3_becomeWhole_2 : decode cX3_becomeWhole 2 = .ok (.putfield 33, 3) := by decide +kernel
theorem dX3_becomeWhole_5 : decode cX3_becomeWhole 5 = .ok (.aload_n 0, 1) := by decide +kernel
theorem dX3_becomeWhole_6 : decode cX3_becomeWhole 6 = .ok (.iconst 0, 1) := by decide +kernel
theorem dX3_becomeWhole_7 : decode cX3_becomeWhole 7 = .ok (.invokevirtual 156, 3) := by decide +kernel
theorem dX3_becomeWhole_10 : decode cX3_becomeWhole 10 = .ok (.aload_n 1, 1) := by decide +kernel
theorem dX3_becomeWhole_11 : decode cX3_becomeWhole 11 = .ok (.iconst 2, 1) := by decide +kernel
theorem dX3_becomeWhole_12 : decode cX3_becomeWhole 12 = .ok (.invokevirtual 159, 3) := by decide +kernel
theorem dX3_becomeWhole_15 : decode cX3_becomeWhole 15 = .ok (.return_, 1) := by decide +kernel
set_option maxRecDepth 20000 in
theorem ggX3_answer_X3_makeFlowFrame : GoodIn wsX3_answer wsX3_makeFlowFrame := goodIn_r _ [17, 18, 19, 20, 21, 5, 22, 23, 24, 16, 25, 26, 27, 28, 29, 30, 31, 32, 33, 34, 35, 36, 37, 38, 39, 40, 41, 42, 43, 44, 45, 46, 47, 48, 49, 50, 51, 52, 53, 54, 55, 56, 57, 58, 59, 60, 61, 62, 63, 64, 65, 66, 67, 68, 69, 70, 71, 72, 73, 74, 75, 76, 77, 78, 79, 80, 81, 82, 83, 84, 85, 86, 87, 88, 89, 90, 91, 92, 93, 94, 95, 96, 97, 98, 99, 100, 101, 102, 103, 104, 105, 106, 107, 108, 109, 110, 111, 112, 113, 114, 115, 116, 117, 118, 128, 129, 130, 131, 132, 133, 134, 135, 136, 137, 138, 139, 140, 141, 142, 143, 144, 145, 146, 147, 148, 149, 150, 151, 152, 119, 120, 121, 122, 123, 124, 125, 126, 127] (by decide +kernel) (by decide +kernel)
set_option maxRecDepth 20000 in
theorem gX3_answer_X3_makeFlowFrame : GoodIn wsX3_answer (wsV RX3 284 RX3 yX3_makeFlowFrame wsX3_makeFlowFrame) := goodIn_app (goodIn_of _ (by decide +kernel)) ggX3_answer_X3_makeFlowFrame
set_option maxRecDepth 20000 in
theorem ggX3_answer_X3_endReceiver : GoodIn wsX3_answer wsX3_endReceiver := goodIn_r _ [35, 36, 37, 38, 39, 40, 41, 42, 43, 44, 45, 46, 47, 48, 16, 49, 50, 128, 129, 130, 131, 132, 133, 134, 135, 136, 137, 138, 139, 140, 141, 119, 120, 121, 122, 123, 124, 125, 126, 127] (by decide +kernel) (by decide +kernel)
set_option maxRecDepth 20000 in
theorem gX3_answer_X3_endReceiver : GoodIn wsX3_answer (wsV RX3 190 RX3 yX3_endReceiver wsX3_endReceiver) := goodIn_app (goodIn_of _ (by decide +kernel)) ggX3_answer_X3_endReceiver
theorem dX3_answer_0 : decode cX3_answer 0 = .ok (.aload_n 0, 1) := by decide +kernel
theorem dX3_answer_1 : decode cX3_answer 1 = .ok (.aload_n 1, 1) := by decide +kernel
theorem dX3_answer_2 : decode cX3_answer 2 = .ok (.aload_n 1, 1) := by decide +kernel
theorem dX3_answer_3 : decode cX3_answer 3 = .ok (.getfield 307, 3) := by decide +kernel
theorem dX3_answer_6 : decode cX3_answer 6 = .ok (.aload_n 0, 1) := by decide +kernel
theorem dX3_answer_7 : decode cX3_answer 7 = .ok (.getfield 36, 3) := by decide +kernel
theorem dX3_answer_10 : decode cX3_answer 10 = .ok (.aload_n 0, 1) := by decide +kernel
theorem dX3_answer_11 : decode cX3_answer 11 = .ok (.getfield 114, 3) := by decide +kernel
theorem dX3_answer_14 : decode cX3_answer 14 = .ok (.aload_n 0, 1) := by decide +kernel
theorem dX3_answer_15 : decode cX3_answer 15 = .ok (.getfield 117, 3) := by decide +kernel
theorem dX3_answer_18 : decode cX3_answer 18 = .ok (.invokevirtual 284, 3) := by decide +kernel
theorem dX3_answer_21 : decode cX3_answer 21 = .ok (.ifCond .ne 4, 3) := by decide +kernel
theorem dX3_answer_24 : decode cX3_answer 24 = .ok (.return_, 1) := by decide +kernel
theorem dX3_answer_25 : decode cX3_answer 25 = .ok (.aload_n 0, 1) := by decide +kernel
theorem dX3_answer_26 : decode cX3_answer 26 = .ok (.getfield 36, 3) := by decide +kernel
theorem dX3_answer_29 : decode cX3_answer 29 = .ok (.iconst 2, 1) := by decide +kernel
theorem dX3_answer_30 : decode cX3_answer 30 = .ok (.if_icmp .ne 10, 3) := by decide +kernel
theorem dX3_answer_33 : decode cX3_answer 33 = .ok (.aload_n 0, 1) := by decide +kernel
theorem dX3_answer_34 : decode cX3_answer 34 = .ok (.aload_n 1, 1) := by decide +kernel
theorem dX3_answer_35 : decode cX3_answer 35 = .ok (.iconst 4, 1) := by decide +kernel
theorem dX3_answer_36 : decode cX3_answer 36 = .ok (.invokevirtual 190, 3) := by decide +kernel
theorem dX3_answer_39 : decode cX3_answer 39 = .ok (.return_, 1) := by decide +kernel
theorem dX3_answer_40 : decode cX3_answer 40 = .ok (.aload_n 1, 1) := by decide +kernel
theorem dX3_answer_41 : decode cX3_answer 41 = .ok (.aload_n 0, 1) := by decide +kernel
theorem dX3_answer_42 : decode cX3_answer 42 = .ok (.getfield 120, 3) := by decide +kernel
theorem dX3_answer_45 : decode cX3_answer 45 = .ok (.ldc2_w 308, 3) := by decide +kernel
theorem dX3_answer_48 : decode cX3_answer 48 = .ok (.ladd, 1) := by decide +kernel
theorem dX3_answer_49 : decode cX3_answer 49 = .ok (.putfield 248, 3) := by decide +kernel
theorem dX3_answer_52 : decode cX3_answer 52 = .ok (.aload_n 0, 1) := by decide +kernel
theorem dX3_answer_53 : decode cX3_answer 53 = .ok (.getfield 36, 3) := by decide +kernel
theorem dX3_answer_56 : decode cX3_answer 56 = .ok (.iconst 1, 1) := by decide +kernel
theorem dX3_answer_57 : decode cX3_answer 57 = .ok (.if_icmp .ne 18, 3) := by decide +kernel
theorem dX3_answer_60 : decode cX3_answer 60 = .ok (.aload_n 1, 1) := by decide +kernel
theorem dX3_answer_61 : decode cX3_answer 61 = .ok (.aload_n 0, 1) := by decide +kernel
theorem dX3_answer_62 : decode cX3_answer 62 = .ok (.getfield 120, 3) := by decide +kernel
theorem dX3_answer_65 : decode cX3_answer 65 = .ok (.ldc2_w 310, 3) := by decide +kernel
theorem dX3_answer_68 : decode cX3_answer 68 = .ok (.ladd, 1) := by decide +kernel
theorem dX3_answer_69 : decode cX3_answer 69 = .ok (.putfield 242, 3) := by decide +kernel
theorem dX3_answer_72 : decode cX3_answer 72 = .ok (.goto 23, 3) := by decide +kernel
theorem dX3_answer_75 : decode cX3_answer 75 = .ok (.aload_n 1, 1) := by decide +kernel
theorem dX3_answer_76 : decode cX3_answer 76 = .ok (.ldc2_w 212, 3) := by decide +kernel
theorem dX3_answer_79 : decode cX3_answer 79 = .ok (.putfield 242, 3) := by decide +kernel
theorem dX3_answer_82 : decode cX3_answer 82 = .ok (.aload_n 1, 1) := by decide +kernel
theorem dX3_answer_83 : decode cX3_answer 83 = .ok (.aload_n 0, 1) := by decide +kernel
theorem dX3_answer_84 : decode cX3_answer 84 = .ok (.getfield 114, 3) := by decide +kernel
theorem dX3_answer_87 : decode cX3_answer 87 = .ok (.putfield 304, 3) := by decide +kernel
theorem dX3_answer_90 : decode cX3_answer 90 = .ok (.aload_n 1, 1) := by decide +kernel
theorem dX3_answer_91 : decode cX3_answer 91 = .ok (.iconst 0, 1) := by decide +kernel
theorem dX3_answer_92 : decode cX3_answer 92 = .ok (.putfield 301, 3) := by decide +kernel
theorem dX3_answer_95 : decode cX3_answer 95 = .ok (.return_, 1) := by decide +kernel
