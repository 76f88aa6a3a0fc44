set_option maxRecDepth 20000 in
theorem ggX0_init_X1_init : GoodIn wsX0_init wsX1_init := goodIn_r _ [11, 12, 2, 3] (by decide +kernel) (by decide +kernel)
set_option maxRecDepth 20000 in
theorem gX0_init_X1_init_n17 : GoodIn wsX0_init (wsX1_init) := ggX0_init_X1_init
theorem dX0_init_0 : decode cX0_init 0 = .ok (.aload_n 0, 1) := by decide +kernel
theorem dX0_init_1 : decode cX0_init 1 = .ok (.invokespecial 3, 3) := by decide +kernel
theorem dX0_init_4 : decode cX0_init 4 = .ok (.aload_n 0, 1) := by decide +kernel
theorem dX0_init_5 : decode cX0_init 5 = .ok (.sipush 8192, 3) := by decide +kernel
theorem dX0_init_8 : decode cX0_init 8 = .ok (.newarray .long, 2) := by decide +kernel
theorem dX0_init_10 : decode cX0_init 10 = .ok (.putfield 9, 3) := by decide +kernel
theorem dX0_init_13 : decode cX0_init 13 = .ok (.aload_n 0, 1) := by decide +kernel
theorem dX0_init_14 : decode cX0_init 14 = .ok (.new 15, 3) := by decide +kernel
theorem dX0_init_17 : decode cX0_init 17 = .ok (.dup, 1) := by decide +kernel
theorem dX0_init_18 : decode cX0_init 18 = .ok (.invokespecial 17, 3) := by decide +kernel
theorem dX0_init_21 : decode cX0_init 21 = .ok (.putfield 18, 3) := by decide +kernel
theorem dX0_init_24 : decode cX0_init 24 = .ok (.return_, 1) := by decide +kernel
theorem dX0_isMultiplier_0 : decode cX0_isMultiplier 0 = .ok (.iload_n 0, 1) := by decide +kernel
theorem dX0_isMultiplier_1 : decode cX0_isMultiplier 1 = .ok (.ldc 22, 2) := by decide +kernel
theorem dX0_isMultiplier_3 : decode cX0_isMultiplier 3 = .ok (.iand, 1) := by decide +kernel
theorem dX0_isMultiplier_4 : decode cX0_isMultiplier 4 = .ok (.sipush 304, 3) := by decide +kernel
theorem dX0_isMultiplier_7 : decode cX0_isMultiplier 7 = .ok (.if_icmp .ne 7, 3) := by decide +kernel
theorem dX0_isMultiplier_10 : decode cX0_isMultiplier 10 = .ok (.iconst 1, 1) := by decide +kernel
theorem dX0_isMultiplier_11 : decode cX0_isMultiplier 11 = .ok (.goto 4, 3) := by decide +kernel
theorem dX0_isMultiplier_14 : decode cX0_isMultiplier 14 = .ok (.iconst 0, 1) := by decide +kernel
theorem dX0_isMultiplier_15 : decode cX0_isMultiplier 15 = .ok (.ireturn, 1) := by decide +kernel
set_option maxRecDepth 20000 in
theorem ggX0_wordAt_X0_isMultiplier : GoodIn wsX0_wordAt wsX0_isMultiplier := goodIn_r _ [7, 8] (by decide +kernel) (by decide +kernel)
set_option maxRecDepth 20000 in
theorem gX0_wordAt_X0_isMultiplier : GoodIn wsX0_wordAt (va_wsS RX0 23 yX0_isMultiplier wsX0_isMultiplier) := goodIn_app (goodIn_of _ (by decide +kernel)) ggX0_wordAt_X0_isMultiplier
set_option maxRecDepth 20000 in
theorem ggX0_wordAt_X0_slotOf : GoodIn wsX0_wordAt wsX0_slotOf := goodIn_r _ [11] (by decide +kernel) (by decide +kernel)
set_option maxRecDepth 20000 in
theorem gX0_wordAt_X0_slotOf : GoodIn wsX0_wordAt (va_wsS RX0 27 yX0_slotOf wsX0_slotOf) := goodIn_app (goodIn_of _ (by decide +kernel)) ggX0_wordAt_X0_slotOf
set_option maxRecDepth 20000 in
theorem ggX0_wordAt_X1_wordAtSlot : GoodIn wsX0_wordAt wsX1_wordAtSlot := goodIn_r _ [15, 16, 17, 18, 19, 20, 26, 27, 28, 29, 30, 31] (by decide +kernel) (by decide +kernel)
set_option maxRecDepth 20000 in
theorem gX0_wordAt_X1_wordAtSlot_n31 : GoodIn wsX0_wordAt (wsX1_wordAtSlot) := ggX0_wordAt_X1_wordAtSlot
set_option maxRecDepth 20000 in
theorem ggX0_wordAt_X0_cellOf : GoodIn wsX0_wordAt wsX0_cellOf := goodIn_r _ [23, 3] (by decide +kernel) (by decide +kernel)
set_option maxRecDepth 20000 in
theorem gX0_wordAt_X0_cellOf : GoodIn wsX0_wordAt (va_wsS RX0 34 yX0_cellOf wsX0_cellOf) := goodIn_app (goodIn_of _ (by decide +kernel)) ggX0_wordAt_X0_cellOf
theorem dX0_wordAt_0 : decode cX0_wordAt 0 = .ok (.iload_n 1, 1) := by decide +kernel
theorem dX0_wordAt_1 : decode cX0_wordAt 1 = .ok (.invokestatic 23, 3) := by decide +kernel
theorem dX0_wordAt_4 : decode cX0_wordAt 4 = .ok (.ifCond .eq 15, 3) := by decide +kernel
theorem dX0_wordAt_7 : decode cX0_wordAt 7 = .ok (.aload_n 0, 1) := by decide +kernel
theorem dX0_wordAt_8 : decode cX0_wordAt 8 = .ok (.getfield 18, 3) := by decide +kernel
theorem dX0_wordAt_11 : decode cX0_wordAt 11 = .ok (.iload_n 1, 1) := by decide +kernel
theorem dX0_wordAt_12 : decode cX0_wordAt 12 = .ok (.invokestatic 27, 3) := by decide +kernel
theorem dX0_wordAt_15 : decode cX0_wordAt 15 = .ok (.invokevirtual 31, 3) := by decide +kernel
theorem dX0_wordAt_18 : decode cX0_wordAt 18 = .ok (.ireturn, 1) := by decide +kernel
theorem dX0_wordAt_19 : decode cX0_wordAt 19 = .ok (.aload_n 0, 1) := by decide +kernel
theorem dX0_wordAt_20 : decode cX0_wordAt 20 = .ok (.getfield 9, 3) := by decide +kernel
theorem dX0_wordAt_23 : decode cX0_wordAt 23 = .ok (.iload_n 1, 1) := by decide +kernel
theorem dX0_wordAt_24 : decode cX0_wordAt 24 = .ok (.invokestatic 34, 3) := by decide +kernel
theorem dX0_wordAt_27 : decode cX0_wordAt 27 = .ok (.laload, 1) := by decide +kernel
theorem dX0_wordAt_28 : decode cX0_wordAt 28 = .ok (.iload_n 1, 1) := by decide +kernel
theorem dX0_wordAt_29 : decode cX0_wordAt 29 = .ok (.bipush 6, 2) := by decide +kernel
theorem dX0_wordAt_31 : decode cX0_wordAt 31 = .ok (.iand, 1) := by decide +kernel
theorem dX0_wordAt_32 : decode cX0_wordAt 32 = .ok (.bipush 8, 2) := by decide +kernel
theorem dX0_wordAt_34 : decode cX0_wordAt 34 = .ok (.imul, 1) := by decide +kernel
theorem dX0_wordAt_35 : decode cX0_wordAt 35 = .ok (.lushr, 1) := by decide +kernel
theorem dX0_wordAt_36 : decode cX0_wordAt 36 = .ok (.l2i, 1) := by decide +kernel
theorem dX0_wordAt_37 : decode cX0_wordAt 37 = .ok (.ldc 37, 2) := by decide +kernel
theorem dX0_wordAt_39 : decode cX0_wordAt 39 = .ok (.iand, 1) := by decide +kernel
theorem dX0_wordAt_40 : decode cX0_wordAt 40 = .ok (.ireturn, 1) := by decide +kernel
set_option maxRecDepth 20000 in
theorem ggX0_byteAt_X0_wordAt : GoodIn wsX0_byteAt wsX0_wordAt := goodIn_r _ [5, 6, 7, 8, 9, 10, 4, 11, 12, 13, 14, 15, 16, 17, 18, 19, 20, 21, 22, 23, 24, 25, 26, 27, 28, 29, 30, 31, 32, 33, 34, 35] (by decide +kernel) (by decide +kernel)
set_option maxRecDepth 20000 in
theorem gX0_byteAt_X0_wordAt : GoodIn wsX0_byteAt (wsV RX0 38 RX0 yX0_wordAt wsX0_wordAt) := goodIn_app (goodIn_of _ (by decide +kernel)) ggX0_byteAt_X0_wordAt
theorem dX0_byteAt_0 : decode cX0_byteAt 0 = .ok (.aload_n 0, 1) := by decide +kernel
theorem dX0_byteAt_1 : decode cX0_byteAt 1 = .ok (.iload_n 1, 1) := by decide +kernel
theorem dX0_byteAt_2 : decode cX0_byteAt 2 = .ok (.invokevirtual 38, 3) := by decide +kernel
theorem dX0_byteAt_5 : decode cX0_byteAt 5 = .ok (.istore_n 2, 1) := by decide +kernel
theorem dX0_byteAt_6 : decode cX0_byteAt 6 = .ok (.iload_n 1, 1) := by decide +kernel
theorem dX0_byteAt_7 : decode cX0_byteAt 7 = .ok (.iconst 1, 1) := by decide +kernel
theorem dX0_byteAt_8 : decode cX0_byteAt 8 = .ok (.iand, 1) := by decide +kernel
theorem dX0_byteAt_9 : decode cX0_byteAt 9 = .ok (.ifCond .ne 11, 3) := by decide +kernel
theorem dX0_byteAt_12 : decode cX0_byteAt 12 = .ok (.iload_n 2, 1) := by decide +kernel
theorem dX0_byteAt_13 : decode cX0_byteAt 13 = .ok (.sipush 255, 3) := by decide +kernel
theorem dX0_byteAt_16 : decode cX0_byteAt 16 = .ok (.iand, 1) := by decide +kernel
theorem dX0_byteAt_17 : decode cX0_byteAt 17 = .ok (.goto 7, 3) := by decide +kernel
theorem dX0_byteAt_20 : decode cX0_byteAt 20 = .ok (.iload_n 2, 1) := by decide +kernel
theorem dX0_byteAt_21 : decode cX0_byteAt 21 = .ok (.bipush 8, 2) := by decide +kernel
theorem dX0_byteAt_23 : decode cX0_byteAt 23 = .ok (.ishr, 1) := by decide +kernel
theorem dX0_byteAt_24 : decode cX0_byteAt 24 = .ok (.ireturn, 1) := by decide +kernel
set_option maxRecDepth 20000 in
theorem ggX0_writeWord_X0_isMultiplier : GoodIn wsX0_writeWord wsX0_isMultiplier := goodIn_r _ [5, 6] (by decide +kernel) (by decide +kernel)
set_option maxRecDepth 20000 in
theorem gX0_writeWord_X0_isMultiplier : GoodIn wsX0_writeWord (va_wsS RX0 23 yX0_isMultiplier wsX0_isMultiplier) := goodIn_app (goodIn_of _ (by decide +kernel)) ggX0_writeWord_X0_isMultiplier
set_option maxRecDepth 20000 in
theorem ggX0_writeWord_X0_slotOf : GoodIn wsX0_writeWord wsX0_slotOf := goodIn_r _ [9] (by decide +kernel) (by decide +kernel)
set_option maxRecDepth 20000 in
theorem gX0_writeWord_X0_slotOf : GoodIn wsX0_writeWord (va_wsS RX0 27 yX0_slotOf wsX0_slotOf) := goodIn_app (goodIn_of _ (by decide +kernel)) ggX0_writeWord_X0_slotOf
set_option maxRecDepth 20000 in
theorem ggX0_writeWord_X1_write : GoodIn wsX0_writeWord wsX1_write := goodIn_r _ [13, 14, 15, 16, 17, 11, 18, 19, 20, 21, 22, 23, 24, 25, 26, 27, 28, 29, 30, 44, 45, 46, 47, 48, 49] (by decide +kernel) (by decide +kernel)
set_option maxRecDepth 20000 in
theorem gX0_writeWord_X1_write_n41 : GoodIn wsX0_writeWord (wsX1_write) := ggX0_writeWord_X1_write
set_option maxRecDepth 20000 in
theorem ggX0_writeWord_X0_placeWord : GoodIn wsX0_writeWord wsX0_placeWord := goodIn_r _ [34, 35, 36, 37, 38, 39, 4, 40, 41, 42, 43] (by decide +kernel) (by decide +kernel)
set_option maxRecDepth 20000 in
theorem gX0_writeWord_X0_placeWord : GoodIn wsX0_writeWord (wsV RX0 45 RX0 yX0_placeWord wsX0_placeWord) := goodIn_app (goodIn_of _ (by decide +kernel)) ggX0_writeWord_X0_placeWord
theorem dX0_writeWord_0 : decode cX0_writeWord 0 = .ok (.iload_n 1, 1) := by decide +kernel
theorem dX0_writeWord_1 : decode cX0_writeWord 1 = .ok (.invokestatic 23, 3) := by decide +kernel
theorem dX0_writeWord_4 : decode cX0_writeWord 4 = .ok (.ifCond .eq 18, 3) := by decide +kernel
theorem dX0_writeWord_7 : decode cX0_writeWord 7 = .ok (.aload_n 0, 1) := by decide +kernel
theorem dX0_writeWord_8 : decode cX0_writeWord 8 = .ok (.getfield 18, 3) := by decide +kernel
theorem dX0_writeWord_11 : decode cX0_writeWord 11 = .ok (.iload_n 1, 1) := by decide +kernel
theorem dX0_writeWord_12 : decode cX0_writeWord 12 = .ok (.invokestatic 27, 3) := by decide +kernel
theorem dX0_writeWord_15 : decode cX0_writeWord 15 = .ok (.iload_n 2, 1) := by decide +kernel
theorem dX0_writeWord_16 : decode cX0_writeWord 16 = .ok (.invokevirtual 41, 3) := by decide +kernel
theorem dX0_writeWord_19 : decode cX0_writeWord 19 = .ok (.goto 9, 3) := by decide +kernel
theorem dX0_writeWord_22 : decode cX0_writeWord 22 = .ok (.aload_n 0, 1) := by decide +kernel
theorem dX0_writeWord_23 : decode cX0_writeWord 23 = .ok (.iload_n 1, 1) := by decide +kernel
theorem dX0_writeWord_24 : decode cX0_writeWord 24 = .ok (.iload_n 2, 1) := by decide +kernel
theorem dX0_writeWord_25 : decode cX0_writeWord 25 = .ok (.invokevirtual 45, 3) := by decide +kernel
theorem dX0_writeWord_28 : decode cX0_writeWord 28 = .ok (.return_, 1) := by decide +kernel
set_option maxRecDepth 20000 in
theorem ggX0_writeByte_X0_isMultiplier : GoodIn wsX0_writeByte wsX0_isMultiplier := goodIn_r _ [5, 6] (by decide +kernel) (by decide +kernel)
set_option maxRecDepth 20000 in
theorem gX0_writeByte_X0_isMultiplier : GoodIn wsX0_writeByte (va_wsS RX0 23 yX0_isMultiplier wsX0_isMultiplier) := goodIn_app (goodIn_of _ (by decide +kernel)) ggX0_writeByte_X0_isMultiplier
set_option maxRecDepth 20000 in
theorem ggX0_writeByte_X0_placeByte : GoodIn wsX0_writeByte wsX0_placeByte := goodIn_r _ [10, 11, 1, 12, 13, 14, 4, 15, 16, 17, 2, 3, 5, 6, 18, 19, 20, 21, 22, 23, 24, 25, 26, 27, 28, 29, 30, 31, 32, 33, 34, 35, 36, 37, 38, 39, 40, 41, 54, 55, 56, 57, 58, 59, 60, 61] (by decide +kernel) (by decide +kernel)
set_option maxRecDepth 20000 in
theorem gX0_writeByte_X0_placeByte : GoodIn wsX0_writeByte (wsV RX0 48 RX0 yX0_placeByte wsX0_placeByte) := goodIn_app (goodIn_of _ (by decide +kernel)) ggX0_writeByte_X0_placeByte
set_option maxRecDepth 20000 in
theorem ggX0_writeByte_X0_slotOf : GoodIn wsX0_writeByte wsX0_slotOf := goodIn_r _ [20] (by decide +kernel) (by decide +kernel)
set_option maxRecDepth 20000 in
theorem gX0_writeByte_X0_slotOf : GoodIn wsX0_writeByte (va_wsS RX0 27 yX0_slotOf wsX0_slotOf) := goodIn_app (goodIn_of _ (by decide +kernel)) ggX0_writeByte_X0_slotOf
set_option maxRecDepth 20000 in
theorem ggX0_writeByte_X1_write : GoodIn wsX0_writeByte wsX1_write := goodIn_r _ [44, 45, 46, 33, 34, 22, 35, 25, 26, 27, 28, 29, 47, 48, 49, 50, 51, 52, 53, 56, 57, 58, 59, 60, 61] (by decide +kernel) (by decide +kernel)
set_option maxRecDepth 20000 in
theorem gX0_writeByte_X1_write_n41 : GoodIn wsX0_writeByte (wsX1_write) := ggX0_writeByte_X1_write
theorem dX0_writeByte_0 : decode cX0_writeByte 0 = .ok (.iload_n 1, 1) := by decide +kernel
theorem dX0_writeByte_1 : decode cX0_writeByte 1 = .ok (.invokestatic 23, 3) := by decide +kernel
theorem dX0_writeByte_4 : decode cX0_writeByte 4 = .ok (.ifCond .ne 12, 3) := by decide +kernel
theorem dX0_writeByte_7 : decode cX0_writeByte 7 = .ok (.aload_n 0, 1) := by decide +kernel
theorem dX0_writeByte_8 : decode cX0_writeByte 8 = .ok (.iload_n 1, 1) := by decide +kernel
theorem dX0_writeByte_9 : decode cX0_writeByte 9 = .ok (.iload_n 2, 1) := by decide +kernel
theorem dX0_writeByte_10 : decode cX0_writeByte 10 = .ok (.invokevirtual 48, 3) := by decide +kernel
theorem dX0_writeByte_13 : decode cX0_writeByte 13 = .ok (.goto 21, 3) := by decide +kernel
theorem dX0_writeByte_16 : decode cX0_writeByte 16 = .ok (.iload_n 1, 1) := by decide +kernel
theorem dX0_writeByte_17 : decode cX0_writeByte 17 = .ok (.iconst 1, 1) := by decide +kernel
theorem dX0_writeByte_18 : decode cX0_writeByte 18 = .ok (.iand, 1) := by decide +kernel
theorem dX0_writeByte_19 : decode cX0_writeByte 19 = .ok (.ifCond .ne 15, 3) := by decide +kernel
theorem dX0_writeByte_22 : decode cX0_writeByte 22 = .ok (.aload_n 0, 1) := by decide +kernel
theorem dX0_writeByte_23 : decode cX0_writeByte 23 = .ok (.getfield 18, 3) := by decide +kernel
theorem dX0_writeByte_26 : decode cX0_writeByte 26 = .ok (.iload_n 1, 1) := by decide +kernel
theorem dX0_writeByte_27 : decode cX0_writeByte 27 = .ok (.invokestatic 27, 3) := by decide +kernel
theorem dX0_writeByte_30 : decode cX0_writeByte 30 = .ok (.iload_n 2, 1) := by decide +kernel
theorem dX0_writeByte_31 : decode cX0_writeByte 31 = .ok (.invokevirtual 41, 3) := by decide +kernel
theorem dX0_writeByte_34 : decode cX0_writeByte 34 = .ok (.return_, 1) := by decide +kernel
set_option maxRecDepth 20000 in
theorem ggX0_placeByte_X0_wordAt : GoodIn wsX0_placeByte wsX0_wordAt := goodIn_r _ [7, 2, 8, 9, 10, 11, 6, 12, 13, 14, 15, 16, 17, 18, 19, 20, 21, 22, 23, 24, 25, 26, 27, 28, 38, 39, 40, 41, 42, 43, 44, 45] (by decide +kernel) (by decide +kernel)
set_option maxRecDepth 20000 in
theorem gX0_placeByte_X0_wordAt : GoodIn wsX0_placeByte (wsV RX0 38 RX0 yX0_wordAt wsX0_wordAt) := goodIn_app (goodIn_of _ (by decide +kernel)) ggX0_placeByte_X0_wordAt
set_option maxRecDepth 20000 in
theorem ggX0_placeByte_X0_isMultiplier : GoodIn wsX0_placeByte wsX0_isMultiplier := goodIn_r _ [12, 13] (by decide +kernel) (by decide +kernel)
set_option maxRecDepth 20000 in
theorem gX0_placeByte_X0_isMultiplier : GoodIn wsX0_placeByte (va_wsS RX0 23 yX0_isMultiplier wsX0_isMultiplier) := goodIn_app (goodIn_of _ (by decide +kernel)) ggX0_placeByte_X0_isMultiplier
set_option maxRecDepth 20000 in
theorem ggX0_placeByte_X0_slotOf : GoodIn wsX0_placeByte wsX0_slotOf := goodIn_r _ [16] (by decide +kernel) (by decide +kernel)
set_option maxRecDepth 20000 in
theorem gX0_placeByte_X0_slotOf : GoodIn wsX0_placeByte (va_wsS RX0 27 yX0_slotOf wsX0_slotOf) := goodIn_app (goodIn_of _ (by decide +kernel)) ggX0_placeByte_X0_slotOf
set_option maxRecDepth 20000 in
theorem ggX0_placeByte_X1_placeWordAtSlot : GoodIn wsX0_placeByte wsX1_placeWordAtSlot := goodIn_r _ [31, 21, 22, 23, 24, 25, 40, 41, 42, 43, 44, 45] (by decide +kernel) (by decide +kernel)
set_option maxRecDepth 20000 in
theorem gX0_placeByte_X1_placeWordAtSlot_n52 : GoodIn wsX0_placeByte (wsX1_placeWordAtSlot) := ggX0_placeByte_X1_placeWordAtSlot
set_option maxRecDepth 20000 in
theorem ggX0_placeByte_X0_placeWord : GoodIn wsX0_placeByte wsX0_placeWord := goodIn_r _ [35, 8, 36, 37, 26, 27, 6, 28, 9, 38, 39] (by decide +kernel) (by decide +kernel)
set_option maxRecDepth 20000 in
theorem gX0_placeByte_X0_placeWord : GoodIn wsX0_placeByte (wsV RX0 45 RX0 yX0_placeWord wsX0_placeWord) := goodIn_app (goodIn_of _ (by decide +kernel)) ggX0_placeByte_X0_placeWord
theorem dX0_placeByte_0 : decode cX0_placeByte 0 = .ok (.aload_n 0, 1) := by decide +kernel
theorem dX0_placeByte_1 : decode cX0_placeByte 1 = .ok (.iload_n 1, 1) := by decide +kernel
theorem dX0_placeByte_2 : decode cX0_placeByte 2 = .ok (.invokevirtual 38, 3) := by decide +kernel
theorem dX0_placeByte_5 : decode cX0_placeByte 5 = .ok (.istore_n 3, 1) := by decide +kernel
theorem dX0_placeByte_6 : decode cX0_placeByte 6 = .ok (.iload_n 1, 1) := by decide +kernel
theorem dX0_placeByte_7 : decode cX0_placeByte 7 = .ok (.iconst 1, 1) := by decide +kernel
theorem dX0_placeByte_8 : decode cX0_placeByte 8 = .ok (.iand, 1) := by decide +kernel
theorem dX0_placeByte_9 : decode cX0_placeByte 9 = .ok (.ifCond .ne 12, 3) := by decide +kernel
theorem dX0_placeByte_12 : decode cX0_placeByte 12 = .ok (.iload_n 3, 1) := by decide +kernel
theorem dX0_placeByte_13 : decode cX0_placeByte 13 = .ok (.ldc 51, 2) := by decide +kernel
theorem dX0_placeByte_15 : decode cX0_placeByte 15 = .ok (.iand, 1) := by decide +kernel
theorem dX0_placeByte_16 : decode cX0_placeByte 16 = .ok (.iload_n 2, 1) := by decide +kernel
theorem dX0_placeByte_17 : decode cX0_placeByte 17 = .ok (.ior, 1) := by decide +kernel
theorem dX0_placeByte_18 : decode cX0_placeByte 18 = .ok (.goto 13, 3) := by decide +kernel
theorem dX0_placeByte_21 : decode cX0_placeByte 21 = .ok (.iload_n 3, 1) := by decide +kernel
theorem dX0_placeByte_22 : decode cX0_placeByte 22 = .ok (.sipush 255, 3) := by decide +kernel
theorem dX0_placeByte_25 : decode cX0_placeByte 25 = .ok (.iand, 1) := by decide +kernel
theorem dX0_placeByte_26 : decode cX0_placeByte 26 = .ok (.iload_n 2, 1) := by decide +kernel
theorem dX0_placeByte_27 : decode cX0_placeByte 27 = .ok (.bipush 8, 2) := by decide +kernel
theorem dX0_placeByte_29 : decode cX0_placeByte 29 = .ok (.ishl, 1) := by decide +kernel
theorem dX0_placeByte_30 : decode cX0_placeByte 30 = .ok (.ior, 1) := by decide +kernel
theorem dX0_placeByte_31 : decode cX0_placeByte 31 = .ok (.istore 4, 2) := by decide +kernel
theorem dX0_placeByte_33 : decode cX0_placeByte 33 = .ok (.iload_n 1, 1) := by decide +kernel
theorem dX0_placeByte_34 : decode cX0_placeByte 34 = .ok (.invokestatic 23, 3) := by decide +kernel
theorem dX0_placeByte_37 : decode cX0_placeByte 37 = .ok (.ifCond .eq 19, 3) := by decide +kernel
theorem dX0_placeByte_40 : decode cX0_placeByte 40 = .ok (.aload_n 0, 1) := by decide +kernel
theorem dX0_placeByte_41 : decode cX0_placeByte 41 = .ok (.getfield 18, 3) := by decide +kernel
theorem dX0_placeByte_44 : decode cX0_placeByte 44 = .ok (.iload_n 1, 1) := by decide +kernel
theorem dX0_placeByte_45 : decode cX0_placeByte 45 = .ok (.invokestatic 27, 3) := by decide +kernel
theorem dX0_placeByte_48 : decode cX0_placeByte 48 = .ok (.iload 4, 2) := by decide +kernel
theorem dX0_placeByte_50 : decode cX0_placeByte 50 = .ok (.invokevirtual 52, 3) := by decide +kernel
theorem dX0_placeByte_53 : decode cX0_placeByte 53 = .ok (.goto 10, 3) := by decide +kernel
theorem dX0_placeByte_56 : decode cX0_placeByte 56 = .ok (.aload_n 0, 1) := by decide +kernel
theorem dX0_placeByte_57 : decode cX0_placeByte 57 = .ok (.iload_n 1, 1) := by decide +kernel
theorem dX0_placeByte_58 : decode cX0_placeByte 58 = .ok (.iload 4, 2) := by decide +kernel
theorem dX0_placeByte_60 : decode cX0_placeByte 60 = .ok (.invokevirtual 45, 3) := by decide +kernel
theorem dX0_placeByte_63 : decode cX0_placeByte 63 = .ok (.return_, 1) := by decide +kernel
set_option maxRecDepth 20000 in
theorem ggX0_placeWord_X0_cellOf : GoodIn wsX0_placeWord wsX0_cellOf := goodIn_r _ [7, 8] (by decide +kernel) (by decide +kernel)
set_option maxRecDepth 20000 in
theorem gX0_placeWord_X0_cellOf : GoodIn wsX0_placeWord (va_wsS RX0 34 yX0_cellOf wsX0_cellOf) := goodIn_app (goodIn_of _ (by decide +kernel)) ggX0_placeWord_X0_cellOf
theorem dX0_placeWord_0 : decode cX0_placeWord 0 = .ok (.iload_n 1, 1) := by decide +kernel
theorem dX0_placeWord_1 : decode cX0_placeWord 1 = .ok (.bipush 6, 2) := by decide +kernel
theorem dX0_placeWord_3 : decode cX0_placeWord 3 = .ok (.iand, 1) := by decide +kernel
theorem dX0_placeWord_4 : decode cX0_placeWord 4 = .ok (.bipush 8, 2) := by decide +kernel
theorem dX0_placeWord_6 : decode cX0_placeWord 6 = .ok (.imul, 1) := by decide +kernel
theorem dX0_placeWord_7 : decode cX0_placeWord 7 = .ok (.istore_n 3, 1) := by decide +kernel
theorem dX0_placeWord_8 : decode cX0_placeWord 8 = .ok (.iload_n 1, 1) := by decide +kernel
theorem dX0_placeWord_9 : decode cX0_placeWord 9 = .ok (.invokestatic 34, 3) := by decide +kernel
theorem dX0_placeWord_12 : decode cX0_placeWord 12 = .ok (.istore 4, 2) := by decide +kernel
theorem dX0_placeWord_14 : decode cX0_placeWord 14 = .ok (.aload_n 0, 1) := by decide +kernel
theorem dX0_placeWord_15 : decode cX0_placeWord 15 = .ok (.getfield 9, 3) := by decide +kernel
theorem dX0_placeWord_18 : decode cX0_placeWord 18 = .ok (.iload 4, 2) := by decide +kernel
theorem dX0_placeWord_20 : decode cX0_placeWord 20 = .ok (.aload_n 0, 1) := by decide +kernel
theorem dX0_placeWord_21 : decode cX0_placeWord 21 = .ok (.getfield 9, 3) := by decide +kernel
theorem dX0_placeWord_24 : decode cX0_placeWord 24 = .ok (.iload 4, 2) := by decide +kernel
theorem dX0_placeWord_26 : decode cX0_placeWord 26 = .ok (.laload, 1) := by decide +kernel
theorem dX0_placeWord_27 : decode cX0_placeWord 27 = .ok (.ldc2_w 55, 3) := by decide +kernel
theorem dX0_placeWord_30 : decode cX0_placeWord 30 = .ok (.iload_n 3, 1) := by decide +kernel
theorem dX0_placeWord_31 : decode cX0_placeWord 31 = .ok (.lshl, 1) := by decide +kernel
theorem dX0_placeWord_32 : decode cX0_placeWord 32 = .ok (.ldc2_w 57, 3) := by decide +kernel
theorem dX0_placeWord_35 : decode cX0_placeWord 35 = .ok (.lxor, 1) := by decide +kernel
theorem dX0_placeWord_36 : decode cX0_placeWord 36 = .ok (.land, 1) := by decide +kernel
theorem dX0_placeWord_37 : decode cX0_placeWord 37 = .ok (.iload_n 2, 1) := by decide +kernel
theorem dX0_placeWord_38 : decode cX0_placeWord 38 = .ok (.i2l, 1) := by decide +kernel
theorem dX0_placeWord_39 : decode cX0_placeWord 39 = .ok (.iload_n 3, 1) := by decide +kernel
theorem dX0_placeWord_40 : decode cX0_placeWord 40 = .ok (.lshl, 1) := by decide +kernel
theorem dX0_placeWord_41 : decode cX0_placeWord 41 = .ok (.lor, 1) := by decide +kernel
theorem dX0_placeWord_42 : decode cX0_placeWord 42 = .ok (.lastore, 1) := by decide +kernel
theorem dX0_placeWord_43 : decode cX0_placeWord 43 = .ok (.return_, 1) := by decide +kernel
theorem dX0_cellOf_0 : decode cX0_cellOf 0 = .ok (.iload_n 0, 1) := by decide +kernel
theorem dX0_cellOf_1 : decode cX0_cellOf 1 = .ok (.ldc 37, 2) := by decide +kernel
theorem dX0_cellOf_3 : decode cX0_cellOf 3 = .ok (.iand, 1) := by decide +kernel
theorem dX0_cellOf_4 : decode cX0_cellOf 4 = .ok (.iconst 3, 1) := by decide +kernel
theorem dX0_cellOf_5 : decode cX0_cellOf 5 = .ok (.ishr, 1) := by decide +kernel
theorem dX0_cellOf_6 : decode cX0_cellOf 6 = .ok (.ireturn, 1) := by decide +kernel
theorem dX0_slotOf_0 : decode cX0_slotOf 0 = .ok (.iload_n 0, 1) := by decide +kernel
theorem dX0_slotOf_1 : decode cX0_slotOf 1 = .ok (.iconst 1, 1) := by decide +kernel
theorem dX0_slotOf_2 : decode cX0_slotOf 2 = .ok (.ishr, 1) := by decide +kernel
theorem dX0_slotOf_3 : decode cX0_slotOf 3 = .ok (.bipush 7, 2) := by decide +kernel
theorem dX0_slotOf_5 : decode cX0_slotOf 5 = .ok (.iand, 1) := by decide +kernel
theorem dX0_slotOf_6 : decode cX0_slotOf 6 = .ok (.ireturn, 1) := by decide +kernel
theorem dX1_init_0 : decode cX1_init 0 = .ok (.aload_n 0, 1) := by decide +kernel
theorem dX1_init_1 : decode cX1_init 1 = .ok (.invokespecial 1, 3) := by decide +kernel
theorem dX1_init_4 : decode cX1_init 4 = .ok (.return_, 1) := by decide +kernel
theorem dX1_clear_0 : decode cX1_clear 0 = .ok (.aload_n 0, 1) := by decide +kernel
theorem dX1_clear_1 : decode cX1_clear 1 = .ok (.iconst 0, 1) := by decide +kernel
theorem dX1_clear_2 : decode cX1_clear 2 = .ok (.putfield 7, 3) := by decide +kernel
theorem dX1_clear_5 : decode cX1_clear 5 = .ok (.aload_n 0, 1) := by decide +kernel
theorem dX1_clear_6 : decode cX1_clear 6 = .ok (.iconst 0, 1) := by decide +kernel
theorem dX1_clear_7 : decode cX1_clear 7 = .ok (.putfield 13, 3) := by decide +kernel
theorem dX1_clear_10 : decode cX1_clear 10 = .ok (.aload_n 0, 1) := by decide +kernel
theorem dX1_clear_11 : decode cX1_clear 11 = .ok (.iconst 0, 1) := by decide +kernel
theorem dX1_clear_12 : decode cX1_clear 12 = .ok (.putfield 16, 3) := by decide +kernel
theorem dX1_clear_15 : decode cX1_clear 15 = .ok (.aload_n 0, 1) := by decide +kernel
theorem dX1_clear_16 : decode cX1_clear 16 = .ok (.iconst 0, 1) := by decide +kernel
theorem dX1_clear_17 : decode cX1_clear 17 = .ok (.putfield 19, 3) := by decide +kernel
theorem dX1_clear_20 : decode cX1_clear 20 = .ok (.aload_n 0, 1) := by decide +kernel
theorem dX1_clear_21 : decode cX1_clear 21 = .ok (.iconst 0, 1) := by decide +kernel
theorem dX1_clear_22 : decode cX1_clear 22 = .ok (.putfield 22, 3) := by decide +kernel
theorem dX1_clear_25 : decode cX1_clear 25 = .ok (.aload_n 0, 1) := by decide +kernel
theorem dX1_clear_26 : decode cX1_clear 26 = .ok (.iconst 0, 1) := by decide +kernel
theorem dX1_clear_27 : decode cX1_clear 27 = .ok (.putfield 25, 3) := by decide +kernel
theorem dX1_clear_30 : decode cX1_clear 30 = .ok (.return_, 1) := by decide +kernel
theorem dX1_wordAtSlot_0 : decode cX1_wordAtSlot 0 = .ok (.iload_n 1, 1) := by decide +kernel
theorem dX1_wordAtSlot_1 : decode cX1_wordAtSlot 1 = .ok (.tableswitch 51 4 7 #[31, 36, 41, 46], 31) := by decide +kernel
theorem dX1_wordAtSlot_32 : decode cX1_wordAtSlot 32 = .ok (.aload_n 0, 1) := by decide +kernel
theorem dX1_wordAtSlot_33 : decode cX1_wordAtSlot 33 = .ok (.getfield 13, 3) := by decide +kernel
theorem dX1_wordAtSlot_36 : decode cX1_wordAtSlot 36 = .ok (.ireturn, 1) := by decide +kernel
theorem dX1_wordAtSlot_37 : decode cX1_wordAtSlot 37 = .ok (.aload_n 0, 1) := by decide +kernel
theorem dX1_wordAtSlot_38 : decode cX1_wordAtSlot 38 = .ok (.getfield 16, 3) := by decide +kernel
theorem dX1_wordAtSlot_41 : decode cX1_wordAtSlot 41 = .ok (.ireturn, 1) := by decide +kernel
theorem dX1_wordAtSlot_42 : decode cX1_wordAtSlot 42 = .ok (.aload_n 0, 1) := by decide +kernel
theorem dX1_wordAtSlot_43 : decode cX1_wordAtSlot 43 = .ok (.getfield 19, 3) := by decide +kernel
theorem dX1_wordAtSlot_46 : decode cX1_wordAtSlot 46 = .ok (.ireturn, 1) := by decide +kernel
theorem dX1_wordAtSlot_47 : decode cX1_wordAtSlot 47 = .ok (.aload_n 0, 1) := by decide +kernel
theorem dX1_wordAtSlot_48 : decode cX1_wordAtSlot 48 = .ok (.getfield 22, 3) := by decide +kernel
theorem dX1_wordAtSlot_51 : decode cX1_wordAtSlot 51 = .ok (.ireturn, 1) := by decide +kernel
theorem dX1_wordAtSlot_52 : decode cX1_wordAtSlot 52 = .ok (.aload_n 0, 1) := by decide +kernel
theorem dX1_wordAtSlot_53 : decode cX1_wordAtSlot 53 = .ok (.getfield 7, 3) := by decide +kernel
theorem dX1_wordAtSlot_56 : decode cX1_wordAtSlot 56 = .ok (.ireturn, 1) := by decide +kernel
theorem dX1_placeWordAtSlot_0 : decode cX1_placeWordAtSlot 0 = .ok (.iload_n 1, 1) := by decide +kernel
theorem dX1_placeWordAtSlot_1 : decode cX1_placeWordAtSlot 1 = .ok (.tableswitch 63 4 7 #[31, 39, 47, 55], 31) := by decide +kernel
theorem dX1_placeWordAtSlot_32 : decode cX1_placeWordAtSlot 32 = .ok (.aload_n 0, 1) := by decide +kernel
theorem dX1_placeWordAtSlot_33 : decode cX1_placeWordAtSlot 33 = .ok (.iload_n 2, 1) := by decide +kernel
theorem dX1_placeWordAtSlot_34 : decode cX1_placeWordAtSlot 34 = .ok (.putfield 13, 3) := by decide +kernel
theorem dX1_placeWordAtSlot_37 : decode cX1_placeWordAtSlot 37 = .ok (.goto 32, 3) := by decide +kernel
theorem dX1_placeWordAtSlot_40 : decode cX1_placeWordAtSlot 40 = .ok (.aload_n 0, 1) := by decide +kernel
theorem dX1_placeWordAtSlot_41 : decode cX1_placeWordAtSlot 41 = .ok (.iload_n 2, 1) := by decide +kernel
theorem dX1_placeWordAtSlot_42 : decode cX1_placeWordAtSlot 42 = .ok (.putfield 16, 3) := by decide +kernel
theorem dX1_placeWordAtSlot_45 : decode cX1_placeWordAtSlot 45 = .ok (.goto 24, 3) := by decide +kernel
theorem dX1_placeWordAtSlot_48 : decode cX1_placeWordAtSlot 48 = .ok (.aload_n 0, 1) := by decide +kernel
theorem dX1_placeWordAtSlot_49 : decode cX1_placeWordAtSlot 49 = .ok (.iload_n 2, 1) := by decide +kernel
theorem dX1_placeWordAtSlot_50 : decode cX1_placeWordAtSlot 50 = .ok (.putfield 19, 3) := by decide +kernel
theorem dX1_placeWordAtSlot_53 : decode cX1_placeWordAtSlot 53 = .ok (.goto 16, 3) := by decide +kernel
theorem dX1_placeWordAtSlot_56 : decode cX1_placeWordAtSlot 56 = .ok (.aload_n 0, 1) := by decide +kernel
theorem dX1_placeWordAtSlot_57 : decode cX1_placeWordAtSlot 57 = .ok (.iload_n 2, 1) := by decide +kernel
theorem dX1_placeWordAtSlot_58 : decode cX1_placeWordAtSlot 58 = .ok (.putfield 22, 3) := by decide +kernel
theorem dX1_placeWordAtSlot_61 : decode cX1_placeWordAtSlot 61 = .ok (.goto 8, 3) := by decide +kernel
theorem dX1_placeWordAtSlot_64 : decode cX1_placeWordAtSlot 64 = .ok (.aload_n 0, 1) := by decide +kernel
theorem dX1_placeWordAtSlot_65 : decode cX1_placeWordAtSlot 65 = .ok (.iload_n 2, 1) := by decide +kernel
theorem dX1_placeWordAtSlot_66 : decode cX1_placeWordAtSlot 66 = .ok (.putfield 7, 3) := by decide +kernel
theorem dX1_placeWordAtSlot_69 : decode cX1_placeWordAtSlot 69 = .ok (.return_, 1) := by decide +kernel
set_option maxRecDepth 20000 in
theorem ggX1_write_X1_placeWordAtSlot : GoodIn wsX1_write wsX1_placeWordAtSlot := goodIn_r _ [6, 7, 8, 9, 10, 11, 19, 20, 21, 22, 23, 24] (by decide +kernel) (by decide +kernel)
set_option maxRecDepth 20000 in
theorem gX1_write_X1_placeWordAtSlot : GoodIn wsX1_write (wsV RX1 28 RX1 yX1_placeWordAtSlot wsX1_placeWordAtSlot) := goodIn_app (goodIn_of _ (by decide +kernel)) ggX1_write_X1_placeWordAtSlot
set_option maxRecDepth 20000 in
theorem ggX1_write_X1_multiply : GoodIn wsX1_write wsX1_multiply := goodIn_r _ [15, 1, 11, 7, 9, 8, 16, 17, 10, 18, 19, 20, 21, 22, 23, 24] (by decide +kernel) (by decide +kernel)
set_option maxRecDepth 20000 in
theorem gX1_write_X1_multiply : GoodIn wsX1_write (wsV RX1 32 RX1 yX1_multiply wsX1_multiply) := goodIn_app (goodIn_of _ (by decide +kernel)) ggX1_write_X1_multiply
theorem dX1_write_0 : decode cX1_write 0 = .ok (.iload_n 1, 1) := by decide +kernel
theorem dX1_write_1 : decode cX1_write 1 = .ok (.bipush 7, 2) := by decide +kernel
theorem dX1_write_3 : decode cX1_write 3 = .ok (.if_icmp .ne 4, 3) := by decide +kernel
theorem dX1_write_6 : decode cX1_write 6 = .ok (.return_, 1) := by decide +kernel
theorem dX1_write_7 : decode cX1_write 7 = .ok (.aload_n 0, 1) := by decide +kernel
theorem dX1_write_8 : decode cX1_write 8 = .ok (.iload_n 1, 1) := by decide +kernel
theorem dX1_write_9 : decode cX1_write 9 = .ok (.iload_n 2, 1) := by decide +kernel
theorem dX1_write_10 : decode cX1_write 10 = .ok (.invokevirtual 28, 3) := by decide +kernel
theorem dX1_write_13 : decode cX1_write 13 = .ok (.iload_n 1, 1) := by decide +kernel
theorem dX1_write_14 : decode cX1_write 14 = .ok (.iconst 4, 1) := by decide +kernel
theorem dX1_write_15 : decode cX1_write 15 = .ok (.if_icmp .ge 11, 3) := by decide +kernel
theorem dX1_write_18 : decode cX1_write 18 = .ok (.aload_n 0, 1) := by decide +kernel
theorem dX1_write_19 : decode cX1_write 19 = .ok (.iload_n 1, 1) := by decide +kernel
theorem dX1_write_20 : decode cX1_write 20 = .ok (.putfield 25, 3) := by decide +kernel
theorem dX1_write_23 : decode cX1_write 23 = .ok (.goto 12, 3) := by decide +kernel
theorem dX1_write_26 : decode cX1_write 26 = .ok (.iload_n 1, 1) := by decide +kernel
theorem dX1_write_27 : decode cX1_write 27 = .ok (.iconst 4, 1) := by decide +kernel
theorem dX1_write_28 : decode cX1_write 28 = .ok (.if_icmp .ne 7, 3) := by decide +kernel
theorem dX1_write_31 : decode cX1_write 31 = .ok (.aload_n 0, 1) := by decide +kernel
theorem dX1_write_32 : decode cX1_write 32 = .ok (.invokevirtual 32, 3) := by decide +kernel
theorem dX1_write_35 : decode cX1_write 35 = .ok (.return_, 1) := by decide +kernel
theorem dX1_multiply_0 : decode cX1_multiply 0 = .ok (.aload_n 0, 1) := by decide +kernel
theorem dX1_multiply_1 : decode cX1_multiply 1 = .ok (.getfield 25, 3) := by decide +kernel
theorem dX1_multiply_4 : decode cX1_multiply 4 = .ok (.iconst 1, 1) := by decide +kernel
theorem dX1_multiply_5 : decode cX1_multiply 5 = .ok (.iand, 1) := by decide +kernel
theorem dX1_multiply_6 : decode cX1_multiply 6 = .ok (.ifCond .eq 7, 3) := by decide +kernel
theorem dX1_multiply_9 : decode cX1_multiply 9 = .ok (.iconst 1, 1) := by decide +kernel
theorem dX1_multiply_10 : decode cX1_multiply 10 = .ok (.goto 4, 3) := by decide +kernel
theorem dX1_multiply_13 : decode cX1_multiply 13 = .ok (.iconst 0, 1) := by decide +kernel
theorem dX1_multiply_14 : decode cX1_multiply 14 = .ok (.istore_n 1, 1) := by decide +kernel
theorem dX1_multiply_15 : decode cX1_multiply 15 = .ok (.aload_n 0, 1) := by decide +kernel
theorem dX1_multiply_16 : decode cX1_multiply 16 = .ok (.getfield 25, 3) := by decide +kernel
theorem dX1_multiply_19 : decode cX1_multiply 19 = .ok (.iconst 2, 1) := by decide +kernel
theorem dX1_multiply_20 : decode cX1_multiply 20 = .ok (.iand, 1) := by decide +kernel
theorem dX1_multiply_21 : decode cX1_multiply 21 = .ok (.ifCond .eq 7, 3) := by decide +kernel
theorem dX1_multiply_24 : decode cX1_multiply 24 = .ok (.iconst 1, 1) := by decide +kernel
theorem dX1_multiply_25 : decode cX1_multiply 25 = .ok (.goto 4, 3) := by decide +kernel
theorem dX1_multiply_28 : decode cX1_multiply 28 = .ok (.iconst 0, 1) := by decide +kernel
theorem dX1_multiply_29 : decode cX1_multiply 29 = .ok (.istore_n 2, 1) := by decide +kernel
theorem dX1_multiply_30 : decode cX1_multiply 30 = .ok (.iload_n 1, 1) := by decide +kernel
theorem dX1_multiply_31 : decode cX1_multiply 31 = .ok (.ifCond .eq 19, 3) := by decide +kernel
theorem dX1_multiply_34 : decode cX1_multiply 34 = .ok (.aload_n 0, 1) := by decide +kernel
theorem dX1_multiply_35 : decode cX1_multiply 35 = .ok (.getfield 7, 3) := by decide +kernel
theorem dX1_multiply_38 : decode cX1_multiply 38 = .ok (.i2s, 1) := by decide +kernel
theorem dX1_multiply_39 : decode cX1_multiply 39 = .ok (.i2l, 1) := by decide +kernel
theorem dX1_multiply_40 : decode cX1_multiply 40 = .ok (.aload_n 0, 1) := by decide +kernel
theorem dX1_multiply_41 : decode cX1_multiply 41 = .ok (.getfield 13, 3) := by decide +kernel
theorem dX1_multiply_44 : decode cX1_multiply 44 = .ok (.i2s, 1) := by decide +kernel
theorem dX1_multiply_45 : decode cX1_multiply 45 = .ok (.i2l, 1) := by decide +kernel
theorem dX1_multiply_46 : decode cX1_multiply 46 = .ok (.lmul, 1) := by decide +kernel
theorem dX1_multiply_47 : decode cX1_multiply 47 = .ok (.goto 14, 3) := by decide +kernel
theorem dX1_multiply_50 : decode cX1_multiply 50 = .ok (.aload_n 0, 1) := by decide +kernel
theorem dX1_multiply_51 : decode cX1_multiply 51 = .ok (.getfield 7, 3) := by decide +kernel
theorem dX1_multiply_54 : decode cX1_multiply 54 = .ok (.i2l, 1) := by decide +kernel
theorem dX1_multiply_55 : decode cX1_multiply 55 = .ok (.aload_n 0, 1) := by decide +kernel
theorem dX1_multiply_56 : decode cX1_multiply 56 = .ok (.getfield 13, 3) := by decide +kernel
theorem dX1_multiply_59 : decode cX1_multiply 59 = .ok (.i2l, 1) := by decide +kernel
theorem dX1_multiply_60 : decode cX1_multiply 60 = .ok (.lmul, 1) := by decide +kernel
theorem dX1_multiply_61 : decode cX1_multiply 61 = .ok (.lstore_n 3, 1) := by decide +kernel
theorem dX1_multiply_62 : decode cX1_multiply 62 = .ok (.iload_n 2, 1) := by decide +kernel
theorem dX1_multiply_63 : decode cX1_multiply 63 = .ok (.ifCond .eq 20, 3) := by decide +kernel
theorem dX1_multiply_66 : decode cX1_multiply 66 = .ok (.aload_n 0, 1) := by decide +kernel
theorem dX1_multiply_67 : decode cX1_multiply 67 = .ok (.getfield 19, 3) := by decide +kernel
theorem dX1_multiply_70 : decode cX1_multiply 70 = .ok (.i2l, 1) := by decide +kernel
theorem dX1_multiply_71 : decode cX1_multiply 71 = .ok (.bipush 16, 2) := by decide +kernel
theorem dX1_multiply_73 : decode cX1_multiply 73 = .ok (.lshl, 1) := by decide +kernel
theorem dX1_multiply_74 : decode cX1_multiply 74 = .ok (.aload_n 0, 1) := by decide +kernel
theorem dX1_multiply_75 : decode cX1_multiply 75 = .ok (.getfield 16, 3) := by decide +kernel
theorem dX1_multiply_78 : decode cX1_multiply 78 = .ok (.i2l, 1) := by decide +kernel
theorem dX1_multiply_79 : decode cX1_multiply 79 = .ok (.lor, 1) := by decide +kernel
theorem dX1_multiply_80 : decode cX1_multiply 80 = .ok (.goto 4, 3) := by decide +kernel
theorem dX1_multiply_83 : decode cX1_multiply 83 = .ok (.lconst 0, 1) := by decide +kernel
theorem dX1_multiply_84 : decode cX1_multiply 84 = .ok (.lstore 5, 2) := by decide +kernel
theorem dX1_multiply_86 : decode cX1_multiply 86 = .ok (.lload 5, 2) := by decide +kernel
theorem dX1_multiply_88 : decode cX1_multiply 88 = .ok (.lload_n 3, 1) := by decide +kernel
theorem dX1_multiply_89 : decode cX1_multiply 89 = .ok (.ladd, 1) := by decide +kernel
theorem dX1_multiply_90 : decode cX1_multiply 90 = .ok (.lstore 7, 2) := by decide +kernel
theorem dX1_multiply_92 : decode cX1_multiply 92 = .ok (.aload_n 0, 1) := by decide +kernel
theorem dX1_multiply_93 : decode cX1_multiply 93 = .ok (.lload 7, 2) := by decide +kernel
theorem dX1_multiply_95 : decode cX1_multiply 95 = .ok (.bipush 16, 2) := by decide +kernel
theorem dX1_multiply_97 : decode cX1_multiply 97 = .ok (.lshr, 1) := by decide +kernel
theorem dX1_multiply_98 : decode cX1_multiply 98 = .ok (.l2i, 1) := by decide +kernel
theorem dX1_multiply_99 : decode cX1_multiply 99 = .ok (.ldc 35, 2) := by decide +kernel
theorem dX1_multiply_101 : decode cX1_multiply 101 = .ok (.iand, 1) := by decide +kernel
theorem dX1_multiply_102 : decode cX1_multiply 102 = .ok (.putfield 19, 3) := by decide +kernel
theorem dX1_multiply_105 : decode cX1_multiply 105 = .ok (.aload_n 0, 1) := by decide +kernel
theorem dX1_multiply_106 : decode cX1_multiply 106 = .ok (.lload 7, 2) := by decide +kernel
theorem dX1_multiply_108 : decode cX1_multiply 108 = .ok (.l2i, 1) := by decide +kernel
theorem dX1_multiply_109 : decode cX1_multiply 109 = .ok (.ldc 35, 2) := by decide +kernel
theorem dX1_multiply_111 : decode cX1_multiply 111 = .ok (.iand, 1) := by decide +kernel
theorem dX1_multiply_112 : decode cX1_multiply 112 = .ok (.putfield 16, 3) := by decide +kernel
theorem dX1_multiply_115 : decode cX1_multiply 115 = .ok (.iload_n 1, 1) := by decide +kernel
theorem dX1_multiply_116 : decode cX1_multiply 116 = .ok (.ifCond .eq 26, 3) := by decide +kernel
theorem dX1_multiply_119 : decode cX1_multiply 119 = .ok (.aload_n 0, 1) := by decide +kernel
theorem dX1_multiply_120 : decode cX1_multiply 120 = .ok (.aload_n 0, 1) := by decide +kernel
theorem dX1_multiply_121 : decode cX1_multiply 121 = .ok (.getfield 19, 3) := by decide +kernel
theorem dX1_multiply_124 : decode cX1_multiply 124 = .ok (.ldc 36, 2) := by decide +kernel
theorem dX1_multiply_126 : decode cX1_multiply 126 = .ok (.iand, 1) := by decide +kernel
theorem dX1_multiply_127 : decode cX1_multiply 127 = .ok (.ifCond .eq 8, 3) := by decide +kernel
theorem dX1_multiply_130 : decode cX1_multiply 130 = .ok (.ldc 35, 2) := by decide +kernel
theorem dX1_multiply_132 : decode cX1_multiply 132 = .ok (.goto 4, 3) := by decide +kernel
theorem dX1_multiply_135 : decode cX1_multiply 135 = .ok (.iconst 0, 1) := by decide +kernel
theorem dX1_multiply_136 : decode cX1_multiply 136 = .ok (.putfield 22, 3) := by decide +kernel
theorem dX1_multiply_139 : decode cX1_multiply 139 = .ok (.goto 21, 3) := by decide +kernel
theorem dX1_multiply_142 : decode cX1_multiply 142 = .ok (.aload_n 0, 1) := by decide +kernel
theorem dX1_multiply_143 : decode cX1_multiply 143 = .ok (.lload 7, 2) := by decide +kernel
theorem dX1_multiply_145 : decode cX1_multiply 145 = .ok (.ldc2_w 37, 3) := by decide +kernel
theorem dX1_multiply_148 : decode cX1_multiply 148 = .ok (.lcmp, 1) := by decide +kernel
theorem dX1_multiply_149 : decode cX1_multiply 149 = .ok (.ifCond .le 7, 3) := by decide +kernel
theorem dX1_multiply_152 : decode cX1_multiply 152 = .ok (.iconst 1, 1) := by decide +kernel
theorem dX1_multiply_153 : decode cX1_multiply 153 = .ok (.goto 4, 3) := by decide +kernel
theorem dX1_multiply_156 : decode cX1_multiply 156 = .ok (.iconst 0, 1) := by decide +kernel
theorem dX1_multiply_157 : decode cX1_multiply 157 = .ok (.putfield 22, 3) := by decide +kernel
theorem dX1_multiply_160 : decode cX1_multiply 160 = .ok (.return_, 1) := by decide +kernel
set_option maxRecDepth 20000 in
theorem ggX2_init_X0_init : GoodIn wsX2_init wsX0_init := goodIn_r _ [11, 12, 2, 3, 13, 14, 15, 16, 17, 18, 19, 20, 21, 61, 62, 67, 68, 69, 70, 71, 72] (by decide +kernel) (by decide +kernel)
set_option maxRecDepth 20000 in
theorem gX2_init_X0_init_n11 : GoodIn wsX2_init (wsX0_init) := ggX2_init_X0_init
set_option maxRecDepth 20000 in
theorem ggX2_init_X2_init_ : GoodIn wsX2_init wsX2_init_ := goodIn_r _ [26, 9, 27, 28, 7, 29, 30, 17, 31, 32, 33, 34, 35, 36, 37, 38, 39, 6, 40, 41, 18, 14, 42, 43, 44, 45, 46, 47, 48, 49, 50, 51, 52, 53, 54, 55, 56, 57, 58, 25, 59, 60, 63, 64, 65, 66, 61, 62, 67, 68, 69, 70, 71, 72] (by decide +kernel) (by decide +kernel)
set_option maxRecDepth 20000 in
theorem gX2_init_X2_init_ : GoodIn wsX2_init (wsV RX2 20 RX2 yX2_init_ wsX2_init_) := goodIn_app (goodIn_of _ (by decide +kernel)) ggX2_init_X2_init_
theorem dX2_init_0 : decode cX2_init 0 = .ok (.aload_n 0, 1) := by decide +kernel
theorem dX2_init_1 : decode cX2_init 1 = .ok (.invokespecial 3, 3) := by decide +kernel
theorem dX2_init_4 : decode cX2_init 4 = .ok (.aload_n 0, 1) := by decide +kernel
theorem dX2_init_5 : decode cX2_init 5 = .ok (.new 9, 3) := by decide +kernel
theorem dX2_init_8 : decode cX2_init 8 = .ok (.dup, 1) := by decide +kernel
theorem dX2_init_9 : decode cX2_init 9 = .ok (.invokespecial 11, 3) := by decide +kernel
theorem dX2_init_12 : decode cX2_init 12 = .ok (.putfield 12, 3) := by decide +kernel
theorem dX2_init_15 : decode cX2_init 15 = .ok (.aload_n 0, 1) := by decide +kernel
theorem dX2_init_16 : decode cX2_init 16 = .ok (.bipush 16, 2) := by decide +kernel
theorem dX2_init_18 : decode cX2_init 18 = .ok (.newarray .int, 2) := by decide +kernel
theorem dX2_init_20 : decode cX2_init 20 = .ok (.putfield 16, 3) := by decide +kernel
theorem dX2_init_23 : decode cX2_init 23 = .ok (.aload_n 0, 1) := by decide +kernel
theorem dX2_init_24 : decode cX2_init 24 = .ok (.invokevirtual 20, 3) := by decide +kernel
theorem dX2_init_27 : decode cX2_init 27 = .ok (.return_, 1) := by decide +kernel
set_option maxRecDepth 20000 in
theorem ggX2_init__X1_clear : GoodIn wsX2_init_ wsX1_clear := goodIn_r _ [9, 10, 11, 12, 13, 14, 15, 48, 49, 50, 51, 52, 53] (by decide +kernel) (by decide +kernel)
set_option maxRecDepth 20000 in
theorem gX2_init__X1_clear_n34 : GoodIn wsX2_init_ (wsX1_clear) := ggX2_init__X1_clear
set_option maxRecDepth 20000 in
theorem ggX2_init__X0_wordAt : GoodIn wsX2_init_ wsX0_wordAt := goodIn_r _ [19, 20, 21, 22, 23, 24, 17, 25, 26, 27, 28, 29, 30, 7, 31, 32, 11, 12, 13, 14, 10, 33, 34, 35, 46, 47, 48, 49, 50, 51, 52, 53] (by decide +kernel) (by decide +kernel)
set_option maxRecDepth 20000 in
theorem gX2_init__X0_wordAt_n40 : GoodIn wsX2_init_ (wsX0_wordAt) := ggX2_init__X0_wordAt
set_option maxRecDepth 20000 in
theorem ggX2_init__X2_setRegister : GoodIn wsX2_init_ wsX2_setRegister := goodIn_r _ [40, 1, 5, 41, 42, 43, 44, 45] (by decide +kernel) (by decide +kernel)
set_option maxRecDepth 20000 in
theorem gX2_init__X2_setRegister : GoodIn wsX2_init_ (wsV RX2 44 RX2 yX2_setRegister wsX2_setRegister) := goodIn_app (goodIn_of _ (by decide +kernel)) ggX2_init__X2_setRegister
theorem dX2_init__0 : decode cX2_init_ 0 = .ok (.iconst 0, 1) := by decide +kernel
theorem dX2_init__1 : decode cX2_init_ 1 = .ok (.istore_n 1, 1) := by decide +kernel
theorem dX2_init__2 : decode cX2_init_ 2 = .ok (.iload_n 1, 1) := by decide +kernel
theorem dX2_init__3 : decode cX2_init_ 3 = .ok (.bipush 16, 2) := by decide +kernel
theorem dX2_init__5 : decode cX2_init_ 5 = .ok (.if_icmp .ge 16, 3) := by decide +kernel
theorem dX2_init__8 : decode cX2_init_ 8 = .ok (.aload_n 0, 1) := by decide +kernel
theorem dX2_init__9 : decode cX2_init_ 9 = .ok (.getfield 16, 3) := by decide +kernel
theorem dX2_init__12 : decode cX2_init_ 12 = .ok (.iload_n 1, 1) := by decide +kernel
theorem dX2_init__13 : decode cX2_init_ 13 = .ok (.iconst 0, 1) := by decide +kernel
theorem dX2_init__14 : decode cX2_init_ 14 = .ok (.iastore, 1) := by decide +kernel
theorem dX2_init__15 : decode cX2_init_ 15 = .ok (.iinc 1 1, 3) := by decide +kernel
theorem dX2_init__18 : decode cX2_init_ 18 = .ok (.goto (-16), 3) := by decide +kernel
theorem dX2_init__21 : decode cX2_init_ 21 = .ok (.aload_n 0, 1) := by decide +kernel
theorem dX2_init__22 : decode cX2_init_ 22 = .ok (.iconst 0, 1) := by decide +kernel
theorem dX2_init__23 : decode cX2_init_ 23 = .ok (.putfield 23, 3) := by decide +kernel
theorem dX2_init__26 : decode cX2_init_ 26 = .ok (.aload_n 0, 1) := by decide +kernel
theorem dX2_init__27 : decode cX2_init_ 27 = .ok (.iconst 0, 1) := by decide +kernel
theorem dX2_init__28 : decode cX2_init_ 28 = .ok (.putfield 27, 3) := by decide +kernel
theorem dX2_init__31 : decode cX2_init_ 31 = .ok (.aload_n 0, 1) := by decide +kernel
theorem dX2_init__32 : decode cX2_init_ 32 = .ok (.getfield 12, 3) := by decide +kernel
theorem dX2_init__35 : decode cX2_init_ 35 = .ok (.getfield 30, 3) := by decide +kernel
theorem dX2_init__38 : decode cX2_init_ 38 = .ok (.invokevirtual 34, 3) := by decide +kernel
theorem dX2_init__41 : decode cX2_init_ 41 = .ok (.aload_n 0, 1) := by decide +kernel
theorem dX2_init__42 : decode cX2_init_ 42 = .ok (.iconst 0, 1) := by decide +kernel
theorem dX2_init__43 : decode cX2_init_ 43 = .ok (.aload_n 0, 1) := by decide +kernel
theorem dX2_init__44 : decode cX2_init_ 44 = .ok (.getfield 12, 3) := by decide +kernel
theorem dX2_init__47 : decode cX2_init_ 47 = .ok (.ldc 39, 2) := by decide +kernel
theorem dX2_init__49 : decode cX2_init_ 49 = .ok (.invokevirtual 40, 3) := by decide +kernel
theorem dX2_init__52 : decode cX2_init_ 52 = .ok (.invokevirtual 44, 3) := by decide +kernel
theorem dX2_init__55 : decode cX2_init_ 55 = .ok (.return_, 1) := by decide +kernel
set_option maxRecDepth 20000 in
theorem ggX2_poke_X0_placeByte : GoodIn wsX2_poke wsX0_placeByte := goodIn_r _ [6, 7, 8, 9, 10, 11, 4, 12, 13, 14, 15, 16, 17, 18, 19, 20, 21, 22, 23, 24, 25, 26, 27, 28, 29, 30, 31, 32, 33, 34, 35, 36, 37, 38, 39, 40, 41, 42, 47, 48, 49, 50, 51, 52, 53, 54] (by decide +kernel) (by decide +kernel)
set_option maxRecDepth 20000 in
theorem gX2_poke_X0_placeByte_n49 : GoodIn wsX2_poke (wsX0_placeByte) := ggX2_poke_X0_placeByte
theorem dX2_poke_0 : decode cX2_poke 0 = .ok (.iload_n 1, 1) := by decide +kernel
theorem dX2_poke_1 : decode cX2_poke 1 = .ok (.ifCond .lt 20, 3) := by decide +kernel
theorem dX2_poke_4 : decode cX2_poke 4 = .ok (.iload_n 1, 1) := by decide +kernel
theorem dX2_poke_5 : decode cX2_poke 5 = .ok (.ldc 48, 2) := by decide +kernel
theorem dX2_poke_7 : decode cX2_poke 7 = .ok (.if_icmp .ge 14, 3) := by decide +kernel
theorem dX2_poke_10 : decode cX2_poke 10 = .ok (.iload_n 2, 1) := by decide +kernel
theorem dX2_poke_11 : decode cX2_poke 11 = .ok (.ifCond .lt 10, 3) := by decide +kernel
theorem dX2_poke_14 : decode cX2_poke 14 = .ok (.iload_n 2, 1) := by decide +kernel
theorem dX2_poke_15 : decode cX2_poke 15 = .ok (.sipush 255, 3) := by decide +kernel
theorem dX2_poke_18 : decode cX2_poke 18 = .ok (.if_icmp .le 5, 3) := by decide +kernel
theorem dX2_poke_21 : decode cX2_poke 21 = .ok (.iconst 0, 1) := by decide +kernel
theorem dX2_poke_22 : decode cX2_poke 22 = .ok (.ireturn, 1) := by decide +kernel
theorem dX2_poke_23 : decode cX2_poke 23 = .ok (.aload_n 0, 1) := by decide +kernel
theorem dX2_poke_24 : decode cX2_poke 24 = .ok (.getfield 12, 3) := by decide +kernel
theorem dX2_poke_27 : decode cX2_poke 27 = .ok (.iload_n 1, 1) := by decide +kernel
theorem dX2_poke_28 : decode cX2_poke 28 = .ok (.iload_n 2, 1) := by decide +kernel
theorem dX2_poke_29 : decode cX2_poke 29 = .ok (.invokevirtual 49, 3) := by decide +kernel
theorem dX2_poke_32 : decode cX2_poke 32 = .ok (.iconst 1, 1) := by decide +kernel
theorem dX2_poke_33 : decode cX2_poke 33 = .ok (.ireturn, 1) := by decide +kernel
set_option maxRecDepth 20000 in
theorem ggX2_peek_X0_byteAt : GoodIn wsX2_peek wsX0_byteAt := goodIn_r _ [6, 7, 8, 9, 4, 10, 11, 12, 13, 14, 15, 16, 17, 18, 19, 20, 21, 22, 23, 24, 25, 26, 27, 28, 29, 30, 31, 32, 37, 38, 39, 40, 41, 42, 43, 44] (by decide +kernel) (by decide +kernel)
set_option maxRecDepth 20000 in
theorem gX2_peek_X0_byteAt_n52 : GoodIn wsX2_peek (wsX0_byteAt) := ggX2_peek_X0_byteAt
theorem dX2_peek_0 : decode cX2_peek 0 = .ok (.iload_n 1, 1) := by decide +kernel
theorem dX2_peek_1 : decode cX2_peek 1 = .ok (.ifCond .lt 9, 3) := by decide +kernel
theorem dX2_peek_4 : decode cX2_peek 4 = .ok (.iload_n 1, 1) := by decide +kernel
theorem dX2_peek_5 : decode cX2_peek 5 = .ok (.ldc 48, 2) := by decide +kernel
theorem dX2_peek_7 : decode cX2_peek 7 = .ok (.if_icmp .lt 5, 3) := by decide +kernel
theorem dX2_peek_10 : decode cX2_peek 10 = .ok (.iconst (-1), 1) := by decide +kernel
theorem dX2_peek_11 : decode cX2_peek 11 = .ok (.ireturn, 1) := by decide +kernel
theorem dX2_peek_12 : decode cX2_peek 12 = .ok (.aload_n 0, 1) := by decide +kernel
theorem dX2_peek_13 : decode cX2_peek 13 = .ok (.getfield 12, 3) := by decide +kernel
theorem dX2_peek_16 : decode cX2_peek 16 = .ok (.iload_n 1, 1) := by decide +kernel
theorem dX2_peek_17 : decode cX2_peek 17 = .ok (.invokevirtual 52, 3) := by decide +kernel
theorem dX2_peek_20 : decode cX2_peek 20 = .ok (.ireturn, 1) := by decide +kernel
set_option maxRecDepth 20000 in
theorem ggX2_step_X2_interrupt : GoodIn wsX2_step wsX2_interrupt := goodIn_r _ [8, 1, 2, 3, 9, 10, 11, 12, 7, 13, 14, 15, 16, 17, 18, 19, 20, 21, 22, 23, 24, 25, 26, 27, 28, 29, 30, 31, 32, 33, 34, 35, 36, 37, 38, 39, 40, 41, 42, 43, 44, 45, 46, 47, 48, 49, 50, 51, 52, 53, 54, 55, 56, 57, 58, 59, 60, 61, 62, 63, 64, 65, 66, 67, 68, 69, 70, 71, 72, 73, 74, 75, 76, 77, 78, 79, 80, 81, 82, 83, 84, 85, 86, 87, 88, 89, 90, 91, 92, 197, 198, 199, 200, 201, 202, 203, 204, 205, 206, 207, 208] (by decide +kernel) (by decide +kernel)
set_option maxRecDepth 20000 in
theorem gX2_step_X2_interrupt : GoodIn wsX2_step (wsV RX2 55 RX2 yX2_interrupt wsX2_interrupt) := goodIn_app (goodIn_of _ (by decide +kernel)) ggX2_step_X2_interrupt
set_option maxRecDepth 20000 in
theorem ggX2_step_X0_wordAt : GoodIn wsX2_step wsX0_wordAt := goodIn_r _ [45, 32, 46, 47, 33, 34, 29, 35, 36, 48, 49, 50, 51, 52, 53, 54, 55, 56, 57, 58, 59, 60, 61, 62, 201, 202, 203, 204, 205, 206, 207, 208] (by decide +kernel) (by decide +kernel)
set_option maxRecDepth 20000 in
theorem gX2_step_X0_wordAt_n40 : GoodIn wsX2_step (wsX0_wordAt) := ggX2_step_X0_wordAt
set_option maxRecDepth 20000 in
theorem ggX2_step_X2_isUnassigned : GoodIn wsX2_step wsX2_isUnassigned := goodIn_r _ [95] (by decide +kernel) (by decide +kernel)
set_option maxRecDepth 20000 in
theorem gX2_step_X2_isUnassigned : GoodIn wsX2_step (va_wsS RX2 58 yX2_isUnassigned wsX2_isUnassigned) := goodIn_app (goodIn_of _ (by decide +kernel)) ggX2_step_X2_isUnassigned
set_option maxRecDepth 20000 in
theorem ggX2_step_X2_addToRegister : GoodIn wsX2_step wsX2_addToRegister := goodIn_r _ [21, 1, 22, 23, 24, 7, 25, 26, 27, 197, 198, 199, 200] (by decide +kernel) (by decide +kernel)
set_option maxRecDepth 20000 in
theorem gX2_step_X2_addToRegister : GoodIn wsX2_step (wsV RX2 62 RX2 yX2_addToRegister wsX2_addToRegister) := goodIn_app (goodIn_of _ (by decide +kernel)) ggX2_step_X2_addToRegister
set_option maxRecDepth 20000 in
theorem ggX2_step_X2_doTwoParts : GoodIn wsX2_step wsX2_doTwoParts := goodIn_r _ [99, 100, 101, 102, 7, 103, 104, 27, 105, 1, 106, 107, 108, 109, 3, 43, 29, 44, 45, 32, 46, 47, 33, 34, 35, 36, 48, 49, 50, 51, 52, 53, 54, 55, 56, 57, 58, 59, 60, 61, 62, 18, 19, 20, 21, 22, 23, 24, 25, 26, 110, 111, 112, 113, 114, 115, 116, 42, 117, 118, 119, 120, 121, 122, 123, 124, 125, 126, 127, 128, 129, 130, 131, 132, 133, 134, 135, 136, 137, 138, 139, 140, 141, 142, 143, 144, 145, 146, 147, 28, 30, 31, 37, 38, 39, 40, 41, 63, 64, 65, 66, 67, 68, 69, 70, 71, 72, 73, 74, 75, 76, 77, 78, 79, 80, 81, 82, 83, 84, 85, 86, 148, 149, 150, 151, 152, 153, 154, 155, 156, 157, 158, 159, 160, 161, 87, 88, 89, 90, 91, 92, 197, 198, 199, 200, 201, 202, 203, 204, 205, 206, 207, 208] (by decide +kernel) (by decide +kernel)
set_option maxRecDepth 20000 in
theorem gX2_step_X2_doTwoParts : GoodIn wsX2_step (wsV RX2 65 RX2 yX2_doTwoParts wsX2_doTwoParts) := goodIn_app (goodIn_of _ (by decide +kernel)) ggX2_step_X2_doTwoParts
set_option maxRecDepth 20000 in
theorem ggX2_step_X2_doJump : GoodIn wsX2_step wsX2_doJump := goodIn_r _ [165, 166, 167, 168, 7, 169, 170, 171, 172, 173, 1, 18, 19, 20, 21, 22, 23, 24, 25, 26, 27, 87, 88, 89, 90, 91, 92, 197, 198, 199, 200] (by decide +kernel) (by decide +kernel)
set_option maxRecDepth 20000 in
theorem gX2_step_X2_doJump : GoodIn wsX2_step (wsV RX2 69 RX2 yX2_doJump wsX2_doJump) := goodIn_app (goodIn_of _ (by decide +kernel)) ggX2_step_X2_doJump
set_option maxRecDepth 20000 in
theorem ggX2_step_X2_returnFromInterrupt : GoodIn wsX2_step wsX2_returnFromInterrupt := goodIn_r _ [177, 178, 179, 180, 7, 181, 3, 1, 43, 29, 44, 45, 32, 46, 47, 33, 34, 35, 36, 48, 49, 50, 51, 52, 53, 54, 55, 56, 57, 58, 59, 60, 61, 62, 18, 19, 20, 21, 22, 23, 24, 25, 26, 27, 87, 88, 89, 90, 91, 92, 197, 198, 199, 200, 201, 202, 203, 204, 205, 206, 207, 208] (by decide +kernel) (by decide +kernel)
set_option maxRecDepth 20000 in
theorem gX2_step_X2_returnFromInterrupt : GoodIn wsX2_step (wsV RX2 72 RX2 yX2_returnFromInterrupt wsX2_returnFromInterrupt) := goodIn_app (goodIn_of _ (by decide +kernel)) ggX2_step_X2_returnFromInterrupt
set_option maxRecDepth 20000 in
theorem ggX2_step_X2_doOnePart : GoodIn wsX2_step wsX2_doOnePart := goodIn_r _ [185, 186, 1, 187, 188, 100, 101, 102, 7, 103, 104, 27, 105, 106, 107, 108, 109, 3, 43, 29, 44, 45, 32, 46, 47, 33, 34, 35, 36, 48, 49, 50, 51, 52, 53, 54, 55, 56, 57, 58, 59, 60, 61, 62, 18, 19, 20, 21, 22, 23, 24, 25, 26, 110, 111, 112, 113, 114, 115, 116, 42, 154, 155, 156, 157, 14, 15, 16, 17, 28, 30, 31, 37, 38, 39, 40, 41, 63, 64, 65, 66, 67, 68, 69, 70, 71, 72, 73, 74, 75, 76, 77, 78, 79, 80, 81, 82, 83, 84, 85, 86, 87, 88, 89, 90, 91, 92, 158, 159, 160, 161, 189, 190, 191, 192, 170, 171, 172, 173, 193, 194, 195, 196, 132, 133, 134, 135, 129, 130, 131, 140, 141, 142, 143, 144, 145, 146, 147, 197, 198, 199, 200, 201, 202, 203, 204, 205, 206, 207, 208] (by decide +kernel) (by decide +kernel)
set_option maxRecDepth 20000 in
theorem gX2_step_X2_doOnePart : GoodIn wsX2_step (wsV RX2 75 RX2 yX2_doOnePart wsX2_doOnePart) := goodIn_app (goodIn_of _ (by decide +kernel)) ggX2_step_X2_doOnePart
theorem dX2_step_0 : decode cX2_step 0 = .ok (.aload_n 0, 1) := by decide +kernel
theorem dX2_step_1 : decode cX2_step 1 = .ok (.getfield 16, 3) := by decide +kernel
theorem dX2_step_4 : decode cX2_step 4 = .ok (.iconst 2, 1) := by decide +kernel
theorem dX2_step_5 : decode cX2_step 5 = .ok (.iaload, 1) := by decide +kernel
theorem dX2_step_6 : decode cX2_step 6 = .ok (.istore_n 1, 1) := by decide +kernel
theorem dX2_step_7 : decode cX2_step 7 = .ok (.iload_n 1, 1) := by decide +kernel
theorem dX2_step_8 : decode cX2_step 8 = .ok (.bipush 8, 2) := by decide +kernel
theorem dX2_step_10 : decode cX2_step 10 = .ok (.iand, 1) := by decide +kernel
theorem dX2_step_11 : decode cX2_step 11 = .ok (.ifCond .eq 16, 3) := by decide +kernel
theorem dX2_step_14 : decode cX2_step 14 = .ok (.aload_n 0, 1) := by decide +kernel
theorem dX2_step_15 : decode cX2_step 15 = .ok (.getfield 23, 3) := by decide +kernel
theorem dX2_step_18 : decode cX2_step 18 = .ok (.ifCond .eq 9, 3) := by decide +kernel
theorem dX2_step_21 : decode cX2_step 21 = .ok (.aload_n 0, 1) := by decide +kernel
theorem dX2_step_22 : decode cX2_step 22 = .ok (.invokevirtual 55, 3) := by decide +kernel
theorem dX2_step_25 : decode cX2_step 25 = .ok (.iconst 0, 1) := by decide +kernel
theorem dX2_step_26 : decode cX2_step 26 = .ok (.ireturn, 1) := by decide +kernel
theorem dX2_step_27 : decode cX2_step 27 = .ok (.iload_n 1, 1) := by decide +kernel
theorem dX2_step_28 : decode cX2_step 28 = .ok (.bipush 16, 2) := by decide +kernel
theorem dX2_step_30 : decode cX2_step 30 = .ok (.iand, 1) := by decide +kernel
theorem dX2_step_31 : decode cX2_step 31 = .ok (.ifCond .eq 5, 3) := by decide +kernel
theorem dX2_step_34 : decode cX2_step 34 = .ok (.iconst 1, 1) := by decide +kernel
theorem dX2_step_35 : decode cX2_step 35 = .ok (.ireturn, 1) := by decide +kernel
theorem dX2_step_36 : decode cX2_step 36 = .ok (.aload_n 0, 1) := by decide +kernel
theorem dX2_step_37 : decode cX2_step 37 = .ok (.getfield 12, 3) := by decide +kernel
theorem dX2_step_40 : decode cX2_step 40 = .ok (.aload_n 0, 1) := by decide +kernel
theorem dX2_step_41 : decode cX2_step 41 = .ok (.getfield 16, 3) := by decide +kernel
theorem dX2_step_44 : decode cX2_step 44 = .ok (.iconst 0, 1) := by decide +kernel
theorem dX2_step_45 : decode cX2_step 45 = .ok (.iaload, 1) := by decide +kernel
theorem dX2_step_46 : decode cX2_step 46 = .ok (.invokevirtual 40, 3) := by decide +kernel
theorem dX2_step_49 : decode cX2_step 49 = .ok (.istore_n 2, 1) := by decide +kernel
theorem dX2_step_50 : decode cX2_step 50 = .ok (.iload_n 2, 1) := by decide +kernel
theorem dX2_step_51 : decode cX2_step 51 = .ok (.invokestatic 58, 3) := by decide +kernel
theorem dX2_step_54 : decode cX2_step 54 = .ok (.ifCond .eq 5, 3) := by decide +kernel
theorem dX2_step_57 : decode cX2_step 57 = .ok (.iconst 2, 1) := by decide +kernel
theorem dX2_step_58 : decode cX2_step 58 = .ok (.ireturn, 1) := by decide +kernel
theorem dX2_step_59 : decode cX2_step 59 = .ok (.aload_n 0, 1) := by decide +kernel
theorem dX2_step_60 : decode cX2_step 60 = .ok (.iconst 0, 1) := by decide +kernel
theorem dX2_step_61 : decode cX2_step 61 = .ok (.iconst 2, 1) := by decide +kernel
theorem dX2_step_62 : decode cX2_step 62 = .ok (.invokevirtual 62, 3) := by decide +kernel
theorem dX2_step_65 : decode cX2_step 65 = .ok (.iload_n 2, 1) := by decide +kernel
theorem dX2_step_66 : decode cX2_step 66 = .ok (.sipush 16384, 3) := by decide +kernel
theorem dX2_step_69 : decode cX2_step 69 = .ok (.if_icmp .lt 11, 3) := by decide +kernel
theorem dX2_step_72 : decode cX2_step 72 = .ok (.aload_n 0, 1) := by decide +kernel
theorem dX2_step_73 : decode cX2_step 73 = .ok (.iload_n 2, 1) := by decide +kernel
theorem dX2_step_74 : decode cX2_step 74 = .ok (.invokevirtual 65, 3) := by decide +kernel
theorem dX2_step_77 : decode cX2_step 77 = .ok (.goto 37, 3) := by decide +kernel
theorem dX2_step_80 : decode cX2_step 80 = .ok (.iload_n 2, 1) := by decide +kernel
theorem dX2_step_81 : decode cX2_step 81 = .ok (.sipush 8192, 3) := by decide +kernel
theorem dX2_step_84 : decode cX2_step 84 = .ok (.if_icmp .lt 11, 3) := by decide +kernel
theorem dX2_step_87 : decode cX2_step 87 = .ok (.aload_n 0, 1) := by decide +kernel
theorem dX2_step_88 : decode cX2_step 88 = .ok (.iload_n 2, 1) := by decide +kernel
theorem dX2_step_89 : decode cX2_step 89 = .ok (.invokevirtual 69, 3) := by decide +kernel
theorem dX2_step_92 : decode cX2_step 92 = .ok (.goto 22, 3) := by decide +kernel
theorem dX2_step_95 : decode cX2_step 95 = .ok (.iload_n 2, 1) := by decide +kernel
theorem dX2_step_96 : decode cX2_step 96 = .ok (.sipush 4864, 3) := by decide +kernel
theorem dX2_step_99 : decode cX2_step 99 = .ok (.if_icmp .ne 10, 3) := by decide +kernel
theorem dX2_step_102 : decode cX2_step 102 = .ok (.aload_n 0, 1) := by decide +kernel
theorem dX2_step_103 : decode cX2_step 103 = .ok (.invokevirtual 72, 3) := by decide +kernel
theorem dX2_step_106 : decode cX2_step 106 = .ok (.goto 8, 3) := by decide +kernel
theorem dX2_step_109 : decode cX2_step 109 = .ok (.aload_n 0, 1) := by decide +kernel
theorem dX2_step_110 : decode cX2_step 110 = .ok (.iload_n 2, 1) := by decide +kernel
theorem dX2_step_111 : decode cX2_step 111 = .ok (.invokevirtual 75, 3) := by decide +kernel
theorem dX2_step_114 : decode cX2_step 114 = .ok (.iconst 0, 1) := by decide +kernel
theorem dX2_step_115 : decode cX2_step 115 = .ok (.ireturn, 1) := by decide +kernel
set_option maxRecDepth 20000 in
theorem ggX2_run_X2_step : GoodIn wsX2_run wsX2_step := goodIn_r _ [5, 6, 7, 8, 9, 10, 11, 4, 12, 13, 14, 15, 16, 17, 18, 19, 20, 21, 22, 23, 24, 25, 26, 27, 28, 29, 30, 31, 32, 33, 34, 35, 36, 37, 38, 39, 40, 41, 42, 43, 44, 45, 46, 47, 48, 49, 50, 51, 52, 53, 54, 55, 56, 57, 58, 59, 60, 61, 62, 63, 64, 65, 66, 67, 68, 69, 70, 71, 72, 73, 74, 75, 76, 77, 78, 79, 80, 81, 82, 83, 84, 85, 86, 87, 88, 89, 90, 91, 92, 93, 94, 95, 96, 97, 98, 99, 100, 101, 102, 103, 104, 105, 106, 107, 108, 109, 110, 111, 112, 113, 114, 115, 116, 117, 118, 119, 120, 121, 122, 123, 124, 125, 126, 127, 128, 129, 130, 131, 132, 133, 134, 135, 136, 137, 138, 139, 140, 141, 142, 143, 144, 145, 146, 147, 148, 149, 150, 151, 152, 153, 154, 155, 156, 157, 158, 159, 160, 161, 162, 163, 164, 165, 166, 167, 168, 169, 170, 171, 172, 173, 174, 175, 176, 177, 178, 179, 180, 181, 182, 183, 184, 185, 186, 187, 188, 189, 190, 191, 192, 193, 194, 195, 196, 197, 198, 199, 200, 201, 202, 203, 204, 205, 206, 207, 208, 209, 210, 211, 212] (by decide +kernel) (by decide +kernel)
set_option maxRecDepth 20000 in
theorem gX2_run_X2_step : GoodIn wsX2_run (wsV RX2 78 RX2 yX2_step wsX2_step) := goodIn_app (goodIn_of _ (by decide +kernel)) ggX2_run_X2_step
theorem dX2_run_0 : decode cX2_run 0 = .ok (.iload_n 1, 1) := by decide +kernel
theorem dX2_run_1 : decode cX2_run 1 = .ok (.ifCond .lt 10, 3) := by decide +kernel
theorem dX2_run_4 : decode cX2_run 4 = .ok (.iload_n 1, 1) := by decide +kernel
theorem dX2_run_5 : decode cX2_run 5 = .ok (.sipush 2000, 3) := by decide +kernel
theorem dX2_run_8 : decode cX2_run 8 = .ok (.if_icmp .le 5, 3) := by decide +kernel
theorem dX2_run_11 : decode cX2_run 11 = .ok (.iconst (-1), 1) := by decide +kernel
theorem dX2_run_12 : decode cX2_run 12 = .ok (.ireturn, 1) := by decide +kernel
theorem dX2_run_13 : decode cX2_run 13 = .ok (.iconst 0, 1) := by decide +kernel
theorem dX2_run_14 : decode cX2_run 14 = .ok (.istore_n 2, 1) := by decide +kernel
theorem dX2_run_15 : decode cX2_run 15 = .ok (.iconst 0, 1) := by decide +kernel
theorem dX2_run_16 : decode cX2_run 16 = .ok (.istore_n 3, 1) := by decide +kernel
theorem dX2_run_17 : decode cX2_run 17 = .ok (.iload_n 3, 1) := by decide +kernel
theorem dX2_run_18 : decode cX2_run 18 = .ok (.iload_n 1, 1) := by decide +kernel
theorem dX2_run_19 : decode cX2_run 19 = .ok (.if_icmp .ge 18, 3) := by decide +kernel
theorem dX2_run_22 : decode cX2_run 22 = .ok (.iload_n 2, 1) := by decide +kernel
theorem dX2_run_23 : decode cX2_run 23 = .ok (.ifCond .ne 14, 3) := by decide +kernel
theorem dX2_run_26 : decode cX2_run 26 = .ok (.aload_n 0, 1) := by decide +kernel
theorem dX2_run_27 : decode cX2_run 27 = .ok (.invokevirtual 78, 3) := by decide +kernel
theorem dX2_run_30 : decode cX2_run 30 = .ok (.istore_n 2, 1) := by decide +kernel
theorem dX2_run_31 : decode cX2_run 31 = .ok (.iinc 3 1, 3) := by decide +kernel
theorem dX2_run_34 : decode cX2_run 34 = .ok (.goto (-17), 3) := by decide +kernel
theorem dX2_run_37 : decode cX2_run 37 = .ok (.iload_n 2, 1) := by decide +kernel
theorem dX2_run_38 : decode cX2_run 38 = .ok (.ireturn, 1) := by decide +kernel
theorem dX2_reg_0 : decode cX2_reg 0 = .ok (.iload_n 1, 1) := by decide +kernel
theorem dX2_reg_1 : decode cX2_reg 1 = .ok (.ifCond .lt 9, 3) := by decide +kernel
theorem dX2_reg_4 : decode cX2_reg 4 = .ok (.iload_n 1, 1) := by decide +kernel
theorem dX2_reg_5 : decode cX2_reg 5 = .ok (.bipush 16, 2) := by decide +kernel
theorem dX2_reg_7 : decode cX2_reg 7 = .ok (.if_icmp .lt 5, 3) := by decide +kernel
theorem dX2_reg_10 : decode cX2_reg 10 = .ok (.iconst (-1), 1) := by decide +kernel
theorem dX2_reg_11 : decode cX2_reg 11 = .ok (.ireturn, 1) := by decide +kernel
theorem dX2_reg_12 : decode cX2_reg 12 = .ok (.aload_n 0, 1) := by decide +kernel
theorem dX2_reg_13 : decode cX2_reg 13 = .ok (.getfield 16, 3) := by decide +kernel
theorem dX2_reg_16 : decode cX2_reg 16 = .ok (.iload_n 1, 1) := by decide +kernel
theorem dX2_reg_17 : decode cX2_reg 17 = .ok (.iaload, 1) := by decide +kernel
theorem dX2_reg_18 : decode cX2_reg 18 = .ok (.ireturn, 1) := by decide +kernel
theorem dX2_raise_0 : decode cX2_raise 0 = .ok (.iload_n 1, 1) := by decide +kernel
theorem dX2_raise_1 : decode cX2_raise 1 = .ok (.ifCond .lt 9, 3) := by decide +kernel
theorem dX2_raise_4 : decode cX2_raise 4 = .ok (.iload_n 1, 1) := by decide +kernel
theorem dX2_raise_5 : decode cX2_raise 5 = .ok (.bipush 14, 2) := by decide +kernel
theorem dX2_raise_7 : decode cX2_raise 7 = .ok (.if_icmp .lt 5, 3) := by decide +kernel
theorem dX2_raise_10 : decode cX2_raise 10 = .ok (.iconst 0, 1) := by decide +kernel
theorem dX2_raise_11 : decode cX2_raise 11 = .ok (.ireturn, 1) := by decide +kernel
theorem dX2_raise_12 : decode cX2_raise 12 = .ok (.aload_n 0, 1) := by decide +kernel
theorem dX2_raise_13 : decode cX2_raise 13 = .ok (.dup, 1) := by decide +kernel
theorem dX2_raise_14 : decode cX2_raise 14 = .ok (.getfield 23, 3) := by decide +kernel
theorem dX2_raise_17 : decode cX2_raise 17 = .ok (.iconst 1, 1) := by decide +kernel
theorem dX2_raise_18 : decode cX2_raise 18 = .ok (.iload_n 1, 1) := by decide +kernel
theorem dX2_raise_19 : decode cX2_raise 19 = .ok (.ishl, 1) := by decide +kernel
theorem dX2_raise_20 : decode cX2_raise 20 = .ok (.ior, 1) := by decide +kernel
theorem dX2_raise_21 : decode cX2_raise 21 = .ok (.putfield 23, 3) := by decide +kernel
theorem dX2_raise_24 : decode cX2_raise 24 = .ok (.iconst 1, 1) := by decide +kernel
theorem dX2_raise_25 : decode cX2_raise 25 = .ok (.ireturn, 1) := by decide +kernel
theorem dX2_cyclesOf_0 : decode cX2_cyclesOf 0 = .ok (.aload_n 0, 1) := by decide +kernel
theorem dX2_cyclesOf_1 : decode cX2_cyclesOf 1 = .ok (.getfield 27, 3) := by decide +kernel
theorem dX2_cyclesOf_4 : decode cX2_cyclesOf 4 = .ok (.ireturn, 1) := by decide +kernel
theorem dX2_pending_0 : decode cX2_pending 0 = .ok (.aload_n 0, 1) := by decide +kernel
theorem dX2_pending_1 : decode cX2_pending 1 = .ok (.getfield 23, 3) := by decide +kernel
theorem dX2_pending_4 : decode cX2_pending 4 = .ok (.ireturn, 1) := by decide +kernel
theorem dX2_mode_0 : decode cX2_mode 0 = .ok (.aload_n 0, 1) := by decide +kernel
theorem dX2_mode_1 : decode cX2_mode 1 = .ok (.getfield 12, 3) := by decide +kernel
theorem dX2_mode_4 : decode cX2_mode 4 = .ok (.getfield 30, 3) := by decide +kernel
theorem dX2_mode_7 : decode cX2_mode 7 = .ok (.getfield 82, 3) := by decide +kernel
theorem dX2_mode_10 : decode cX2_mode 10 = .ok (.ireturn, 1) := by decide +kernel
set_option maxRecDepth 20000 in
theorem ggX2_interrupt_X2_highestPendingLine : GoodIn wsX2_interrupt wsX2_highestPendingLine := goodIn_r _ [9, 2, 89, 90, 91, 92] (by decide +kernel) (by decide +kernel)
set_option maxRecDepth 20000 in
theorem gX2_interrupt_X2_highestPendingLine : GoodIn wsX2_interrupt (wsV RX2 85 RX2 yX2_highestPendingLine wsX2_highestPendingLine) := goodIn_app (goodIn_of _ (by decide +kernel)) ggX2_interrupt_X2_highestPendingLine
set_option maxRecDepth 20000 in
theorem ggX2_interrupt_X2_push : GoodIn wsX2_interrupt wsX2_push := goodIn_r _ [13, 3, 1, 14, 15, 16, 8, 17, 18, 19, 20, 21, 22, 23, 24, 25, 26, 27, 28, 29, 30, 31, 32, 33, 34, 35, 36, 37, 38, 39, 40, 41, 42, 43, 44, 45, 46, 47, 48, 49, 50, 51, 52, 53, 54, 55, 56, 57, 58, 59, 60, 61, 62, 63, 64, 65, 66, 67, 68, 69, 70, 71, 72, 73, 74, 75, 76, 77, 78, 79, 80, 81, 82, 89, 90, 91, 92, 93, 94, 95, 96, 97, 98, 99, 100] (by decide +kernel) (by decide +kernel)
set_option maxRecDepth 20000 in
theorem gX2_interrupt_X2_push : GoodIn wsX2_interrupt (wsV RX2 88 RX2 yX2_push wsX2_push) := goodIn_app (goodIn_of _ (by decide +kernel)) ggX2_interrupt_X2_push
set_option maxRecDepth 20000 in
theorem ggX2_interrupt_X2_setRegister : GoodIn wsX2_interrupt wsX2_setRegister := goodIn_r _ [21, 1, 22, 23, 89, 90, 91, 92] (by decide +kernel) (by decide +kernel)
set_option maxRecDepth 20000 in
theorem gX2_interrupt_X2_setRegister : GoodIn wsX2_interrupt (wsV RX2 44 RX2 yX2_setRegister wsX2_setRegister) := goodIn_app (goodIn_of _ (by decide +kernel)) ggX2_interrupt_X2_setRegister
set_option maxRecDepth 20000 in
theorem ggX2_interrupt_X0_wordAt : GoodIn wsX2_interrupt wsX0_wordAt := goodIn_r _ [41, 28, 42, 43, 29, 30, 25, 31, 32, 44, 45, 46, 47, 48, 49, 50, 51, 52, 53, 54, 55, 56, 57, 58, 93, 94, 95, 96, 97, 98, 99, 100] (by decide +kernel) (by decide +kernel)
set_option maxRecDepth 20000 in
theorem gX2_interrupt_X0_wordAt_n40 : GoodIn wsX2_interrupt (wsX0_wordAt) := ggX2_interrupt_X0_wordAt
set_option maxRecDepth 20000 in
theorem ggX2_interrupt_X2_spend : GoodIn wsX2_interrupt wsX2_spend := goodIn_r _ [86, 87, 88, 89, 90, 91, 92] (by decide +kernel) (by decide +kernel)
set_option maxRecDepth 20000 in
theorem gX2_interrupt_X2_spend : GoodIn wsX2_interrupt (wsV RX2 93 RX2 yX2_spend wsX2_spend) := goodIn_app (goodIn_of _ (by decide +kernel)) ggX2_interrupt_X2_spend
theorem dX2_interrupt_0 : decode cX2_interrupt 0 = .ok (.aload_n 0, 1) := by decide +kernel
theorem dX2_interrupt_1 : decode cX2_interrupt 1 = .ok (.invokevirtual 85, 3) := by decide +kernel
theorem dX2_interrupt_4 : decode cX2_interrupt 4 = .ok (.istore_n 1, 1) := by decide +kernel
theorem dX2_interrupt_5 : decode cX2_interrupt 5 = .ok (.aload_n 0, 1) := by decide +kernel
theorem dX2_interrupt_6 : decode cX2_interrupt 6 = .ok (.aload_n 0, 1) := by decide +kernel
theorem dX2_interrupt_7 : decode cX2_interrupt 7 = .ok (.getfield 16, 3) := by decide +kernel
theorem dX2_interrupt_10 : decode cX2_interrupt 10 = .ok (.iconst 0, 1) := by decide +kernel
theorem dX2_interrupt_11 : decode cX2_interrupt 11 = .ok (.iaload, 1) := by decide +kernel
theorem dX2_interrupt_12 : decode cX2_interrupt 12 = .ok (.iconst 0, 1) := by decide +kernel
theorem dX2_interrupt_13 : decode cX2_interrupt 13 = .ok (.invokevirtual 88, 3) := by decide +kernel
theorem dX2_interrupt_16 : decode cX2_interrupt 16 = .ok (.aload_n 0, 1) := by decide +kernel
theorem dX2_interrupt_17 : decode cX2_interrupt 17 = .ok (.aload_n 0, 1) := by decide +kernel
theorem dX2_interrupt_18 : decode cX2_interrupt 18 = .ok (.getfield 16, 3) := by decide +kernel
theorem dX2_interrupt_21 : decode cX2_interrupt 21 = .ok (.iconst 2, 1) := by decide +kernel
theorem dX2_interrupt_22 : decode cX2_interrupt 22 = .ok (.iaload, 1) := by decide +kernel
theorem dX2_interrupt_23 : decode cX2_interrupt 23 = .ok (.iconst 0, 1) := by decide +kernel
theorem dX2_interrupt_24 : decode cX2_interrupt 24 = .ok (.invokevirtual 88, 3) := by decide +kernel
theorem dX2_interrupt_27 : decode cX2_interrupt 27 = .ok (.aload_n 0, 1) := by decide +kernel
theorem dX2_interrupt_28 : decode cX2_interrupt 28 = .ok (.dup, 1) := by decide +kernel
theorem dX2_interrupt_29 : decode cX2_interrupt 29 = .ok (.getfield 23, 3) := by decide +kernel
theorem dX2_interrupt_32 : decode cX2_interrupt 32 = .ok (.iconst 1, 1) := by decide +kernel
theorem dX2_interrupt_33 : decode cX2_interrupt 33 = .ok (.iload_n 1, 1) := by decide +kernel
theorem dX2_interrupt_34 : decode cX2_interrupt 34 = .ok (.ishl, 1) := by decide +kernel
theorem dX2_interrupt_35 : decode cX2_interrupt 35 = .ok (.iconst (-1), 1) := by decide +kernel
theorem dX2_interrupt_36 : decode cX2_interrupt 36 = .ok (.ixor, 1) := by decide +kernel
theorem dX2_interrupt_37 : decode cX2_interrupt 37 = .ok (.iand, 1) := by decide +kernel
theorem dX2_interrupt_38 : decode cX2_interrupt 38 = .ok (.putfield 23, 3) := by decide +kernel
theorem dX2_interrupt_41 : decode cX2_interrupt 41 = .ok (.aload_n 0, 1) := by decide +kernel
theorem dX2_interrupt_42 : decode cX2_interrupt 42 = .ok (.iconst 2, 1) := by decide +kernel
theorem dX2_interrupt_43 : decode cX2_interrupt 43 = .ok (.aload_n 0, 1) := by decide +kernel
theorem dX2_interrupt_44 : decode cX2_interrupt 44 = .ok (.getfield 16, 3) := by decide +kernel
theorem dX2_interrupt_47 : decode cX2_interrupt 47 = .ok (.iconst 2, 1) := by decide +kernel
theorem dX2_interrupt_48 : decode cX2_interrupt 48 = .ok (.iaload, 1) := by decide +kernel
theorem dX2_interrupt_49 : decode cX2_interrupt 49 = .ok (.bipush 64, 2) := by decide +kernel
theorem dX2_interrupt_51 : decode cX2_interrupt 51 = .ok (.iand, 1) := by decide +kernel
theorem dX2_interrupt_52 : decode cX2_interrupt 52 = .ok (.invokevirtual 44, 3) := by decide +kernel
theorem dX2_interrupt_55 : decode cX2_interrupt 55 = .ok (.aload_n 0, 1) := by decide +kernel
theorem dX2_interrupt_56 : decode cX2_interrupt 56 = .ok (.iconst 0, 1) := by decide +kernel
theorem dX2_interrupt_57 : decode cX2_interrupt 57 = .ok (.aload_n 0, 1) := by decide +kernel
theorem dX2_interrupt_58 : decode cX2_interrupt 58 = .ok (.getfield 12, 3) := by decide +kernel
theorem dX2_interrupt_61 : decode cX2_interrupt 61 = .ok (.ldc 92, 2) := by decide +kernel
theorem dX2_interrupt_63 : decode cX2_interrupt 63 = .ok (.iconst 2, 1) := by decide +kernel
theorem dX2_interrupt_64 : decode cX2_interrupt 64 = .ok (.iload_n 1, 1) := by decide +kernel
theorem dX2_interrupt_65 : decode cX2_interrupt 65 = .ok (.imul, 1) := by decide +kernel
theorem dX2_interrupt_66 : decode cX2_interrupt 66 = .ok (.iadd, 1) := by decide +kernel
theorem dX2_interrupt_67 : decode cX2_interrupt 67 = .ok (.invokevirtual 40, 3) := by decide +kernel
theorem dX2_interrupt_70 : decode cX2_interrupt 70 = .ok (.invokevirtual 44, 3) := by decide +kernel
theorem dX2_interrupt_73 : decode cX2_interrupt 73 = .ok (.aload_n 0, 1) := by decide +kernel
theorem dX2_interrupt_74 : decode cX2_interrupt 74 = .ok (.bipush 6, 2) := by decide +kernel
theorem dX2_interrupt_76 : decode cX2_interrupt 76 = .ok (.invokevirtual 93, 3) := by decide +kernel
theorem dX2_interrupt_79 : decode cX2_interrupt 79 = .ok (.return_, 1) := by decide +kernel
theorem dX2_highestPendingLine_0 : decode cX2_highestPendingLine 0 = .ok (.bipush 13, 2) := by decide +kernel
theorem dX2_highestPendingLine_2 : decode cX2_highestPendingLine 2 = .ok (.istore_n 1, 1) := by decide +kernel
theorem dX2_highestPendingLine_3 : decode cX2_highestPendingLine 3 = .ok (.iload_n 1, 1) := by decide +kernel
theorem dX2_highestPendingLine_4 : decode cX2_highestPendingLine 4 = .ok (.ifCond .le 20, 3) := by decide +kernel
theorem dX2_highestPendingLine_7 : decode cX2_highestPendingLine 7 = .ok (.aload_n 0, 1) := by decide +kernel
theorem dX2_highestPendingLine_8 : decode cX2_highestPendingLine 8 = .ok (.getfield 23, 3) := by decide +kernel
theorem dX2_highestPendingLine_11 : decode cX2_highestPendingLine 11 = .ok (.iconst 1, 1) := by decide +kernel
theorem dX2_highestPendingLine_12 : decode cX2_highestPendingLine 12 = .ok (.iload_n 1, 1) := by decide +kernel
theorem dX2_highestPendingLine_13 : decode cX2_highestPendingLine 13 = .ok (.ishl, 1) := by decide +kernel
theorem dX2_highestPendingLine_14 : decode cX2_highestPendingLine 14 = .ok (.iand, 1) := by decide +kernel
theorem dX2_highestPendingLine_15 : decode cX2_highestPendingLine 15 = .ok (.ifCond .ne 9, 3) := by decide +kernel
theorem dX2_highestPendingLine_18 : decode cX2_highestPendingLine 18 = .ok (.iinc 1 (-1), 3) := by decide +kernel
theorem dX2_highestPendingLine_21 : decode cX2_highestPendingLine 21 = .ok (.goto (-18), 3) := by decide +kernel
theorem dX2_highestPendingLine_24 : decode cX2_highestPendingLine 24 = .ok (.iload_n 1, 1) := by decide +kernel
theorem dX2_highestPendingLine_25 : decode cX2_highestPendingLine 25 = .ok (.ireturn, 1) := by decide +kernel
theorem dX2_isUnassigned_0 : decode cX2_isUnassigned 0 = .ok (.iload_n 0, 1) := by decide +kernel
theorem dX2_isUnassigned_1 : decode cX2_isUnassigned 1 = .ok (.sipush 8192, 3) := by decide +kernel
theorem dX2_isUnassigned_4 : decode cX2_isUnassigned 4 = .ok (.if_icmp .lt 5, 3) := by decide +kernel
theorem dX2_isUnassigned_7 : decode cX2_isUnassigned 7 = .ok (.iconst 0, 1) := by decide +kernel
theorem dX2_isUnassigned_8 : decode cX2_isUnassigned 8 = .ok (.ireturn, 1) := by decide +kernel
theorem dX2_isUnassigned_9 : decode cX2_isUnassigned 9 = .ok (.iload_n 0, 1) := by decide +kernel
theorem dX2_isUnassigned_10 : decode cX2_isUnassigned 10 = .ok (.sipush 4096, 3) := by decide +kernel
theorem dX2_isUnassigned_13 : decode cX2_isUnassigned 13 = .ok (.if_icmp .lt 10, 3) := by decide +kernel
theorem dX2_isUnassigned_16 : decode cX2_isUnassigned 16 = .ok (.iload_n 0, 1) := by decide +kernel
theorem dX2_isUnassigned_17 : decode cX2_isUnassigned 17 = .ok (.sipush 4864, 3) := by decide +kernel
theorem dX2_isUnassigned_20 : decode cX2_isUnassigned 20 = .ok (.if_icmp .le 5, 3) := by decide +kernel
theorem dX2_isUnassigned_23 : decode cX2_isUnassigned 23 = .ok (.iconst 1, 1) := by decide +kernel
theorem dX2_isUnassigned_24 : decode cX2_isUnassigned 24 = .ok (.ireturn, 1) := by decide +kernel
theorem dX2_isUnassigned_25 : decode cX2_isUnassigned 25 = .ok (.iload_n 0, 1) := by decide +kernel
theorem dX2_isUnassigned_26 : decode cX2_isUnassigned 26 = .ok (.bipush 7, 2) := by decide +kernel
theorem dX2_isUnassigned_28 : decode cX2_isUnassigned 28 = .ok (.ishr, 1) := by decide +kernel
theorem dX2_isUnassigned_29 : decode cX2_isUnassigned 29 = .ok (.bipush 7, 2) := by decide +kernel
theorem dX2_isUnassigned_31 : decode cX2_isUnassigned 31 = .ok (.iand, 1) := by decide +kernel
theorem dX2_isUnassigned_32 : decode cX2_isUnassigned 32 = .ok (.istore_n 1, 1) := by decide +kernel
theorem dX2_isUnassigned_33 : decode cX2_isUnassigned 33 = .ok (.iload_n 1, 1) := by decide +kernel
theorem dX2_isUnassigned_34 : decode cX2_isUnassigned 34 = .ok (.iconst 1, 1) := by decide +kernel
theorem dX2_isUnassigned_35 : decode cX2_isUnassigned 35 = .ok (.if_icmp .eq 13, 3) := by decide +kernel
theorem dX2_isUnassigned_38 : decode cX2_isUnassigned 38 = .ok (.iload_n 1, 1) := by decide +kernel
theorem dX2_isUnassigned_39 : decode cX2_isUnassigned 39 = .ok (.iconst 3, 1) := by decide +kernel
theorem dX2_isUnassigned_40 : decode cX2_isUnassigned 40 = .ok (.if_icmp .eq 8, 3) := by decide +kernel
theorem dX2_isUnassigned_43 : decode cX2_isUnassigned 43 = .ok (.iload_n 1, 1) := by decide +kernel
theorem dX2_isUnassigned_44 : decode cX2_isUnassigned 44 = .ok (.iconst 5, 1) := by decide +kernel
theorem dX2_isUnassigned_45 : decode cX2_isUnassigned 45 = .ok (.if_icmp .ne 7, 3) := by decide +kernel
theorem dX2_isUnassigned_48 : decode cX2_isUnassigned 48 = .ok (.iconst 1, 1) := by decide +kernel
theorem dX2_isUnassigned_49 : decode cX2_isUnassigned 49 = .ok (.goto 4, 3) := by decide +kernel
theorem dX2_isUnassigned_52 : decode cX2_isUnassigned 52 = .ok (.iconst 0, 1) := by decide +kernel
theorem dX2_isUnassigned_53 : decode cX2_isUnassigned 53 = .ok (.istore_n 2, 1) := by decide +kernel
theorem dX2_isUnassigned_54 : decode cX2_isUnassigned 54 = .ok (.iload_n 2, 1) := by decide +kernel
theorem dX2_isUnassigned_55 : decode cX2_isUnassigned 55 = .ok (.ifCond .eq 14, 3) := by decide +kernel
theorem dX2_isUnassigned_58 : decode cX2_isUnassigned 58 = .ok (.iload_n 0, 1) := by decide +kernel
theorem dX2_isUnassigned_59 : decode cX2_isUnassigned 59 = .ok (.bipush 64, 2) := by decide +kernel
theorem dX2_isUnassigned_61 : decode cX2_isUnassigned 61 = .ok (.iand, 1) := by decide +kernel
theorem dX2_isUnassigned_62 : decode cX2_isUnassigned 62 = .ok (.ifCond .eq 7, 3) := by decide +kernel
theorem dX2_isUnassigned_65 : decode cX2_isUnassigned 65 = .ok (.iconst 1, 1) := by decide +kernel
theorem dX2_isUnassigned_66 : decode cX2_isUnassigned 66 = .ok (.goto 4, 3) := by decide +kernel
theorem dX2_isUnassigned_69 : decode cX2_isUnassigned 69 = .ok (.iconst 0, 1) := by decide +kernel
theorem dX2_isUnassigned_70 : decode cX2_isUnassigned 70 = .ok (.ireturn, 1) := by decide +kernel
set_option maxRecDepth 20000 in
theorem ggX2_doTwoParts_X2_sourcePlace : GoodIn wsX2_doTwoParts wsX2_sourcePlace := goodIn_r _ [5, 6, 7, 8, 9, 10, 11, 12, 4, 13, 14, 15, 16, 17, 18, 19, 20, 21, 22, 23, 24, 25, 26, 27, 28, 29, 30, 31, 32, 33, 34, 35, 36, 37, 38, 39, 40, 41, 42, 43, 44, 45, 46, 47, 48, 49, 141, 142, 143, 144, 145, 146, 147, 148, 149, 150, 151, 152] (by decide +kernel) (by decide +kernel)
set_option maxRecDepth 20000 in
theorem gX2_doTwoParts_X2_sourcePlace : GoodIn wsX2_doTwoParts (wsV RX2 96 RX2 yX2_sourcePlace wsX2_sourcePlace) := goodIn_app (goodIn_of _ (by decide +kernel)) ggX2_doTwoParts_X2_sourcePlace
set_option maxRecDepth 20000 in
theorem ggX2_doTwoParts_X2_valueAt : GoodIn wsX2_doTwoParts wsX2_valueAt := goodIn_r _ [53, 8, 14, 6, 9, 54, 16, 55, 56, 57, 15, 17, 18, 19, 20, 21, 22, 23, 24, 25, 26, 27, 28, 29, 30, 31, 32, 33, 34, 35, 36, 37, 38, 39, 40, 141, 142, 143, 144, 145, 146, 147, 148, 149, 150, 151, 152] (by decide +kernel) (by decide +kernel)
set_option maxRecDepth 20000 in
theorem gX2_doTwoParts_X2_valueAt : GoodIn wsX2_doTwoParts (wsV RX2 100 RX2 yX2_valueAt wsX2_valueAt) := goodIn_app (goodIn_of _ (by decide +kernel)) ggX2_doTwoParts_X2_valueAt
set_option maxRecDepth 20000 in
theorem ggX2_doTwoParts_X2_destinationPlace : GoodIn wsX2_doTwoParts wsX2_destinationPlace := goodIn_r _ [61, 8, 10, 11, 12, 4, 13, 9, 14, 7, 15, 16, 17, 18, 19, 20, 21, 22, 23, 24, 25, 26, 27, 28, 29, 30, 31, 32, 33, 34, 35, 36, 37, 38, 39, 40, 41, 42, 43, 44, 45, 46, 47, 48, 49, 141, 142, 143, 144, 145, 146, 147, 148, 149, 150, 151, 152] (by decide +kernel) (by decide +kernel)
set_option maxRecDepth 20000 in
theorem gX2_doTwoParts_X2_destinationPlace : GoodIn wsX2_doTwoParts (wsV RX2 104 RX2 yX2_destinationPlace wsX2_destinationPlace) := goodIn_app (goodIn_of _ (by decide +kernel)) ggX2_doTwoParts_X2_destinationPlace
set_option maxRecDepth 20000 in
theorem ggX2_doTwoParts_X2_combine : GoodIn wsX2_doTwoParts wsX2_combine := goodIn_r _ [65, 7, 9, 66, 67, 68, 4, 69, 70, 71, 72, 73, 74, 75, 76, 45, 46, 47, 48, 49, 77, 78, 79, 80, 81, 82, 83, 84, 141, 142, 143, 144] (by decide +kernel) (by decide +kernel)
set_option maxRecDepth 20000 in
theorem gX2_doTwoParts_X2_combine : GoodIn wsX2_doTwoParts (wsV RX2 107 RX2 yX2_combine wsX2_combine) := goodIn_app (goodIn_of _ (by decide +kernel)) ggX2_doTwoParts_X2_combine
set_option maxRecDepth 20000 in
theorem ggX2_doTwoParts_X2_put : GoodIn wsX2_doTwoParts wsX2_put := goodIn_r _ [88, 6, 8, 14, 45, 46, 47, 4, 48, 9, 49, 7, 89, 16, 90, 91, 19, 22, 23, 24, 25, 92, 93, 94, 95, 96, 57, 15, 17, 18, 20, 21, 26, 27, 28, 29, 30, 31, 32, 33, 34, 35, 36, 37, 38, 39, 40, 97, 98, 99, 100, 101, 102, 103, 104, 105, 106, 107, 108, 109, 110, 111, 112, 113, 114, 115, 116, 117, 118, 119, 120, 141, 142, 143, 144, 145, 146, 147, 148, 149, 150, 151, 152] (by decide +kernel) (by decide +kernel)
set_option maxRecDepth 20000 in
theorem gX2_doTwoParts_X2_put : GoodIn wsX2_doTwoParts (wsV RX2 111 RX2 yX2_put wsX2_put) := goodIn_app (goodIn_of _ (by decide +kernel)) ggX2_doTwoParts_X2_put
set_option maxRecDepth 20000 in
theorem ggX2_doTwoParts_X2_twoPartsCycles : GoodIn wsX2_doTwoParts wsX2_twoPartsCycles := goodIn_r _ [123, 8, 124, 125, 126] (by decide +kernel) (by decide +kernel)
set_option maxRecDepth 20000 in
theorem gX2_doTwoParts_X2_twoPartsCycles : GoodIn wsX2_doTwoParts (va_wsS RX2 115 yX2_twoPartsCycles wsX2_twoPartsCycles) := goodIn_app (goodIn_of _ (by decide +kernel)) ggX2_doTwoParts_X2_twoPartsCycles
set_option maxRecDepth 20000 in
theorem ggX2_doTwoParts_X2_kindOfSource : GoodIn wsX2_doTwoParts wsX2_kindOfSource := goodIn_r _ [129, 8, 130] (by decide +kernel) (by decide +kernel)
set_option maxRecDepth 20000 in
theorem gX2_doTwoParts_X2_kindOfSource : GoodIn wsX2_doTwoParts (va_wsS RX2 119 yX2_kindOfSource wsX2_kindOfSource) := goodIn_app (goodIn_of _ (by decide +kernel)) ggX2_doTwoParts_X2_kindOfSource
set_option maxRecDepth 20000 in
theorem ggX2_doTwoParts_X2_spendByKind : GoodIn wsX2_doTwoParts wsX2_spendByKind := goodIn_r _ [134, 135, 136, 137, 4, 138, 139, 140, 141, 142, 143, 144] (by decide +kernel) (by decide +kernel)
set_option maxRecDepth 20000 in
theorem gX2_doTwoParts_X2_spendByKind : GoodIn wsX2_doTwoParts (wsV RX2 122 RX2 yX2_spendByKind wsX2_spendByKind) := goodIn_app (goodIn_of _ (by decide +kernel)) ggX2_doTwoParts_X2_spendByKind
theorem dX2_doTwoParts_0 : decode cX2_doTwoParts 0 = .ok (.iload_n 1, 1) := by decide +kernel
theorem dX2_doTwoParts_1 : decode cX2_doTwoParts 1 = .ok (.bipush 64, 2) := by decide +kernel
theorem dX2_doTwoParts_3 : decode cX2_doTwoParts 3 = .ok (.iand, 1) := by decide +kernel
theorem dX2_doTwoParts_4 : decode cX2_doTwoParts 4 = .ok (.ifCond .eq 7, 3) := by decide +kernel
theorem dX2_doTwoParts_7 : decode cX2_doTwoParts 7 = .ok (.iconst 1, 1) := by decide +kernel
theorem dX2_doTwoParts_8 : decode cX2_doTwoParts 8 = .ok (.goto 4, 3) := by decide +kernel
theorem dX2_doTwoParts_11 : decode cX2_doTwoParts 11 = .ok (.iconst 0, 1) := by decide +kernel
theorem dX2_doTwoParts_12 : decode cX2_doTwoParts 12 = .ok (.istore_n 2, 1) := by decide +kernel
theorem dX2_doTwoParts_13 : decode cX2_doTwoParts 13 = .ok (.aload_n 0, 1) := by decide +kernel
theorem dX2_doTwoParts_14 : decode cX2_doTwoParts 14 = .ok (.iload_n 1, 1) := by decide +kernel
theorem dX2_doTwoParts_15 : decode cX2_doTwoParts 15 = .ok (.iload_n 1, 1) := by decide +kernel
theorem dX2_doTwoParts_16 : decode cX2_doTwoParts 16 = .ok (.bipush 8, 2) := by decide +kernel
theorem dX2_doTwoParts_18 : decode cX2_doTwoParts 18 = .ok (.ishr, 1) := by decide +kernel
theorem dX2_doTwoParts_19 : decode cX2_doTwoParts 19 = .ok (.bipush 15, 2) := by decide +kernel
theorem dX2_doTwoParts_21 : decode cX2_doTwoParts 21 = .ok (.iand, 1) := by decide +kernel
theorem dX2_doTwoParts_22 : decode cX2_doTwoParts 22 = .ok (.invokevirtual 96, 3) := by decide +kernel
theorem dX2_doTwoParts_25 : decode cX2_doTwoParts 25 = .ok (.istore_n 3, 1) := by decide +kernel
theorem dX2_doTwoParts_26 : decode cX2_doTwoParts 26 = .ok (.aload_n 0, 1) := by decide +kernel
theorem dX2_doTwoParts_27 : decode cX2_doTwoParts 27 = .ok (.iload_n 3, 1) := by decide +kernel
theorem dX2_doTwoParts_28 : decode cX2_doTwoParts 28 = .ok (.iload_n 2, 1) := by decide +kernel
theorem dX2_doTwoParts_29 : decode cX2_doTwoParts 29 = .ok (.invokevirtual 100, 3) := by decide +kernel
theorem dX2_doTwoParts_32 : decode cX2_doTwoParts 32 = .ok (.istore 4, 2) := by decide +kernel
theorem dX2_doTwoParts_34 : decode cX2_doTwoParts 34 = .ok (.aload_n 0, 1) := by decide +kernel
theorem dX2_doTwoParts_35 : decode cX2_doTwoParts 35 = .ok (.iload_n 1, 1) := by decide +kernel
theorem dX2_doTwoParts_36 : decode cX2_doTwoParts 36 = .ok (.invokevirtual 104, 3) := by decide +kernel
theorem dX2_doTwoParts_39 : decode cX2_doTwoParts 39 = .ok (.istore 5, 2) := by decide +kernel
theorem dX2_doTwoParts_41 : decode cX2_doTwoParts 41 = .ok (.aload_n 0, 1) := by decide +kernel
theorem dX2_doTwoParts_42 : decode cX2_doTwoParts 42 = .ok (.iload 5, 2) := by decide +kernel
theorem dX2_doTwoParts_44 : decode cX2_doTwoParts 44 = .ok (.iload_n 2, 1) := by decide +kernel
theorem dX2_doTwoParts_45 : decode cX2_doTwoParts 45 = .ok (.invokevirtual 100, 3) := by decide +kernel
theorem dX2_doTwoParts_48 : decode cX2_doTwoParts 48 = .ok (.istore 6, 2) := by decide +kernel
theorem dX2_doTwoParts_50 : decode cX2_doTwoParts 50 = .ok (.iload_n 1, 1) := by decide +kernel
theorem dX2_doTwoParts_51 : decode cX2_doTwoParts 51 = .ok (.bipush 12, 2) := by decide +kernel
theorem dX2_doTwoParts_53 : decode cX2_doTwoParts 53 = .ok (.ishr, 1) := by decide +kernel
theorem dX2_doTwoParts_54 : decode cX2_doTwoParts 54 = .ok (.istore 7, 2) := by decide +kernel
theorem dX2_doTwoParts_56 : decode cX2_doTwoParts 56 = .ok (.aload_n 0, 1) := by decide +kernel
theorem dX2_doTwoParts_57 : decode cX2_doTwoParts 57 = .ok (.iload 7, 2) := by decide +kernel
theorem dX2_doTwoParts_59 : decode cX2_doTwoParts 59 = .ok (.iload 4, 2) := by decide +kernel
theorem dX2_doTwoParts_61 : decode cX2_doTwoParts 61 = .ok (.iload 6, 2) := by decide +kernel
theorem dX2_doTwoParts_63 : decode cX2_doTwoParts 63 = .ok (.iload_n 2, 1) := by decide +kernel
theorem dX2_doTwoParts_64 : decode cX2_doTwoParts 64 = .ok (.invokevirtual 107, 3) := by decide +kernel
theorem dX2_doTwoParts_67 : decode cX2_doTwoParts 67 = .ok (.istore 8, 2) := by decide +kernel
theorem dX2_doTwoParts_69 : decode cX2_doTwoParts 69 = .ok (.iload 7, 2) := by decide +kernel
theorem dX2_doTwoParts_71 : decode cX2_doTwoParts 71 = .ok (.bipush 9, 2) := by decide +kernel
theorem dX2_doTwoParts_73 : decode cX2_doTwoParts 73 = .ok (.if_icmp .eq 19, 3) := by decide +kernel
theorem dX2_doTwoParts_76 : decode cX2_doTwoParts 76 = .ok (.iload 7, 2) := by decide +kernel
theorem dX2_doTwoParts_78 : decode cX2_doTwoParts 78 = .ok (.bipush 11, 2) := by decide +kernel
theorem dX2_doTwoParts_80 : decode cX2_doTwoParts 80 = .ok (.if_icmp .eq 12, 3) := by decide +kernel
theorem dX2_doTwoParts_83 : decode cX2_doTwoParts 83 = .ok (.aload_n 0, 1) := by decide +kernel
theorem dX2_doTwoParts_84 : decode cX2_doTwoParts 84 = .ok (.iload 5, 2) := by decide +kernel
theorem dX2_doTwoParts_86 : decode cX2_doTwoParts 86 = .ok (.iload 8, 2) := by decide +kernel
theorem dX2_doTwoParts_88 : decode cX2_doTwoParts 88 = .ok (.iload_n 2, 1) := by decide +kernel
theorem dX2_doTwoParts_89 : decode cX2_doTwoParts 89 = .ok (.invokevirtual 111, 3) := by decide +kernel
theorem dX2_doTwoParts_92 : decode cX2_doTwoParts 92 = .ok (.aload_n 0, 1) := by decide +kernel
theorem dX2_doTwoParts_93 : decode cX2_doTwoParts 93 = .ok (.iload 5, 2) := by decide +kernel
theorem dX2_doTwoParts_95 : decode cX2_doTwoParts 95 = .ok (.invokestatic 115, 3) := by decide +kernel
theorem dX2_doTwoParts_98 : decode cX2_doTwoParts 98 = .ok (.iload_n 3, 1) := by decide +kernel
theorem dX2_doTwoParts_99 : decode cX2_doTwoParts 99 = .ok (.iload_n 1, 1) := by decide +kernel
theorem dX2_doTwoParts_100 : decode cX2_doTwoParts 100 = .ok (.invokestatic 119, 3) := by decide +kernel
theorem dX2_doTwoParts_103 : decode cX2_doTwoParts 103 = .ok (.invokevirtual 122, 3) := by decide +kernel
theorem dX2_doTwoParts_106 : decode cX2_doTwoParts 106 = .ok (.return_, 1) := by decide +kernel
set_option maxRecDepth 20000 in
theorem ggX2_doOnePart_X2_sourcePlace : GoodIn wsX2_doOnePart wsX2_sourcePlace := goodIn_r _ [9, 10, 11, 12, 2, 13, 14, 15, 8, 16, 17, 18, 19, 20, 21, 22, 23, 24, 25, 26, 27, 28, 29, 30, 31, 32, 33, 34, 35, 36, 37, 38, 39, 40, 41, 42, 43, 44, 45, 46, 47, 48, 49, 50, 51, 52, 138, 139, 140, 141, 142, 143, 144, 145, 146, 147, 148, 149] (by decide +kernel) (by decide +kernel)
set_option maxRecDepth 20000 in
theorem gX2_doOnePart_X2_sourcePlace : GoodIn wsX2_doOnePart (wsV RX2 96 RX2 yX2_sourcePlace wsX2_sourcePlace) := goodIn_app (goodIn_of _ (by decide +kernel)) ggX2_doOnePart_X2_sourcePlace
set_option maxRecDepth 20000 in
theorem ggX2_doOnePart_X2_valueAt : GoodIn wsX2_doOnePart wsX2_valueAt := goodIn_r _ [56, 12, 17, 10, 2, 57, 19, 58, 59, 60, 18, 20, 21, 22, 23, 24, 25, 26, 27, 28, 29, 30, 31, 32, 33, 34, 35, 36, 37, 38, 39, 40, 41, 42, 43, 138, 139, 140, 141, 142, 143, 144, 145, 146, 147, 148, 149] (by decide +kernel) (by decide +kernel)
set_option maxRecDepth 20000 in
theorem gX2_doOnePart_X2_valueAt : GoodIn wsX2_doOnePart (wsV RX2 100 RX2 yX2_valueAt wsX2_valueAt) := goodIn_app (goodIn_of _ (by decide +kernel)) ggX2_doOnePart_X2_valueAt
set_option maxRecDepth 20000 in
theorem ggX2_doOnePart_X2_kindOfSource : GoodIn wsX2_doOnePart wsX2_kindOfSource := goodIn_r _ [63, 12, 64] (by decide +kernel) (by decide +kernel)
set_option maxRecDepth 20000 in
theorem gX2_doOnePart_X2_kindOfSource : GoodIn wsX2_doOnePart (va_wsS RX2 119 yX2_kindOfSource wsX2_kindOfSource) := goodIn_app (goodIn_of _ (by decide +kernel)) ggX2_doOnePart_X2_kindOfSource
set_option maxRecDepth 20000 in
theorem ggX2_doOnePart_X2_push : GoodIn wsX2_doOnePart wsX2_push := goodIn_r _ [68, 17, 2, 44, 45, 46, 8, 47, 48, 49, 50, 51, 52, 11, 69, 19, 70, 71, 22, 25, 26, 27, 28, 72, 73, 74, 75, 76, 60, 18, 20, 21, 23, 24, 29, 30, 31, 32, 33, 34, 35, 36, 37, 38, 39, 40, 41, 42, 43, 77, 78, 79, 80, 81, 82, 83, 84, 85, 86, 87, 88, 89, 90, 91, 92, 93, 94, 95, 96, 97, 98, 99, 100, 138, 139, 140, 141, 142, 143, 144, 145, 146, 147, 148, 149] (by decide +kernel) (by decide +kernel)
set_option maxRecDepth 20000 in
theorem gX2_doOnePart_X2_push : GoodIn wsX2_doOnePart (wsV RX2 88 RX2 yX2_push wsX2_push) := goodIn_app (goodIn_of _ (by decide +kernel)) ggX2_doOnePart_X2_push
set_option maxRecDepth 20000 in
theorem ggX2_doOnePart_X2_spend : GoodIn wsX2_doOnePart wsX2_spend := goodIn_r _ [104, 105, 106, 138, 139, 140, 141] (by decide +kernel) (by decide +kernel)
set_option maxRecDepth 20000 in
theorem gX2_doOnePart_X2_spend : GoodIn wsX2_doOnePart (wsV RX2 93 RX2 yX2_spend wsX2_spend) := goodIn_app (goodIn_of _ (by decide +kernel)) ggX2_doOnePart_X2_spend
set_option maxRecDepth 20000 in
theorem ggX2_doOnePart_X2_spendByKind : GoodIn wsX2_doOnePart wsX2_spendByKind := goodIn_r _ [110, 101, 102, 103, 8, 104, 105, 106, 138, 139, 140, 141] (by decide +kernel) (by decide +kernel)
set_option maxRecDepth 20000 in
theorem gX2_doOnePart_X2_spendByKind : GoodIn wsX2_doOnePart (wsV RX2 122 RX2 yX2_spendByKind wsX2_spendByKind) := goodIn_app (goodIn_of _ (by decide +kernel)) ggX2_doOnePart_X2_spendByKind
set_option maxRecDepth 20000 in
theorem ggX2_doOnePart_X2_setRegister : GoodIn wsX2_doOnePart wsX2_setRegister := goodIn_r _ [51, 2, 52, 11, 138, 139, 140, 141] (by decide +kernel) (by decide +kernel)
set_option maxRecDepth 20000 in
theorem gX2_doOnePart_X2_setRegister : GoodIn wsX2_doOnePart (wsV RX2 44 RX2 yX2_setRegister wsX2_setRegister) := goodIn_app (goodIn_of _ (by decide +kernel)) ggX2_doOnePart_X2_setRegister
set_option maxRecDepth 20000 in
theorem ggX2_doOnePart_X2_change : GoodIn wsX2_doOnePart wsX2_change := goodIn_r _ [114, 11, 115, 116, 117, 8, 118, 2, 119, 120, 121, 122, 123, 124, 125, 126, 127, 128, 129, 48, 49, 50, 51, 52, 130, 131, 132, 133, 138, 139, 140, 141] (by decide +kernel) (by decide +kernel)
set_option maxRecDepth 20000 in
theorem gX2_doOnePart_X2_change : GoodIn wsX2_doOnePart (wsV RX2 132 RX2 yX2_change wsX2_change) := goodIn_app (goodIn_of _ (by decide +kernel)) ggX2_doOnePart_X2_change
set_option maxRecDepth 20000 in
theorem ggX2_doOnePart_X2_put : GoodIn wsX2_doOnePart wsX2_put := goodIn_r _ [137, 10, 12, 17, 48, 49, 50, 8, 51, 2, 52, 11, 69, 19, 70, 71, 22, 25, 26, 27, 28, 72, 73, 74, 75, 76, 60, 18, 20, 21, 23, 24, 29, 30, 31, 32, 33, 34, 35, 36, 37, 38, 39, 40, 41, 42, 43, 77, 78, 79, 80, 81, 82, 83, 84, 85, 86, 87, 88, 89, 90, 91, 92, 93, 94, 95, 96, 97, 98, 99, 100, 138, 139, 140, 141, 142, 143, 144, 145, 146, 147, 148, 149] (by decide +kernel) (by decide +kernel)
set_option maxRecDepth 20000 in
theorem gX2_doOnePart_X2_put : GoodIn wsX2_doOnePart (wsV RX2 111 RX2 yX2_put wsX2_put) := goodIn_app (goodIn_of _ (by decide +kernel)) ggX2_doOnePart_X2_put
theorem dX2_doOnePart_0 : decode cX2_doOnePart 0 = .ok (.iload_n 1, 1) := by decide +kernel
theorem dX2_doOnePart_1 : decode cX2_doOnePart 1 = .ok (.bipush 64, 2) := by decide +kernel
theorem dX2_doOnePart_3 : decode cX2_doOnePart 3 = .ok (.iand, 1) := by decide +kernel
theorem dX2_doOnePart_4 : decode cX2_doOnePart 4 = .ok (.ifCond .eq 7, 3) := by decide +kernel
theorem dX2_doOnePart_7 : decode cX2_doOnePart 7 = .ok (.iconst 1, 1) := by decide +kernel
theorem dX2_doOnePart_8 : decode cX2_doOnePart 8 = .ok (.goto 4, 3) := by decide +kernel
theorem dX2_doOnePart_11 : decode cX2_doOnePart 11 = .ok (.iconst 0, 1) := by decide +kernel
theorem dX2_doOnePart_12 : decode cX2_doOnePart 12 = .ok (.istore_n 2, 1) := by decide +kernel
theorem dX2_doOnePart_13 : decode cX2_doOnePart 13 = .ok (.aload_n 0, 1) := by decide +kernel
theorem dX2_doOnePart_14 : decode cX2_doOnePart 14 = .ok (.iload_n 1, 1) := by decide +kernel
theorem dX2_doOnePart_15 : decode cX2_doOnePart 15 = .ok (.iload_n 1, 1) := by decide +kernel
theorem dX2_doOnePart_16 : decode cX2_doOnePart 16 = .ok (.bipush 15, 2) := by decide +kernel
theorem dX2_doOnePart_18 : decode cX2_doOnePart 18 = .ok (.iand, 1) := by decide +kernel
theorem dX2_doOnePart_19 : decode cX2_doOnePart 19 = .ok (.invokevirtual 96, 3) := by decide +kernel
theorem dX2_doOnePart_22 : decode cX2_doOnePart 22 = .ok (.istore_n 3, 1) := by decide +kernel
theorem dX2_doOnePart_23 : decode cX2_doOnePart 23 = .ok (.aload_n 0, 1) := by decide +kernel
theorem dX2_doOnePart_24 : decode cX2_doOnePart 24 = .ok (.iload_n 3, 1) := by decide +kernel
theorem dX2_doOnePart_25 : decode cX2_doOnePart 25 = .ok (.iload_n 2, 1) := by decide +kernel
theorem dX2_doOnePart_26 : decode cX2_doOnePart 26 = .ok (.invokevirtual 100, 3) := by decide +kernel
theorem dX2_doOnePart_29 : decode cX2_doOnePart 29 = .ok (.istore 4, 2) := by decide +kernel
theorem dX2_doOnePart_31 : decode cX2_doOnePart 31 = .ok (.iload_n 3, 1) := by decide +kernel
theorem dX2_doOnePart_32 : decode cX2_doOnePart 32 = .ok (.iload_n 1, 1) := by decide +kernel
theorem dX2_doOnePart_33 : decode cX2_doOnePart 33 = .ok (.invokestatic 119, 3) := by decide +kernel
theorem dX2_doOnePart_36 : decode cX2_doOnePart 36 = .ok (.istore 5, 2) := by decide +kernel
theorem dX2_doOnePart_38 : decode cX2_doOnePart 38 = .ok (.iload_n 1, 1) := by decide +kernel
theorem dX2_doOnePart_39 : decode cX2_doOnePart 39 = .ok (.bipush 7, 2) := by decide +kernel
theorem dX2_doOnePart_41 : decode cX2_doOnePart 41 = .ok (.ishr, 1) := by decide +kernel
theorem dX2_doOnePart_42 : decode cX2_doOnePart 42 = .ok (.bipush 7, 2) := by decide +kernel
theorem dX2_doOnePart_44 : decode cX2_doOnePart 44 = .ok (.iand, 1) := by decide +kernel
theorem dX2_doOnePart_45 : decode cX2_doOnePart 45 = .ok (.istore 6, 2) := by decide +kernel
theorem dX2_doOnePart_47 : decode cX2_doOnePart 47 = .ok (.iload 6, 2) := by decide +kernel
theorem dX2_doOnePart_49 : decode cX2_doOnePart 49 = .ok (.iconst 4, 1) := by decide +kernel
theorem dX2_doOnePart_50 : decode cX2_doOnePart 50 = .ok (.if_icmp .ne 39, 3) := by decide +kernel
theorem dX2_doOnePart_53 : decode cX2_doOnePart 53 = .ok (.aload_n 0, 1) := by decide +kernel
theorem dX2_doOnePart_54 : decode cX2_doOnePart 54 = .ok (.iload 4, 2) := by decide +kernel
theorem dX2_doOnePart_56 : decode cX2_doOnePart 56 = .ok (.iload_n 2, 1) := by decide +kernel
theorem dX2_doOnePart_57 : decode cX2_doOnePart 57 = .ok (.invokevirtual 88, 3) := by decide +kernel
theorem dX2_doOnePart_60 : decode cX2_doOnePart 60 = .ok (.iload_n 1, 1) := by decide +kernel
theorem dX2_doOnePart_61 : decode cX2_doOnePart 61 = .ok (.bipush 63, 2) := by decide +kernel
theorem dX2_doOnePart_63 : decode cX2_doOnePart 63 = .ok (.iand, 1) := by decide +kernel
theorem dX2_doOnePart_64 : decode cX2_doOnePart 64 = .ok (.bipush 48, 2) := by decide +kernel
theorem dX2_doOnePart_66 : decode cX2_doOnePart 66 = .ok (.if_icmp .ne 11, 3) := by decide +kernel
theorem dX2_doOnePart_69 : decode cX2_doOnePart 69 = .ok (.aload_n 0, 1) := by decide +kernel
theorem dX2_doOnePart_70 : decode cX2_doOnePart 70 = .ok (.iconst 4, 1) := by decide +kernel
theorem dX2_doOnePart_71 : decode cX2_doOnePart 71 = .ok (.invokevirtual 93, 3) := by decide +kernel
theorem dX2_doOnePart_74 : decode cX2_doOnePart 74 = .ok (.goto 75, 3) := by decide +kernel
theorem dX2_doOnePart_77 : decode cX2_doOnePart 77 = .ok (.aload_n 0, 1) := by decide +kernel
theorem dX2_doOnePart_78 : decode cX2_doOnePart 78 = .ok (.getstatic 126, 3) := by decide +kernel
theorem dX2_doOnePart_81 : decode cX2_doOnePart 81 = .ok (.iload 5, 2) := by decide +kernel
theorem dX2_doOnePart_83 : decode cX2_doOnePart 83 = .ok (.invokevirtual 122, 3) := by decide +kernel
theorem dX2_doOnePart_86 : decode cX2_doOnePart 86 = .ok (.goto 63, 3) := by decide +kernel
theorem dX2_doOnePart_89 : decode cX2_doOnePart 89 = .ok (.iload 6, 2) := by decide +kernel
theorem dX2_doOnePart_91 : decode cX2_doOnePart 91 = .ok (.iconst 5, 1) := by decide +kernel
theorem dX2_doOnePart_92 : decode cX2_doOnePart 92 = .ok (.if_icmp .ne 33, 3) := by decide +kernel
theorem dX2_doOnePart_95 : decode cX2_doOnePart 95 = .ok (.aload_n 0, 1) := by decide +kernel
theorem dX2_doOnePart_96 : decode cX2_doOnePart 96 = .ok (.aload_n 0, 1) := by decide +kernel
theorem dX2_doOnePart_97 : decode cX2_doOnePart 97 = .ok (.getfield 16, 3) := by decide +kernel
theorem dX2_doOnePart_100 : decode cX2_doOnePart 100 = .ok (.iconst 0, 1) := by decide +kernel
theorem dX2_doOnePart_101 : decode cX2_doOnePart 101 = .ok (.iaload, 1) := by decide +kernel
theorem dX2_doOnePart_102 : decode cX2_doOnePart 102 = .ok (.iconst 0, 1) := by decide +kernel
theorem dX2_doOnePart_103 : decode cX2_doOnePart 103 = .ok (.invokevirtual 88, 3) := by decide +kernel
theorem dX2_doOnePart_106 : decode cX2_doOnePart 106 = .ok (.aload_n 0, 1) := by decide +kernel
theorem dX2_doOnePart_107 : decode cX2_doOnePart 107 = .ok (.iconst 0, 1) := by decide +kernel
theorem dX2_doOnePart_108 : decode cX2_doOnePart 108 = .ok (.iload 4, 2) := by decide +kernel
theorem dX2_doOnePart_110 : decode cX2_doOnePart 110 = .ok (.invokevirtual 44, 3) := by decide +kernel
theorem dX2_doOnePart_113 : decode cX2_doOnePart 113 = .ok (.aload_n 0, 1) := by decide +kernel
theorem dX2_doOnePart_114 : decode cX2_doOnePart 114 = .ok (.getstatic 129, 3) := by decide +kernel
theorem dX2_doOnePart_117 : decode cX2_doOnePart 117 = .ok (.iload 5, 2) := by decide +kernel
theorem dX2_doOnePart_119 : decode cX2_doOnePart 119 = .ok (.invokevirtual 122, 3) := by decide +kernel
theorem dX2_doOnePart_122 : decode cX2_doOnePart 122 = .ok (.goto 27, 3) := by decide +kernel
theorem dX2_doOnePart_125 : decode cX2_doOnePart 125 = .ok (.aload_n 0, 1) := by decide +kernel
theorem dX2_doOnePart_126 : decode cX2_doOnePart 126 = .ok (.iload_n 3, 1) := by decide +kernel
theorem dX2_doOnePart_127 : decode cX2_doOnePart 127 = .ok (.aload_n 0, 1) := by decide +kernel
theorem dX2_doOnePart_128 : decode cX2_doOnePart 128 = .ok (.iload 6, 2) := by decide +kernel
theorem dX2_doOnePart_130 : decode cX2_doOnePart 130 = .ok (.iload 4, 2) := by decide +kernel
theorem dX2_doOnePart_132 : decode cX2_doOnePart 132 = .ok (.iload_n 2, 1) := by decide +kernel
theorem dX2_doOnePart_133 : decode cX2_doOnePart 133 = .ok (.invokevirtual 132, 3) := by decide +kernel
theorem dX2_doOnePart_136 : decode cX2_doOnePart 136 = .ok (.iload_n 2, 1) := by decide +kernel
theorem dX2_doOnePart_137 : decode cX2_doOnePart 137 = .ok (.invokevirtual 111, 3) := by decide +kernel
theorem dX2_doOnePart_140 : decode cX2_doOnePart 140 = .ok (.aload_n 0, 1) := by decide +kernel
theorem dX2_doOnePart_141 : decode cX2_doOnePart 141 = .ok (.getstatic 136, 3) := by decide +kernel
theorem dX2_doOnePart_144 : decode cX2_doOnePart 144 = .ok (.iload 5, 2) := by decide +kernel
theorem dX2_doOnePart_146 : decode cX2_doOnePart 146 = .ok (.invokevirtual 122, 3) := by decide +kernel
theorem dX2_doOnePart_149 : decode cX2_doOnePart 149 = .ok (.return_, 1) := by decide +kernel
set_option maxRecDepth 20000 in
theorem ggX2_doJump_X2_isJumpTaken : GoodIn wsX2_doJump wsX2_isJumpTaken := goodIn_r _ [5, 6, 7, 8, 4, 9, 10, 27, 28, 29, 30] (by decide +kernel) (by decide +kernel)
set_option maxRecDepth 20000 in
theorem gX2_doJump_X2_isJumpTaken : GoodIn wsX2_doJump (wsV RX2 139 RX2 yX2_isJumpTaken wsX2_isJumpTaken) := goodIn_app (goodIn_of _ (by decide +kernel)) ggX2_doJump_X2_isJumpTaken
set_option maxRecDepth 20000 in
theorem ggX2_doJump_X2_addToRegister : GoodIn wsX2_doJump wsX2_addToRegister := goodIn_r _ [14, 10, 15, 16, 17, 4, 18, 19, 20, 27, 28, 29, 30] (by decide +kernel) (by decide +kernel)
set_option maxRecDepth 20000 in
theorem gX2_doJump_X2_addToRegister : GoodIn wsX2_doJump (wsV RX2 62 RX2 yX2_addToRegister wsX2_addToRegister) := goodIn_app (goodIn_of _ (by decide +kernel)) ggX2_doJump_X2_addToRegister
set_option maxRecDepth 20000 in
theorem ggX2_doJump_X2_spend : GoodIn wsX2_doJump wsX2_spend := goodIn_r _ [24, 25, 26, 27, 28, 29, 30] (by decide +kernel) (by decide +kernel)
set_option maxRecDepth 20000 in
theorem gX2_doJump_X2_spend : GoodIn wsX2_doJump (wsV RX2 93 RX2 yX2_spend wsX2_spend) := goodIn_app (goodIn_of _ (by decide +kernel)) ggX2_doJump_X2_spend
theorem dX2_doJump_0 : decode cX2_doJump 0 = .ok (.aload_n 0, 1) := by decide +kernel
theorem dX2_doJump_1 : decode cX2_doJump 1 = .ok (.iload_n 1, 1) := by decide +kernel
theorem dX2_doJump_2 : decode cX2_doJump 2 = .ok (.bipush 10, 2) := by decide +kernel
theorem dX2_doJump_4 : decode cX2_doJump 4 = .ok (.ishr, 1) := by decide +kernel
theorem dX2_doJump_5 : decode cX2_doJump 5 = .ok (.bipush 7, 2) := by decide +kernel
theorem dX2_doJump_7 : decode cX2_doJump 7 = .ok (.iand, 1) := by decide +kernel
theorem dX2_doJump_8 : decode cX2_doJump 8 = .ok (.invokevirtual 139, 3) := by decide +kernel
theorem dX2_doJump_11 : decode cX2_doJump 11 = .ok (.ifCond .eq 25, 3) := by decide +kernel
theorem dX2_doJump_14 : decode cX2_doJump 14 = .ok (.iload_n 1, 1) := by decide +kernel
theorem dX2_doJump_15 : decode cX2_doJump 15 = .ok (.sipush 1023, 3) := by decide +kernel
theorem dX2_doJump_18 : decode cX2_doJump 18 = .ok (.iand, 1) := by decide +kernel
theorem dX2_doJump_19 : decode cX2_doJump 19 = .ok (.sipush 512, 3) := by decide +kernel
theorem dX2_doJump_22 : decode cX2_doJump 22 = .ok (.ixor, 1) := by decide +kernel
theorem dX2_doJump_23 : decode cX2_doJump 23 = .ok (.sipush 512, 3) := by decide +kernel
theorem dX2_doJump_26 : decode cX2_doJump 26 = .ok (.isub, 1) := by decide +kernel
theorem dX2_doJump_27 : decode cX2_doJump 27 = .ok (.istore_n 2, 1) := by decide +kernel
theorem dX2_doJump_28 : decode cX2_doJump 28 = .ok (.aload_n 0, 1) := by decide +kernel
theorem dX2_doJump_29 : decode cX2_doJump 29 = .ok (.iconst 0, 1) := by decide +kernel
theorem dX2_doJump_30 : decode cX2_doJump 30 = .ok (.iconst 2, 1) := by decide +kernel
theorem dX2_doJump_31 : decode cX2_doJump 31 = .ok (.iload_n 2, 1) := by decide +kernel
theorem dX2_doJump_32 : decode cX2_doJump 32 = .ok (.imul, 1) := by decide +kernel
theorem dX2_doJump_33 : decode cX2_doJump 33 = .ok (.invokevirtual 62, 3) := by decide +kernel
theorem dX2_doJump_36 : decode cX2_doJump 36 = .ok (.aload_n 0, 1) := by decide +kernel
theorem dX2_doJump_37 : decode cX2_doJump 37 = .ok (.iconst 2, 1) := by decide +kernel
theorem dX2_doJump_38 : decode cX2_doJump 38 = .ok (.invokevirtual 93, 3) := by decide +kernel
theorem dX2_doJump_41 : decode cX2_doJump 41 = .ok (.return_, 1) := by decide +kernel
set_option maxRecDepth 20000 in
theorem ggX2_isJumpTaken_X2_isSet : GoodIn wsX2_isJumpTaken wsX2_isSet := goodIn_r _ [5, 6, 7, 8, 9, 10] (by decide +kernel) (by decide +kernel)
set_option maxRecDepth 20000 in
theorem gX2_isJumpTaken_X2_isSet : GoodIn wsX2_isJumpTaken (wsV RX2 142 RX2 yX2_isSet wsX2_isSet) := goodIn_app (goodIn_of _ (by decide +kernel)) ggX2_isJumpTaken_X2_isSet
theorem dX2_isJumpTaken_0 : decode cX2_isJumpTaken 0 = .ok (.aload_n 0, 1) := by decide +kernel
theorem dX2_isJumpTaken_1 : decode cX2_isJumpTaken 1 = .ok (.iconst 4, 1) := by decide +kernel
theorem dX2_isJumpTaken_2 : decode cX2_isJumpTaken 2 = .ok (.invokevirtual 142, 3) := by decide +kernel
theorem dX2_isJumpTaken_5 : decode cX2_isJumpTaken 5 = .ok (.aload_n 0, 1) := by decide +kernel
theorem dX2_isJumpTaken_6 : decode cX2_isJumpTaken 6 = .ok (.sipush 256, 3) := by decide +kernel
theorem dX2_isJumpTaken_9 : decode cX2_isJumpTaken 9 = .ok (.invokevirtual 142, 3) := by decide +kernel
theorem dX2_isJumpTaken_12 : decode cX2_isJumpTaken 12 = .ok (.if_icmp .ne 7, 3) := by decide +kernel
theorem dX2_isJumpTaken_15 : decode cX2_isJumpTaken 15 = .ok (.iconst 1, 1) := by decide +kernel
theorem dX2_isJumpTaken_16 : decode cX2_isJumpTaken 16 = .ok (.goto 4, 3) := by decide +kernel
theorem dX2_isJumpTaken_19 : decode cX2_isJumpTaken 19 = .ok (.iconst 0, 1) := by decide +kernel
theorem dX2_isJumpTaken_20 : decode cX2_isJumpTaken 20 = .ok (.istore_n 2, 1) := by decide +kernel
theorem dX2_isJumpTaken_21 : decode cX2_isJumpTaken 21 = .ok (.iload_n 1, 1) := by decide +kernel
theorem dX2_isJumpTaken_22 : decode cX2_isJumpTaken 22 = .ok (.tableswitch 100 0 6 #[42, 56, 62, 76, 82, 88, 90], 42) := by decide +kernel
theorem dX2_isJumpTaken_64 : decode cX2_isJumpTaken 64 = .ok (.aload_n 0, 1) := by decide +kernel
theorem dX2_isJumpTaken_65 : decode cX2_isJumpTaken 65 = .ok (.iconst 2, 1) := by decide +kernel
theorem dX2_isJumpTaken_66 : decode cX2_isJumpTaken 66 = .ok (.invokevirtual 142, 3) := by decide +kernel
theorem dX2_isJumpTaken_69 : decode cX2_isJumpTaken 69 = .ok (.ifCond .ne 7, 3) := by decide +kernel
theorem dX2_isJumpTaken_72 : decode cX2_isJumpTaken 72 = .ok (.iconst 1, 1) := by decide +kernel
theorem dX2_isJumpTaken_73 : decode cX2_isJumpTaken 73 = .ok (.goto 4, 3) := by decide +kernel
theorem dX2_isJumpTaken_76 : decode cX2_isJumpTaken 76 = .ok (.iconst 0, 1) := by decide +kernel
theorem dX2_isJumpTaken_77 : decode cX2_isJumpTaken 77 = .ok (.ireturn, 1) := by decide +kernel
theorem dX2_isJumpTaken_78 : decode cX2_isJumpTaken 78 = .ok (.aload_n 0, 1) := by decide +kernel
theorem dX2_isJumpTaken_79 : decode cX2_isJumpTaken 79 = .ok (.iconst 2, 1) := by decide +kernel
theorem dX2_isJumpTaken_80 : decode cX2_isJumpTaken 80 = .ok (.invokevirtual 142, 3) := by decide +kernel
theorem dX2_isJumpTaken_83 : decode cX2_isJumpTaken 83 = .ok (.ireturn, 1) := by decide +kernel
theorem dX2_isJumpTaken_84 : decode cX2_isJumpTaken 84 = .ok (.aload_n 0, 1) := by decide +kernel
theorem dX2_isJumpTaken_85 : decode cX2_isJumpTaken 85 = .ok (.iconst 1, 1) := by decide +kernel
theorem dX2_isJumpTaken_86 : decode cX2_isJumpTaken 86 = .ok (.invokevirtual 142, 3) := by decide +kernel
theorem dX2_isJumpTaken_89 : decode cX2_isJumpTaken 89 = .ok (.ifCond .ne 7, 3) := by decide +kernel
theorem dX2_isJumpTaken_92 : decode cX2_isJumpTaken 92 = .ok (.iconst 1, 1) := by decide +kernel
theorem dX2_isJumpTaken_93 : decode cX2_isJumpTaken 93 = .ok (.goto 4, 3) := by decide +kernel
theorem dX2_isJumpTaken_96 : decode cX2_isJumpTaken 96 = .ok (.iconst 0, 1) := by decide +kernel
theorem dX2_isJumpTaken_97 : decode cX2_isJumpTaken 97 = .ok (.ireturn, 1) := by decide +kernel
theorem dX2_isJumpTaken_98 : decode cX2_isJumpTaken 98 = .ok (.aload_n 0, 1) := by decide +kernel
theorem dX2_isJumpTaken_99 : decode cX2_isJumpTaken 99 = .ok (.iconst 1, 1) := by decide +kernel
theorem dX2_isJumpTaken_100 : decode cX2_isJumpTaken 100 = .ok (.invokevirtual 142, 3) := by decide +kernel
theorem dX2_isJumpTaken_103 : decode cX2_isJumpTaken 103 = .ok (.ireturn, 1) := by decide +kernel
theorem dX2_isJumpTaken_104 : decode cX2_isJumpTaken 104 = .ok (.aload_n 0, 1) := by decide +kernel
theorem dX2_isJumpTaken_105 : decode cX2_isJumpTaken 105 = .ok (.iconst 4, 1) := by decide +kernel
theorem dX2_isJumpTaken_106 : decode cX2_isJumpTaken 106 = .ok (.invokevirtual 142, 3) := by decide +kernel
theorem dX2_isJumpTaken_109 : decode cX2_isJumpTaken 109 = .ok (.ireturn, 1) := by decide +kernel
theorem dX2_isJumpTaken_110 : decode cX2_isJumpTaken 110 = .ok (.iload_n 2, 1) := by decide +kernel
theorem dX2_isJumpTaken_111 : decode cX2_isJumpTaken 111 = .ok (.ireturn, 1) := by decide +kernel
theorem dX2_isJumpTaken_112 : decode cX2_isJumpTaken 112 = .ok (.iload_n 2, 1) := by decide +kernel
theorem dX2_isJumpTaken_113 : decode cX2_isJumpTaken 113 = .ok (.ifCond .ne 7, 3) := by decide +kernel
theorem dX2_isJumpTaken_116 : decode cX2_isJumpTaken 116 = .ok (.iconst 1, 1) := by decide +kernel
theorem dX2_isJumpTaken_117 : decode cX2_isJumpTaken 117 = .ok (.goto 4, 3) := by decide +kernel
theorem dX2_isJumpTaken_120 : decode cX2_isJumpTaken 120 = .ok (.iconst 0, 1) := by decide +kernel
theorem dX2_isJumpTaken_121 : decode cX2_isJumpTaken 121 = .ok (.ireturn, 1) := by decide +kernel
theorem dX2_isJumpTaken_122 : decode cX2_isJumpTaken 122 = .ok (.iconst 1, 1) := by decide +kernel
theorem dX2_isJumpTaken_123 : decode cX2_isJumpTaken 123 = .ok (.ireturn, 1) := by decide +kernel
set_option maxRecDepth 20000 in
theorem ggX2_returnFromInterrupt_X2_pop : GoodIn wsX2_returnFromInterrupt wsX2_pop := goodIn_r _ [5, 6, 7, 8, 9, 10, 11, 12, 13, 14, 15, 16, 17, 18, 19, 20, 21, 22, 23, 24, 25, 26, 27, 28, 29, 30, 31, 32, 33, 34, 35, 36, 4, 37, 38, 39, 40, 41, 42, 43, 50, 51, 52, 53, 54, 55, 56, 57, 58, 59, 60, 61] (by decide +kernel) (by decide +kernel)
set_option maxRecDepth 20000 in
theorem gX2_returnFromInterrupt_X2_pop : GoodIn wsX2_returnFromInterrupt (wsV RX2 145 RX2 yX2_pop wsX2_pop) := goodIn_app (goodIn_of _ (by decide +kernel)) ggX2_returnFromInterrupt_X2_pop
set_option maxRecDepth 20000 in
theorem ggX2_returnFromInterrupt_X2_setRegister : GoodIn wsX2_returnFromInterrupt wsX2_setRegister := goodIn_r _ [41, 7, 42, 43, 50, 51, 52, 53] (by decide +kernel) (by decide +kernel)
set_option maxRecDepth 20000 in
theorem gX2_returnFromInterrupt_X2_setRegister : GoodIn wsX2_returnFromInterrupt (wsV RX2 44 RX2 yX2_setRegister wsX2_setRegister) := goodIn_app (goodIn_of _ (by decide +kernel)) ggX2_returnFromInterrupt_X2_setRegister
set_option maxRecDepth 20000 in
theorem ggX2_returnFromInterrupt_X2_spend : GoodIn wsX2_returnFromInterrupt wsX2_spend := goodIn_r _ [47, 48, 49, 50, 51, 52, 53] (by decide +kernel) (by decide +kernel)
set_option maxRecDepth 20000 in
theorem gX2_returnFromInterrupt_X2_spend : GoodIn wsX2_returnFromInterrupt (wsV RX2 93 RX2 yX2_spend wsX2_spend) := goodIn_app (goodIn_of _ (by decide +kernel)) ggX2_returnFromInterrupt_X2_spend
theorem dX2_returnFromInterrupt_0 : decode cX2_returnFromInterrupt 0 = .ok (.aload_n 0, 1) := by decide +kernel
theorem dX2_returnFromInterrupt_1 : decode cX2_returnFromInterrupt 1 = .ok (.iconst 2, 1) := by decide +kernel
theorem dX2_returnFromInterrupt_2 : decode cX2_returnFromInterrupt 2 = .ok (.aload_n 0, 1) := by decide +kernel
theorem dX2_returnFromInterrupt_3 : decode cX2_returnFromInterrupt 3 = .ok (.invokevirtual 145, 3) := by decide +kernel
theorem dX2_returnFromInterrupt_6 : decode cX2_returnFromInterrupt 6 = .ok (.invokevirtual 44, 3) := by decide +kernel
theorem dX2_returnFromInterrupt_9 : decode cX2_returnFromInterrupt 9 = .ok (.aload_n 0, 1) := by decide +kernel
theorem dX2_returnFromInterrupt_10 : decode cX2_returnFromInterrupt 10 = .ok (.iconst 0, 1) := by decide +kernel
theorem dX2_returnFromInterrupt_11 : decode cX2_returnFromInterrupt 11 = .ok (.aload_n 0, 1) := by decide +kernel
theorem dX2_returnFromInterrupt_12 : decode cX2_returnFromInterrupt 12 = .ok (.invokevirtual 145, 3) := by decide +kernel
theorem dX2_returnFromInterrupt_15 : decode cX2_returnFromInterrupt 15 = .ok (.invokevirtual 44, 3) := by decide +kernel
theorem dX2_returnFromInterrupt_18 : decode cX2_returnFromInterrupt 18 = .ok (.aload_n 0, 1) := by decide +kernel
theorem dX2_returnFromInterrupt_19 : decode cX2_returnFromInterrupt 19 = .ok (.iconst 5, 1) := by decide +kernel
theorem dX2_returnFromInterrupt_20 : decode cX2_returnFromInterrupt 20 = .ok (.invokevirtual 93, 3) := by decide +kernel
theorem dX2_returnFromInterrupt_23 : decode cX2_returnFromInterrupt 23 = .ok (.return_, 1) := by decide +kernel
set_option maxRecDepth 20000 in
theorem ggX2_sourcePlace_X2_indexedPlace : GoodIn wsX2_sourcePlace wsX2_indexedPlace := goodIn_r _ [9, 4, 10, 2, 11, 12, 13, 14, 15, 16, 17, 18, 19, 20, 21, 22, 23, 24, 25, 26, 27, 28, 29, 30, 31, 32, 33, 34, 35, 36, 37, 38, 39, 8, 40, 41, 42, 43, 44, 45, 46, 47, 48, 49, 50, 51, 52, 53, 54, 55, 56, 57] (by decide +kernel) (by decide +kernel)
set_option maxRecDepth 20000 in
theorem gX2_sourcePlace_X2_indexedPlace : GoodIn wsX2_sourcePlace (wsV RX2 150 RX2 yX2_indexedPlace wsX2_indexedPlace) := goodIn_app (goodIn_of _ (by decide +kernel)) ggX2_sourcePlace_X2_indexedPlace
set_option maxRecDepth 20000 in
theorem ggX2_sourcePlace_X2_addToRegister : GoodIn wsX2_sourcePlace wsX2_addToRegister := goodIn_r _ [40, 4, 41, 42, 43, 8, 44, 45, 2, 46, 47, 48, 49] (by decide +kernel) (by decide +kernel)
set_option maxRecDepth 20000 in
theorem gX2_sourcePlace_X2_addToRegister : GoodIn wsX2_sourcePlace (wsV RX2 62 RX2 yX2_addToRegister wsX2_addToRegister) := goodIn_app (goodIn_of _ (by decide +kernel)) ggX2_sourcePlace_X2_addToRegister
theorem dX2_sourcePlace_0 : decode cX2_sourcePlace 0 = .ok (.iload_n 1, 1) := by decide +kernel
theorem dX2_sourcePlace_1 : decode cX2_sourcePlace 1 = .ok (.iconst 4, 1) := by decide +kernel
theorem dX2_sourcePlace_2 : decode cX2_sourcePlace 2 = .ok (.ishr, 1) := by decide +kernel
theorem dX2_sourcePlace_3 : decode cX2_sourcePlace 3 = .ok (.iconst 3, 1) := by decide +kernel
theorem dX2_sourcePlace_4 : decode cX2_sourcePlace 4 = .ok (.iand, 1) := by decide +kernel
theorem dX2_sourcePlace_5 : decode cX2_sourcePlace 5 = .ok (.istore_n 3, 1) := by decide +kernel
theorem dX2_sourcePlace_6 : decode cX2_sourcePlace 6 = .ok (.iload_n 2, 1) := by decide +kernel
theorem dX2_sourcePlace_7 : decode cX2_sourcePlace 7 = .ok (.iconst 3, 1) := by decide +kernel
theorem dX2_sourcePlace_8 : decode cX2_sourcePlace 8 = .ok (.if_icmp .ne 18, 3) := by decide +kernel
theorem dX2_sourcePlace_11 : decode cX2_sourcePlace 11 = .ok (.ldc 148, 2) := by decide +kernel
theorem dX2_sourcePlace_13 : decode cX2_sourcePlace 13 = .ok (.iload_n 3, 1) := by decide +kernel
theorem dX2_sourcePlace_14 : decode cX2_sourcePlace 14 = .ok (.iconst 3, 1) := by decide +kernel
theorem dX2_sourcePlace_15 : decode cX2_sourcePlace 15 = .ok (.if_icmp .ne 8, 3) := by decide +kernel
theorem dX2_sourcePlace_18 : decode cX2_sourcePlace 18 = .ok (.ldc 149, 2) := by decide +kernel
theorem dX2_sourcePlace_20 : decode cX2_sourcePlace 20 = .ok (.goto 4, 3) := by decide +kernel
theorem dX2_sourcePlace_23 : decode cX2_sourcePlace 23 = .ok (.iload_n 3, 1) := by decide +kernel
theorem dX2_sourcePlace_24 : decode cX2_sourcePlace 24 = .ok (.iadd, 1) := by decide +kernel
theorem dX2_sourcePlace_25 : decode cX2_sourcePlace 25 = .ok (.ireturn, 1) := by decide +kernel
theorem dX2_sourcePlace_26 : decode cX2_sourcePlace 26 = .ok (.iload_n 3, 1) := by decide +kernel
theorem dX2_sourcePlace_27 : decode cX2_sourcePlace 27 = .ok (.ifCond .ne 8, 3) := by decide +kernel
theorem dX2_sourcePlace_30 : decode cX2_sourcePlace 30 = .ok (.ldc 48, 2) := by decide +kernel
theorem dX2_sourcePlace_32 : decode cX2_sourcePlace 32 = .ok (.iload_n 2, 1) := by decide +kernel
theorem dX2_sourcePlace_33 : decode cX2_sourcePlace 33 = .ok (.iadd, 1) := by decide +kernel
theorem dX2_sourcePlace_34 : decode cX2_sourcePlace 34 = .ok (.ireturn, 1) := by decide +kernel
theorem dX2_sourcePlace_35 : decode cX2_sourcePlace 35 = .ok (.iload_n 3, 1) := by decide +kernel
theorem dX2_sourcePlace_36 : decode cX2_sourcePlace 36 = .ok (.iconst 1, 1) := by decide +kernel
theorem dX2_sourcePlace_37 : decode cX2_sourcePlace 37 = .ok (.if_icmp .ne 9, 3) := by decide +kernel
theorem dX2_sourcePlace_40 : decode cX2_sourcePlace 40 = .ok (.aload_n 0, 1) := by decide +kernel
theorem dX2_sourcePlace_41 : decode cX2_sourcePlace 41 = .ok (.iload_n 2, 1) := by decide +kernel
theorem dX2_sourcePlace_42 : decode cX2_sourcePlace 42 = .ok (.invokevirtual 150, 3) := by decide +kernel
theorem dX2_sourcePlace_45 : decode cX2_sourcePlace 45 = .ok (.ireturn, 1) := by decide +kernel
theorem dX2_sourcePlace_46 : decode cX2_sourcePlace 46 = .ok (.iload_n 2, 1) := by decide +kernel
theorem dX2_sourcePlace_47 : decode cX2_sourcePlace 47 = .ok (.iconst 2, 1) := by decide +kernel
theorem dX2_sourcePlace_48 : decode cX2_sourcePlace 48 = .ok (.if_icmp .ne 18, 3) := by decide +kernel
theorem dX2_sourcePlace_51 : decode cX2_sourcePlace 51 = .ok (.ldc 148, 2) := by decide +kernel
theorem dX2_sourcePlace_53 : decode cX2_sourcePlace 53 = .ok (.iload_n 3, 1) := by decide +kernel
theorem dX2_sourcePlace_54 : decode cX2_sourcePlace 54 = .ok (.iconst 2, 1) := by decide +kernel
theorem dX2_sourcePlace_55 : decode cX2_sourcePlace 55 = .ok (.if_icmp .ne 7, 3) := by decide +kernel
theorem dX2_sourcePlace_58 : decode cX2_sourcePlace 58 = .ok (.iconst 4, 1) := by decide +kernel
theorem dX2_sourcePlace_59 : decode cX2_sourcePlace 59 = .ok (.goto 5, 3) := by decide +kernel
theorem dX2_sourcePlace_62 : decode cX2_sourcePlace 62 = .ok (.bipush 8, 2) := by decide +kernel
theorem dX2_sourcePlace_64 : decode cX2_sourcePlace 64 = .ok (.iadd, 1) := by decide +kernel
theorem dX2_sourcePlace_65 : decode cX2_sourcePlace 65 = .ok (.ireturn, 1) := by decide +kernel
theorem dX2_sourcePlace_66 : decode cX2_sourcePlace 66 = .ok (.aload_n 0, 1) := by decide +kernel
theorem dX2_sourcePlace_67 : decode cX2_sourcePlace 67 = .ok (.getfield 16, 3) := by decide +kernel
theorem dX2_sourcePlace_70 : decode cX2_sourcePlace 70 = .ok (.iload_n 2, 1) := by decide +kernel
theorem dX2_sourcePlace_71 : decode cX2_sourcePlace 71 = .ok (.iaload, 1) := by decide +kernel
theorem dX2_sourcePlace_72 : decode cX2_sourcePlace 72 = .ok (.istore 4, 2) := by decide +kernel
theorem dX2_sourcePlace_74 : decode cX2_sourcePlace 74 = .ok (.iload_n 3, 1) := by decide +kernel
theorem dX2_sourcePlace_75 : decode cX2_sourcePlace 75 = .ok (.iconst 3, 1) := by decide +kernel
theorem dX2_sourcePlace_76 : decode cX2_sourcePlace 76 = .ok (.if_icmp .ne 41, 3) := by decide +kernel
theorem dX2_sourcePlace_79 : decode cX2_sourcePlace 79 = .ok (.iload_n 1, 1) := by decide +kernel
theorem dX2_sourcePlace_80 : decode cX2_sourcePlace 80 = .ok (.bipush 64, 2) := by decide +kernel
theorem dX2_sourcePlace_82 : decode cX2_sourcePlace 82 = .ok (.iand, 1) := by decide +kernel
theorem dX2_sourcePlace_83 : decode cX2_sourcePlace 83 = .ok (.ifCond .eq 16, 3) := by decide +kernel
theorem dX2_sourcePlace_86 : decode cX2_sourcePlace 86 = .ok (.iload_n 2, 1) := by decide +kernel
theorem dX2_sourcePlace_87 : decode cX2_sourcePlace 87 = .ok (.ifCond .eq 12, 3) := by decide +kernel
theorem dX2_sourcePlace_90 : decode cX2_sourcePlace 90 = .ok (.iload_n 2, 1) := by decide +kernel
theorem dX2_sourcePlace_91 : decode cX2_sourcePlace 91 = .ok (.iconst 1, 1) := by decide +kernel
theorem dX2_sourcePlace_92 : decode cX2_sourcePlace 92 = .ok (.if_icmp .eq 7, 3) := by decide +kernel
theorem dX2_sourcePlace_95 : decode cX2_sourcePlace 95 = .ok (.iconst 1, 1) := by decide +kernel
theorem dX2_sourcePlace_96 : decode cX2_sourcePlace 96 = .ok (.goto 4, 3) := by decide +kernel
theorem dX2_sourcePlace_99 : decode cX2_sourcePlace 99 = .ok (.iconst 0, 1) := by decide +kernel
theorem dX2_sourcePlace_100 : decode cX2_sourcePlace 100 = .ok (.istore 5, 2) := by decide +kernel
theorem dX2_sourcePlace_102 : decode cX2_sourcePlace 102 = .ok (.aload_n 0, 1) := by decide +kernel
theorem dX2_sourcePlace_103 : decode cX2_sourcePlace 103 = .ok (.iload_n 2, 1) := by decide +kernel
theorem dX2_sourcePlace_104 : decode cX2_sourcePlace 104 = .ok (.iload 5, 2) := by decide +kernel
theorem dX2_sourcePlace_106 : decode cX2_sourcePlace 106 = .ok (.ifCond .eq 7, 3) := by decide +kernel
theorem dX2_sourcePlace_109 : decode cX2_sourcePlace 109 = .ok (.iconst 1, 1) := by decide +kernel
theorem dX2_sourcePlace_110 : decode cX2_sourcePlace 110 = .ok (.goto 4, 3) := by decide +kernel
theorem dX2_sourcePlace_113 : decode cX2_sourcePlace 113 = .ok (.iconst 2, 1) := by decide +kernel
theorem dX2_sourcePlace_114 : decode cX2_sourcePlace 114 = .ok (.invokevirtual 62, 3) := by decide +kernel
theorem dX2_sourcePlace_117 : decode cX2_sourcePlace 117 = .ok (.iload 4, 2) := by decide +kernel
theorem dX2_sourcePlace_119 : decode cX2_sourcePlace 119 = .ok (.ireturn, 1) := by decide +kernel
set_option maxRecDepth 20000 in
theorem ggX2_destinationPlace_X2_indexedPlace : GoodIn wsX2_destinationPlace wsX2_indexedPlace := goodIn_r _ [6, 7, 8, 9, 10, 11, 12, 13, 14, 15, 16, 17, 18, 19, 20, 21, 22, 23, 24, 25, 26, 27, 28, 29, 30, 31, 32, 33, 34, 35, 36, 37, 38, 5, 39, 40, 41, 42, 43, 44, 45, 46, 47, 48, 49, 50, 51, 52, 53, 54, 55, 56] (by decide +kernel) (by decide +kernel)
set_option maxRecDepth 20000 in
theorem gX2_destinationPlace_X2_indexedPlace : GoodIn wsX2_destinationPlace (wsV RX2 150 RX2 yX2_indexedPlace wsX2_indexedPlace) := goodIn_app (goodIn_of _ (by decide +kernel)) ggX2_destinationPlace_X2_indexedPlace
theorem dX2_destinationPlace_0 : decode cX2_destinationPlace 0 = .ok (.iload_n 1, 1) := by decide +kernel
theorem dX2_destinationPlace_1 : decode cX2_destinationPlace 1 = .ok (.bipush 15, 2) := by decide +kernel
theorem dX2_destinationPlace_3 : decode cX2_destinationPlace 3 = .ok (.iand, 1) := by decide +kernel
theorem dX2_destinationPlace_4 : decode cX2_destinationPlace 4 = .ok (.istore_n 2, 1) := by decide +kernel
theorem dX2_destinationPlace_5 : decode cX2_destinationPlace 5 = .ok (.iload_n 1, 1) := by decide +kernel
theorem dX2_destinationPlace_6 : decode cX2_destinationPlace 6 = .ok (.sipush 128, 3) := by decide +kernel
theorem dX2_destinationPlace_9 : decode cX2_destinationPlace 9 = .ok (.iand, 1) := by decide +kernel
theorem dX2_destinationPlace_10 : decode cX2_destinationPlace 10 = .ok (.ifCond .ne 8, 3) := by decide +kernel
theorem dX2_destinationPlace_13 : decode cX2_destinationPlace 13 = .ok (.ldc 48, 2) := by decide +kernel
theorem dX2_destinationPlace_15 : decode cX2_destinationPlace 15 = .ok (.iload_n 2, 1) := by decide +kernel
theorem dX2_destinationPlace_16 : decode cX2_destinationPlace 16 = .ok (.iadd, 1) := by decide +kernel
theorem dX2_destinationPlace_17 : decode cX2_destinationPlace 17 = .ok (.ireturn, 1) := by decide +kernel
theorem dX2_destinationPlace_18 : decode cX2_destinationPlace 18 = .ok (.aload_n 0, 1) := by decide +kernel
theorem dX2_destinationPlace_19 : decode cX2_destinationPlace 19 = .ok (.iload_n 2, 1) := by decide +kernel
theorem dX2_destinationPlace_20 : decode cX2_destinationPlace 20 = .ok (.invokevirtual 150, 3) := by decide +kernel
theorem dX2_destinationPlace_23 : decode cX2_destinationPlace 23 = .ok (.ireturn, 1) := by decide +kernel
set_option maxRecDepth 20000 in
theorem ggX2_indexedPlace_X0_wordAt : GoodIn wsX2_indexedPlace wsX0_wordAt := goodIn_r _ [7, 8, 9, 10, 11, 12, 5, 13, 14, 15, 16, 17, 18, 19, 20, 21, 22, 23, 24, 25, 26, 27, 28, 29, 44, 45, 46, 47, 48, 49, 50, 51] (by decide +kernel) (by decide +kernel)
set_option maxRecDepth 20000 in
theorem gX2_indexedPlace_X0_wordAt_n40 : GoodIn wsX2_indexedPlace (wsX0_wordAt) := ggX2_indexedPlace_X0_wordAt
set_option maxRecDepth 20000 in
theorem ggX2_indexedPlace_X2_addToRegister : GoodIn wsX2_indexedPlace wsX2_addToRegister := goodIn_r _ [34, 1, 35, 36, 37, 33, 38, 39, 3, 40, 41, 42, 43] (by decide +kernel) (by decide +kernel)
set_option maxRecDepth 20000 in
theorem gX2_indexedPlace_X2_addToRegister : GoodIn wsX2_indexedPlace (wsV RX2 62 RX2 yX2_addToRegister wsX2_addToRegister) := goodIn_app (goodIn_of _ (by decide +kernel)) ggX2_indexedPlace_X2_addToRegister
theorem dX2_indexedPlace_0 : decode cX2_indexedPlace 0 = .ok (.iload_n 1, 1) := by decide +kernel
theorem dX2_indexedPlace_1 : decode cX2_indexedPlace 1 = .ok (.iconst 2, 1) := by decide +kernel
theorem dX2_indexedPlace_2 : decode cX2_indexedPlace 2 = .ok (.if_icmp .ne 7, 3) := by decide +kernel
theorem dX2_indexedPlace_5 : decode cX2_indexedPlace 5 = .ok (.iconst 0, 1) := by decide +kernel
theorem dX2_indexedPlace_6 : decode cX2_indexedPlace 6 = .ok (.goto 12, 3) := by decide +kernel
theorem dX2_indexedPlace_9 : decode cX2_indexedPlace 9 = .ok (.aload_n 0, 1) := by decide +kernel
theorem dX2_indexedPlace_10 : decode cX2_indexedPlace 10 = .ok (.getfield 16, 3) := by decide +kernel
theorem dX2_indexedPlace_13 : decode cX2_indexedPlace 13 = .ok (.iload_n 1, 1) := by decide +kernel
theorem dX2_indexedPlace_14 : decode cX2_indexedPlace 14 = .ok (.bipush 15, 2) := by decide +kernel
theorem dX2_indexedPlace_16 : decode cX2_indexedPlace 16 = .ok (.iand, 1) := by decide +kernel
theorem dX2_indexedPlace_17 : decode cX2_indexedPlace 17 = .ok (.iaload, 1) := by decide +kernel
theorem dX2_indexedPlace_18 : decode cX2_indexedPlace 18 = .ok (.istore_n 2, 1) := by decide +kernel
theorem dX2_indexedPlace_19 : decode cX2_indexedPlace 19 = .ok (.aload_n 0, 1) := by decide +kernel
theorem dX2_indexedPlace_20 : decode cX2_indexedPlace 20 = .ok (.getfield 12, 3) := by decide +kernel
theorem dX2_indexedPlace_23 : decode cX2_indexedPlace 23 = .ok (.aload_n 0, 1) := by decide +kernel
theorem dX2_indexedPlace_24 : decode cX2_indexedPlace 24 = .ok (.getfield 16, 3) := by decide +kernel
theorem dX2_indexedPlace_27 : decode cX2_indexedPlace 27 = .ok (.iconst 0, 1) := by decide +kernel
theorem dX2_indexedPlace_28 : decode cX2_indexedPlace 28 = .ok (.iaload, 1) := by decide +kernel
theorem dX2_indexedPlace_29 : decode cX2_indexedPlace 29 = .ok (.invokevirtual 40, 3) := by decide +kernel
theorem dX2_indexedPlace_32 : decode cX2_indexedPlace 32 = .ok (.istore_n 3, 1) := by decide +kernel
theorem dX2_indexedPlace_33 : decode cX2_indexedPlace 33 = .ok (.aload_n 0, 1) := by decide +kernel
theorem dX2_indexedPlace_34 : decode cX2_indexedPlace 34 = .ok (.iconst 0, 1) := by decide +kernel
theorem dX2_indexedPlace_35 : decode cX2_indexedPlace 35 = .ok (.iconst 2, 1) := by decide +kernel
theorem dX2_indexedPlace_36 : decode cX2_indexedPlace 36 = .ok (.invokevirtual 62, 3) := by decide +kernel
theorem dX2_indexedPlace_39 : decode cX2_indexedPlace 39 = .ok (.iload_n 3, 1) := by decide +kernel
theorem dX2_indexedPlace_40 : decode cX2_indexedPlace 40 = .ok (.iload_n 2, 1) := by decide +kernel
theorem dX2_indexedPlace_41 : decode cX2_indexedPlace 41 = .ok (.iadd, 1) := by decide +kernel
theorem dX2_indexedPlace_42 : decode cX2_indexedPlace 42 = .ok (.ldc 149, 2) := by decide +kernel
theorem dX2_indexedPlace_44 : decode cX2_indexedPlace 44 = .ok (.iand, 1) := by decide +kernel
theorem dX2_indexedPlace_45 : decode cX2_indexedPlace 45 = .ok (.ireturn, 1) := by decide +kernel
set_option maxRecDepth 20000 in
theorem ggX2_valueAt_X0_byteAt : GoodIn wsX2_valueAt wsX0_byteAt := goodIn_r _ [8, 9, 10, 11, 6, 12, 13, 14, 15, 16, 17, 18, 19, 20, 21, 22, 23, 24, 25, 26, 27, 28, 29, 30, 31, 32, 33, 34, 39, 40, 41, 42, 43, 44, 45, 46] (by decide +kernel) (by decide +kernel)
set_option maxRecDepth 20000 in
theorem gX2_valueAt_X0_byteAt_n52 : GoodIn wsX2_valueAt (wsX0_byteAt) := ggX2_valueAt_X0_byteAt
set_option maxRecDepth 20000 in
theorem ggX2_valueAt_X0_wordAt : GoodIn wsX2_valueAt wsX0_wordAt := goodIn_r _ [12, 13, 14, 15, 16, 17, 6, 18, 19, 20, 21, 22, 23, 24, 25, 26, 27, 28, 29, 30, 31, 32, 33, 34, 39, 40, 41, 42, 43, 44, 45, 46] (by decide +kernel) (by decide +kernel)
set_option maxRecDepth 20000 in
theorem gX2_valueAt_X0_wordAt_n40 : GoodIn wsX2_valueAt (wsX0_wordAt) := ggX2_valueAt_X0_wordAt
theorem dX2_valueAt_0 : decode cX2_valueAt 0 = .ok (.iload_n 1, 1) := by decide +kernel
theorem dX2_valueAt_1 : decode cX2_valueAt 1 = .ok (.ldc 48, 2) := by decide +kernel
theorem dX2_valueAt_3 : decode cX2_valueAt 3 = .ok (.if_icmp .ge 27, 3) := by decide +kernel
theorem dX2_valueAt_6 : decode cX2_valueAt 6 = .ok (.iload_n 2, 1) := by decide +kernel
theorem dX2_valueAt_7 : decode cX2_valueAt 7 = .ok (.ifCond .eq 14, 3) := by decide +kernel
theorem dX2_valueAt_10 : decode cX2_valueAt 10 = .ok (.aload_n 0, 1) := by decide +kernel
theorem dX2_valueAt_11 : decode cX2_valueAt 11 = .ok (.getfield 12, 3) := by decide +kernel
theorem dX2_valueAt_14 : decode cX2_valueAt 14 = .ok (.iload_n 1, 1) := by decide +kernel
theorem dX2_valueAt_15 : decode cX2_valueAt 15 = .ok (.invokevirtual 52, 3) := by decide +kernel
theorem dX2_valueAt_18 : decode cX2_valueAt 18 = .ok (.goto 11, 3) := by decide +kernel
theorem dX2_valueAt_21 : decode cX2_valueAt 21 = .ok (.aload_n 0, 1) := by decide +kernel
theorem dX2_valueAt_22 : decode cX2_valueAt 22 = .ok (.getfield 12, 3) := by decide +kernel
theorem dX2_valueAt_25 : decode cX2_valueAt 25 = .ok (.iload_n 1, 1) := by decide +kernel
theorem dX2_valueAt_26 : decode cX2_valueAt 26 = .ok (.invokevirtual 40, 3) := by decide +kernel
theorem dX2_valueAt_29 : decode cX2_valueAt 29 = .ok (.ireturn, 1) := by decide +kernel
theorem dX2_valueAt_30 : decode cX2_valueAt 30 = .ok (.iload_n 1, 1) := by decide +kernel
theorem dX2_valueAt_31 : decode cX2_valueAt 31 = .ok (.ldc 148, 2) := by decide +kernel
theorem dX2_valueAt_33 : decode cX2_valueAt 33 = .ok (.if_icmp .ge 15, 3) := by decide +kernel
theorem dX2_valueAt_36 : decode cX2_valueAt 36 = .ok (.aload_n 0, 1) := by decide +kernel
theorem dX2_valueAt_37 : decode cX2_valueAt 37 = .ok (.getfield 16, 3) := by decide +kernel
theorem dX2_valueAt_40 : decode cX2_valueAt 40 = .ok (.iload_n 1, 1) := by decide +kernel
theorem dX2_valueAt_41 : decode cX2_valueAt 41 = .ok (.bipush 15, 2) := by decide +kernel
theorem dX2_valueAt_43 : decode cX2_valueAt 43 = .ok (.iand, 1) := by decide +kernel
theorem dX2_valueAt_44 : decode cX2_valueAt 44 = .ok (.iaload, 1) := by decide +kernel
theorem dX2_valueAt_45 : decode cX2_valueAt 45 = .ok (.goto 7, 3) := by decide +kernel
theorem dX2_valueAt_48 : decode cX2_valueAt 48 = .ok (.iload_n 1, 1) := by decide +kernel
theorem dX2_valueAt_49 : decode cX2_valueAt 49 = .ok (.ldc 148, 2) := by decide +kernel
theorem dX2_valueAt_51 : decode cX2_valueAt 51 = .ok (.isub, 1) := by decide +kernel
theorem dX2_valueAt_52 : decode cX2_valueAt 52 = .ok (.istore_n 3, 1) := by decide +kernel
theorem dX2_valueAt_53 : decode cX2_valueAt 53 = .ok (.iload_n 2, 1) := by decide +kernel
theorem dX2_valueAt_54 : decode cX2_valueAt 54 = .ok (.ifCond .eq 11, 3) := by decide +kernel
theorem dX2_valueAt_57 : decode cX2_valueAt 57 = .ok (.iload_n 3, 1) := by decide +kernel
theorem dX2_valueAt_58 : decode cX2_valueAt 58 = .ok (.sipush 255, 3) := by decide +kernel
theorem dX2_valueAt_61 : decode cX2_valueAt 61 = .ok (.iand, 1) := by decide +kernel
theorem dX2_valueAt_62 : decode cX2_valueAt 62 = .ok (.goto 4, 3) := by decide +kernel
theorem dX2_valueAt_65 : decode cX2_valueAt 65 = .ok (.iload_n 3, 1) := by decide +kernel
theorem dX2_valueAt_66 : decode cX2_valueAt 66 = .ok (.ireturn, 1) := by decide +kernel
set_option maxRecDepth 20000 in
theorem ggX2_put_X2_setRegister : GoodIn wsX2_put wsX2_setRegister := goodIn_r _ [8, 9, 10, 11, 71, 72, 73, 74] (by decide +kernel) (by decide +kernel)
set_option maxRecDepth 20000 in
theorem gX2_put_X2_setRegister : GoodIn wsX2_put (wsV RX2 44 RX2 yX2_setRegister wsX2_setRegister) := goodIn_app (goodIn_of _ (by decide +kernel)) ggX2_put_X2_setRegister
set_option maxRecDepth 20000 in
theorem ggX2_put_X0_writeByte : GoodIn wsX2_put wsX0_writeByte := goodIn_r _ [15, 16, 17, 18, 13, 19, 20, 21, 22, 23, 24, 25, 26, 27, 28, 29, 30, 31, 32, 33, 34, 35, 36, 37, 38, 39, 40, 41, 42, 43, 44, 45, 46, 47, 48, 49, 50, 51, 52, 53, 54, 55, 56, 57, 58, 59, 60, 61, 62, 63, 64, 65, 66, 67, 75, 76, 77, 78, 79, 80, 81, 82] (by decide +kernel) (by decide +kernel)
set_option maxRecDepth 20000 in
theorem gX2_put_X0_writeByte_n153 : GoodIn wsX2_put (wsX0_writeByte) := ggX2_put_X0_writeByte
set_option maxRecDepth 20000 in
theorem ggX2_put_X0_writeWord : GoodIn wsX2_put wsX0_writeWord := goodIn_r _ [70, 16, 17, 18, 13, 19, 20, 32, 33, 34, 56, 36, 57, 58, 59, 60, 47, 48, 49, 39, 40, 41, 42, 43, 61, 62, 63, 64, 65, 66, 67, 50, 51, 52, 53, 30, 54, 55, 44, 45, 46, 31, 75, 76, 77, 78, 79, 80, 81, 82] (by decide +kernel) (by decide +kernel)
set_option maxRecDepth 20000 in
theorem gX2_put_X0_writeWord_n156 : GoodIn wsX2_put (wsX0_writeWord) := ggX2_put_X0_writeWord
