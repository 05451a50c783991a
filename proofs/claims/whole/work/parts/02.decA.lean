theorem dX1_init_0 : decode cX1_init 0 = .ok (.aload_n 0, 1) := by decide +kernel
theorem dX1_init_1 : decode cX1_init 1 = .ok (.invokespecial 3, 3) := by decide +kernel
theorem dX1_init_4 : decode cX1_init 4 = .ok (.aload_n 0, 1) := by decide +kernel
theorem dX1_init_5 : decode cX1_init 5 = .ok (.bipush 32, 2) := by decide +kernel
theorem dX1_init_7 : decode cX1_init 7 = .ok (.newarray .int, 2) := by decide +kernel
theorem dX1_init_9 : decode cX1_init 9 = .ok (.putfield 9, 3) := by decide +kernel
theorem dX1_init_12 : decode cX1_init 12 = .ok (.return_, 1) := by decide +kernel
theorem dX1_isFull_0 : decode cX1_isFull 0 = .ok (.aload_n 0, 1) := by decide +kernel
theorem dX1_isFull_1 : decode cX1_isFull 1 = .ok (.getfield 15, 3) := by decide +kernel
theorem dX1_isFull_4 : decode cX1_isFull 4 = .ok (.bipush 32, 2) := by decide +kernel
theorem dX1_isFull_6 : decode cX1_isFull 6 = .ok (.if_icmp .ne 7, 3) := by decide +kernel
theorem dX1_isFull_9 : decode cX1_isFull 9 = .ok (.iconst 1, 1) := by decide +kernel
theorem dX1_isFull_10 : decode cX1_isFull 10 = .ok (.goto 4, 3) := by decide +kernel
theorem dX1_isFull_13 : decode cX1_isFull 13 = .ok (.iconst 0, 1) := by decide +kernel
theorem dX1_isFull_14 : decode cX1_isFull 14 = .ok (.ireturn, 1) := by decide +kernel
theorem dX1_has_0 : decode cX1_has 0 = .ok (.iload_n 1, 1) := by decide +kernel
theorem dX1_has_1 : decode cX1_has 1 = .ok (.ifCond .lt 15, 3) := by decide +kernel
theorem dX1_has_4 : decode cX1_has 4 = .ok (.iload_n 1, 1) := by decide +kernel
theorem dX1_has_5 : decode cX1_has 5 = .ok (.aload_n 0, 1) := by decide +kernel
theorem dX1_has_6 : decode cX1_has 6 = .ok (.getfield 15, 3) := by decide +kernel
theorem dX1_has_9 : decode cX1_has 9 = .ok (.if_icmp .ge 7, 3) := by decide +kernel
theorem dX1_has_12 : decode cX1_has 12 = .ok (.iconst 1, 1) := by decide +kernel
theorem dX1_has_13 : decode cX1_has 13 = .ok (.goto 4, 3) := by decide +kernel
theorem dX1_has_16 : decode cX1_has 16 = .ok (.iconst 0, 1) := by decide +kernel
theorem dX1_has_17 : decode cX1_has 17 = .ok (.ireturn, 1) := by decide +kernel
theorem dX1_add_0 : decode cX1_add 0 = .ok (.aload_n 0, 1) := by decide +kernel
theorem dX1_add_1 : decode cX1_add 1 = .ok (.getfield 9, 3) := by decide +kernel
theorem dX1_add_4 : decode cX1_add 4 = .ok (.aload_n 0, 1) := by decide +kernel
theorem dX1_add_5 : decode cX1_add 5 = .ok (.getfield 15, 3) := by decide +kernel
theorem dX1_add_8 : decode cX1_add 8 = .ok (.iload_n 1, 1) := by decide +kernel
theorem dX1_add_9 : decode cX1_add 9 = .ok (.iastore, 1) := by decide +kernel
theorem dX1_add_10 : decode cX1_add 10 = .ok (.aload_n 0, 1) := by decide +kernel
theorem dX1_add_11 : decode cX1_add 11 = .ok (.dup, 1) := by decide +kernel
theorem dX1_add_12 : decode cX1_add 12 = .ok (.getfield 15, 3) := by decide +kernel
theorem dX1_add_15 : decode cX1_add 15 = .ok (.iconst 1, 1) := by decide +kernel
theorem dX1_add_16 : decode cX1_add 16 = .ok (.iadd, 1) := by decide +kernel
theorem dX1_add_17 : decode cX1_add 17 = .ok (.putfield 15, 3) := by decide +kernel
theorem dX1_add_20 : decode cX1_add 20 = .ok (.return_, 1) := by decide +kernel
theorem dX2_init_0 : decode cX2_init 0 = .ok (.aload_n 0, 1) := by decide +kernel
theorem dX2_init_1 : decode cX2_init 1 = .ok (.invokespecial 3, 3) := by decide +kernel
theorem dX2_init_4 : decode cX2_init 4 = .ok (.aload_n 0, 1) := by decide +kernel
theorem dX2_init_5 : decode cX2_init 5 = .ok (.bipush 8, 2) := by decide +kernel
theorem dX2_init_7 : decode cX2_init 7 = .ok (.newarray .int, 2) := by decide +kernel
theorem dX2_init_9 : decode cX2_init 9 = .ok (.putfield 9, 3) := by decide +kernel
theorem dX2_init_12 : decode cX2_init 12 = .ok (.aload_n 0, 1) := by decide +kernel
theorem dX2_init_13 : decode cX2_init 13 = .ok (.bipush 16, 2) := by decide +kernel
theorem dX2_init_15 : decode cX2_init 15 = .ok (.newarray .int, 2) := by decide +kernel
theorem dX2_init_17 : decode cX2_init 17 = .ok (.putfield 15, 3) := by decide +kernel
theorem dX2_init_20 : decode cX2_init 20 = .ok (.return_, 1) := by decide +kernel
theorem dX2_begin_0 : decode cX2_begin 0 = .ok (.aload_n 0, 1) := by decide +kernel
theorem dX2_begin_1 : decode cX2_begin 1 = .ok (.getfield 9, 3) := by decide +kernel
theorem dX2_begin_4 : decode cX2_begin 4 = .ok (.iconst 0, 1) := by decide +kernel
theorem dX2_begin_5 : decode cX2_begin 5 = .ok (.invokestatic 18, 3) := by decide +kernel
theorem dX2_begin_8 : decode cX2_begin 8 = .ok (.aload_n 0, 1) := by decide +kernel
theorem dX2_begin_9 : decode cX2_begin 9 = .ok (.iconst 0, 1) := by decide +kernel
theorem dX2_begin_10 : decode cX2_begin 10 = .ok (.putfield 24, 3) := by decide +kernel
theorem dX2_begin_13 : decode cX2_begin 13 = .ok (.aload_n 0, 1) := by decide +kernel
theorem dX2_begin_14 : decode cX2_begin 14 = .ok (.aload_n 1, 1) := by decide +kernel
theorem dX2_begin_15 : decode cX2_begin 15 = .ok (.getfield 28, 3) := by decide +kernel
theorem dX2_begin_18 : decode cX2_begin 18 = .ok (.putfield 33, 3) := by decide +kernel
theorem dX2_begin_21 : decode cX2_begin 21 = .ok (.aload_n 0, 1) := by decide +kernel
theorem dX2_begin_22 : decode cX2_begin 22 = .ok (.aload_n 1, 1) := by decide +kernel
theorem dX2_begin_23 : decode cX2_begin 23 = .ok (.getfield 34, 3) := by decide +kernel
theorem dX2_begin_26 : decode cX2_begin 26 = .ok (.putfield 37, 3) := by decide +kernel
theorem dX2_begin_29 : decode cX2_begin 29 = .ok (.aload_n 0, 1) := by decide +kernel
theorem dX2_begin_30 : decode cX2_begin 30 = .ok (.sipush (-1024), 3) := by decide +kernel
theorem dX2_begin_33 : decode cX2_begin 33 = .ok (.putfield 40, 3) := by decide +kernel
theorem dX2_begin_36 : decode cX2_begin 36 = .ok (.return_, 1) := by decide +kernel
theorem dX2_hasRoom_0 : decode cX2_hasRoom 0 = .ok (.aload_n 0, 1) := by decide +kernel
theorem dX2_hasRoom_1 : decode cX2_hasRoom 1 = .ok (.getfield 24, 3) := by decide +kernel
theorem dX2_hasRoom_4 : decode cX2_hasRoom 4 = .ok (.iload_n 1, 1) := by decide +kernel
theorem dX2_hasRoom_5 : decode cX2_hasRoom 5 = .ok (.iadd, 1) := by decide +kernel
theorem dX2_hasRoom_6 : decode cX2_hasRoom 6 = .ok (.bipush 16, 2) := by decide +kernel
theorem dX2_hasRoom_8 : decode cX2_hasRoom 8 = .ok (.if_icmp .gt 7, 3) := by decide +kernel
theorem dX2_hasRoom_11 : decode cX2_hasRoom 11 = .ok (.iconst 1, 1) := by decide +kernel
theorem dX2_hasRoom_12 : decode cX2_hasRoom 12 = .ok (.goto 4, 3) := by decide +kernel
theorem dX2_hasRoom_15 : decode cX2_hasRoom 15 = .ok (.iconst 0, 1) := by decide +kernel
theorem dX2_hasRoom_16 : decode cX2_hasRoom 16 = .ok (.ireturn, 1) := by decide +kernel
theorem dX2_push_0 : decode cX2_push 0 = .ok (.aload_n 0, 1) := by decide +kernel
theorem dX2_push_1 : decode cX2_push 1 = .ok (.getfield 15, 3) := by decide +kernel
theorem dX2_push_4 : decode cX2_push 4 = .ok (.aload_n 0, 1) := by decide +kernel
theorem dX2_push_5 : decode cX2_push 5 = .ok (.getfield 24, 3) := by decide +kernel
theorem dX2_push_8 : decode cX2_push 8 = .ok (.iload_n 1, 1) := by decide +kernel
theorem dX2_push_9 : decode cX2_push 9 = .ok (.i2s, 1) := by decide +kernel
theorem dX2_push_10 : decode cX2_push 10 = .ok (.iastore, 1) := by decide +kernel
theorem dX2_push_11 : decode cX2_push 11 = .ok (.aload_n 0, 1) := by decide +kernel
theorem dX2_push_12 : decode cX2_push 12 = .ok (.dup, 1) := by decide +kernel
theorem dX2_push_13 : decode cX2_push 13 = .ok (.getfield 24, 3) := by decide +kernel
theorem dX2_push_16 : decode cX2_push 16 = .ok (.iconst 1, 1) := by decide +kernel
theorem dX2_push_17 : decode cX2_push 17 = .ok (.iadd, 1) := by decide +kernel
theorem dX2_push_18 : decode cX2_push 18 = .ok (.putfield 24, 3) := by decide +kernel
theorem dX2_push_21 : decode cX2_push 21 = .ok (.return_, 1) := by decide +kernel
theorem dX2_pop_0 : decode cX2_pop 0 = .ok (.aload_n 0, 1) := by decide +kernel
theorem dX2_pop_1 : decode cX2_pop 1 = .ok (.dup, 1) := by decide +kernel
theorem dX2_pop_2 : decode cX2_pop 2 = .ok (.getfield 24, 3) := by decide +kernel
theorem dX2_pop_5 : decode cX2_pop 5 = .ok (.iconst 1, 1) := by decide +kernel
theorem dX2_pop_6 : decode cX2_pop 6 = .ok (.isub, 1) := by decide +kernel
theorem dX2_pop_7 : decode cX2_pop 7 = .ok (.putfield 24, 3) := by decide +kernel
theorem dX2_pop_10 : decode cX2_pop 10 = .ok (.aload_n 0, 1) := by decide +kernel
theorem dX2_pop_11 : decode cX2_pop 11 = .ok (.getfield 15, 3) := by decide +kernel
theorem dX2_pop_14 : decode cX2_pop 14 = .ok (.aload_n 0, 1) := by decide +kernel
theorem dX2_pop_15 : decode cX2_pop 15 = .ok (.getfield 24, 3) := by decide +kernel
theorem dX2_pop_18 : decode cX2_pop 18 = .ok (.iaload, 1) := by decide +kernel
theorem dX2_pop_19 : decode cX2_pop 19 = .ok (.ireturn, 1) := by decide +kernel
theorem dX2_top_0 : decode cX2_top 0 = .ok (.aload_n 0, 1) := by decide +kernel
theorem dX2_top_1 : decode cX2_top 1 = .ok (.getfield 15, 3) := by decide +kernel
theorem dX2_top_4 : decode cX2_top 4 = .ok (.aload_n 0, 1) := by decide +kernel
theorem dX2_top_5 : decode cX2_top 5 = .ok (.getfield 24, 3) := by decide +kernel
theorem dX2_top_8 : decode cX2_top 8 = .ok (.iconst 1, 1) := by decide +kernel
theorem dX2_top_9 : decode cX2_top 9 = .ok (.isub, 1) := by decide +kernel
theorem dX2_top_10 : decode cX2_top 10 = .ok (.iaload, 1) := by decide +kernel
theorem dX2_top_11 : decode cX2_top 11 = .ok (.ireturn, 1) := by decide +kernel
theorem dX2_addToLocal_0 : decode cX2_addToLocal 0 = .ok (.aload_n 0, 1) := by decide +kernel
theorem dX2_addToLocal_1 : decode cX2_addToLocal 1 = .ok (.getfield 9, 3) := by decide +kernel
theorem dX2_addToLocal_4 : decode cX2_addToLocal 4 = .ok (.iload_n 1, 1) := by decide +kernel
theorem dX2_addToLocal_5 : decode cX2_addToLocal 5 = .ok (.aload_n 0, 1) := by decide +kernel
theorem dX2_addToLocal_6 : decode cX2_addToLocal 6 = .ok (.getfield 9, 3) := by decide +kernel
theorem dX2_addToLocal_9 : decode cX2_addToLocal 9 = .ok (.iload_n 1, 1) := by decide +kernel
theorem dX2_addToLocal_10 : decode cX2_addToLocal 10 = .ok (.iaload, 1) := by decide +kernel
theorem dX2_addToLocal_11 : decode cX2_addToLocal 11 = .ok (.iload_n 2, 1) := by decide +kernel
theorem dX2_addToLocal_12 : decode cX2_addToLocal 12 = .ok (.iadd, 1) := by decide +kernel
theorem dX2_addToLocal_13 : decode cX2_addToLocal 13 = .ok (.i2s, 1) := by decide +kernel
theorem dX2_addToLocal_14 : decode cX2_addToLocal 14 = .ok (.iastore, 1) := by decide +kernel
theorem dX2_addToLocal_15 : decode cX2_addToLocal 15 = .ok (.return_, 1) := by decide +kernel
theorem dX2_handle_0 : decode cX2_handle 0 = .ok (.aload_n 0, 1) := by decide +kernel
theorem dX2_handle_1 : decode cX2_handle 1 = .ok (.iconst 0, 1) := by decide +kernel
theorem dX2_handle_2 : decode cX2_handle 2 = .ok (.putfield 24, 3) := by decide +kernel
theorem dX2_handle_5 : decode cX2_handle 5 = .ok (.aload_n 0, 1) := by decide +kernel
theorem dX2_handle_6 : decode cX2_handle 6 = .ok (.iload_n 1, 1) := by decide +kernel
theorem dX2_handle_7 : decode cX2_handle 7 = .ok (.invokevirtual 43, 3) := by decide +kernel
theorem dX2_handle_10 : decode cX2_handle 10 = .ok (.aload_n 0, 1) := by decide +kernel
theorem dX2_handle_11 : decode cX2_handle 11 = .ok (.aload_n 0, 1) := by decide +kernel
theorem dX2_handle_12 : decode cX2_handle 12 = .ok (.getfield 40, 3) := by decide +kernel
theorem dX2_handle_15 : decode cX2_handle 15 = .ok (.putfield 37, 3) := by decide +kernel
theorem dX2_handle_18 : decode cX2_handle 18 = .ok (.aload_n 0, 1) := by decide +kernel
theorem dX2_handle_19 : decode cX2_handle 19 = .ok (.sipush (-1024), 3) := by decide +kernel
theorem dX2_handle_22 : decode cX2_handle 22 = .ok (.putfield 40, 3) := by decide +kernel
theorem dX2_handle_25 : decode cX2_handle 25 = .ok (.return_, 1) := by decide +kernel
theorem dX3_init_0 : decode cX3_init 0 = .ok (.aload_n 0, 1) := by decide +kernel
theorem dX3_init_1 : decode cX3_init 1 = .ok (.invokespecial 1, 3) := by decide +kernel
theorem dX3_init_4 : decode cX3_init 4 = .ok (.return_, 1) := by decide +kernel
theorem dX5_init_0 : decode cX5_init 0 = .ok (.aload_n 0, 1) := by decide +kernel
theorem dX5_init_1 : decode cX5_init 1 = .ok (.invokespecial 3, 3) := by decide +kernel
theorem dX5_init_4 : decode cX5_init 4 = .ok (.aload_n 0, 1) := by decide +kernel
theorem dX5_init_5 : decode cX5_init 5 = .ok (.iconst 1, 1) := by decide +kernel
theorem dX5_init_6 : decode cX5_init 6 = .ok (.putfield 9, 3) := by decide +kernel
theorem dX5_init_9 : decode cX5_init 9 = .ok (.aload_n 0, 1) := by decide +kernel
theorem dX5_init_10 : decode cX5_init 10 = .ok (.iconst (-1), 1) := by decide +kernel
theorem dX5_init_11 : decode cX5_init 11 = .ok (.putfield 15, 3) := by decide +kernel
theorem dX5_init_14 : decode cX5_init 14 = .ok (.return_, 1) := by decide +kernel
theorem dX5_setTear_0 : decode cX5_setTear 0 = .ok (.aload_n 0, 1) := by decide +kernel
theorem dX5_setTear_1 : decode cX5_setTear 1 = .ok (.iload_n 1, 1) := by decide +kernel
theorem dX5_setTear_2 : decode cX5_setTear 2 = .ok (.ifCond .ge 7, 3) := by decide +kernel
theorem dX5_setTear_5 : decode cX5_setTear 5 = .ok (.iconst (-1), 1) := by decide +kernel
theorem dX5_setTear_6 : decode cX5_setTear 6 = .ok (.goto 4, 3) := by decide +kernel
theorem dX5_setTear_9 : decode cX5_setTear 9 = .ok (.iload_n 1, 1) := by decide +kernel
theorem dX5_setTear_10 : decode cX5_setTear 10 = .ok (.putfield 15, 3) := by decide +kernel
theorem dX5_setTear_13 : decode cX5_setTear 13 = .ok (.return_, 1) := by decide +kernel
theorem dX5_lastsForWrite_0 : decode cX5_lastsForWrite 0 = .ok (.aload_n 0, 1) := by decide +kernel
theorem dX5_lastsForWrite_1 : decode cX5_lastsForWrite 1 = .ok (.getfield 15, 3) := by decide +kernel
theorem dX5_lastsForWrite_4 : decode cX5_lastsForWrite 4 = .ok (.ifCond .ne 16, 3) := by decide +kernel
theorem dX5_lastsForWrite_7 : decode cX5_lastsForWrite 7 = .ok (.aload_n 0, 1) := by decide +kernel
theorem dX5_lastsForWrite_8 : decode cX5_lastsForWrite 8 = .ok (.iconst (-1), 1) := by decide +kernel
theorem dX5_lastsForWrite_9 : decode cX5_lastsForWrite 9 = .ok (.putfield 15, 3) := by decide +kernel
theorem dX5_lastsForWrite_12 : decode cX5_lastsForWrite 12 = .ok (.aload_n 0, 1) := by decide +kernel
theorem dX5_lastsForWrite_13 : decode cX5_lastsForWrite 13 = .ok (.iconst 0, 1) := by decide +kernel
theorem dX5_lastsForWrite_14 : decode cX5_lastsForWrite 14 = .ok (.putfield 9, 3) := by decide +kernel
theorem dX5_lastsForWrite_17 : decode cX5_lastsForWrite 17 = .ok (.goto 20, 3) := by decide +kernel
theorem dX5_lastsForWrite_20 : decode cX5_lastsForWrite 20 = .ok (.aload_n 0, 1) := by decide +kernel
theorem dX5_lastsForWrite_21 : decode cX5_lastsForWrite 21 = .ok (.getfield 15, 3) := by decide +kernel
theorem dX5_lastsForWrite_24 : decode cX5_lastsForWrite 24 = .ok (.ifCond .le 13, 3) := by decide +kernel
theorem dX5_lastsForWrite_27 : decode cX5_lastsForWrite 27 = .ok (.aload_n 0, 1) := by decide +kernel
theorem dX5_lastsForWrite_28 : decode cX5_lastsForWrite 28 = .ok (.dup, 1) := by decide +kernel
theorem dX5_lastsForWrite_29 : decode cX5_lastsForWrite 29 = .ok (.getfield 15, 3) := by decide +kernel
theorem dX5_lastsForWrite_32 : decode cX5_lastsForWrite 32 = .ok (.iconst 1, 1) := by decide +kernel
theorem dX5_lastsForWrite_33 : decode cX5_lastsForWrite 33 = .ok (.isub, 1) := by decide +kernel
theorem dX5_lastsForWrite_34 : decode cX5_lastsForWrite 34 = .ok (.putfield 15, 3) := by decide +kernel
theorem dX5_lastsForWrite_37 : decode cX5_lastsForWrite 37 = .ok (.aload_n 0, 1) := by decide +kernel
theorem dX5_lastsForWrite_38 : decode cX5_lastsForWrite 38 = .ok (.getfield 9, 3) := by decide +kernel
theorem dX5_lastsForWrite_41 : decode cX5_lastsForWrite 41 = .ok (.ireturn, 1) := by decide +kernel
theorem dX7_init_0 : decode cX7_init 0 = .ok (.aload_n 0, 1) := by decide +kernel
theorem dX7_init_1 : decode cX7_init 1 = .ok (.invokespecial 3, 3) := by decide +kernel
theorem dX7_init_4 : decode cX7_init 4 = .ok (.aload_n 0, 1) := by decide +kernel
theorem dX7_init_5 : decode cX7_init 5 = .ok (.new 9, 3) := by decide +kernel
theorem dX7_init_8 : decode cX7_init 8 = .ok (.dup, 1) := by decide +kernel
theorem dX7_init_9 : decode cX7_init 9 = .ok (.invokespecial 11, 3) := by decide +kernel
theorem dX7_init_12 : decode cX7_init 12 = .ok (.putfield 12, 3) := by decide +kernel
theorem dX7_init_15 : decode cX7_init 15 = .ok (.aload_n 0, 1) := by decide +kernel
theorem dX7_init_16 : decode cX7_init 16 = .ok (.bipush 41, 2) := by decide +kernel
theorem dX7_init_18 : decode cX7_init 18 = .ok (.newarray .int, 2) := by decide +kernel
theorem dX7_init_20 : decode cX7_init 20 = .ok (.putfield 18, 3) := by decide +kernel
theorem dX7_init_23 : decode cX7_init 23 = .ok (.aload_n 0, 1) := by decide +kernel
theorem dX7_init_24 : decode cX7_init 24 = .ok (.bipush 41, 2) := by decide +kernel
theorem dX7_init_26 : decode cX7_init 26 = .ok (.newarray .int, 2) := by decide +kernel
theorem dX7_init_28 : decode cX7_init 28 = .ok (.putfield 22, 3) := by decide +kernel
theorem dX7_init_31 : decode cX7_init 31 = .ok (.aload_n 0, 1) := by decide +kernel
theorem dX7_init_32 : decode cX7_init 32 = .ok (.bipush 41, 2) := by decide +kernel
theorem dX7_init_34 : decode cX7_init 34 = .ok (.newarray .int, 2) := by decide +kernel
theorem dX7_init_36 : decode cX7_init 36 = .ok (.putfield 25, 3) := by decide +kernel
theorem dX7_init_39 : decode cX7_init 39 = .ok (.aload_n 0, 1) := by decide +kernel
theorem dX7_init_40 : decode cX7_init 40 = .ok (.bipush 41, 2) := by decide +kernel
theorem dX7_init_42 : decode cX7_init 42 = .ok (.newarray .int, 2) := by decide +kernel
theorem dX7_init_44 : decode cX7_init 44 = .ok (.putfield 28, 3) := by decide +kernel
theorem dX7_init_47 : decode cX7_init 47 = .ok (.aload_n 0, 1) := by decide +kernel
theorem dX7_init_48 : decode cX7_init 48 = .ok (.sipush 240, 3) := by decide +kernel
theorem dX7_init_51 : decode cX7_init 51 = .ok (.newarray .int, 2) := by decide +kernel
theorem dX7_init_53 : decode cX7_init 53 = .ok (.putfield 31, 3) := by decide +kernel
theorem dX7_init_56 : decode cX7_init 56 = .ok (.aload_n 0, 1) := by decide +kernel
theorem dX7_init_57 : decode cX7_init 57 = .ok (.bipush 20, 2) := by decide +kernel
theorem dX7_init_59 : decode cX7_init 59 = .ok (.newarray .int, 2) := by decide +kernel
theorem dX7_init_61 : decode cX7_init 61 = .ok (.putfield 34, 3) := by decide +kernel
theorem dX7_init_64 : decode cX7_init 64 = .ok (.aload_n 0, 1) := by decide +kernel
theorem dX7_init_65 : decode cX7_init 65 = .ok (.bipush 20, 2) := by decide +kernel
theorem dX7_init_67 : decode cX7_init 67 = .ok (.newarray .int, 2) := by decide +kernel
theorem dX7_init_69 : decode cX7_init 69 = .ok (.putfield 37, 3) := by decide +kernel
theorem dX7_init_72 : decode cX7_init 72 = .ok (.iconst 0, 1) := by decide +kernel
theorem dX7_init_73 : decode cX7_init 73 = .ok (.istore_n 1, 1) := by decide +kernel
theorem dX7_init_74 : decode cX7_init 74 = .ok (.iload_n 1, 1) := by decide +kernel
theorem dX7_init_75 : decode cX7_init 75 = .ok (.iconst 4, 1) := by decide +kernel
theorem dX7_init_76 : decode cX7_init 76 = .ok (.if_icmp .ge 17, 3) := by decide +kernel
theorem dX7_init_79 : decode cX7_init 79 = .ok (.aload_n 0, 1) := by decide +kernel
theorem dX7_init_80 : decode cX7_init 80 = .ok (.iload_n 1, 1) := by decide +kernel
theorem dX7_init_81 : decode cX7_init 81 = .ok (.iconst 0, 1) := by decide +kernel
theorem dX7_init_82 : decode cX7_init 82 = .ok (.bipush 8, 2) := by decide +kernel
theorem dX7_init_84 : decode cX7_init 84 = .ok (.invokevirtual 40, 3) := by decide +kernel
theorem dX7_init_87 : decode cX7_init 87 = .ok (.iinc 1 1, 3) := by decide +kernel
theorem dX7_init_90 : decode cX7_init 90 = .ok (.goto (-16), 3) := by decide +kernel
theorem dX7_init_93 : decode cX7_init 93 = .ok (.return_, 1) := by decide +kernel
theorem dX7_has_0 : decode cX7_has 0 = .ok (.iload_n 1, 1) := by decide +kernel
theorem dX7_has_1 : decode cX7_has 1 = .ok (.iconst 1, 1) := by decide +kernel
theorem dX7_has_2 : decode cX7_has 2 = .ok (.if_icmp .lt 15, 3) := by decide +kernel
theorem dX7_has_5 : decode cX7_has 5 = .ok (.iload_n 1, 1) := by decide +kernel
theorem dX7_has_6 : decode cX7_has 6 = .ok (.aload_n 0, 1) := by decide +kernel
theorem dX7_has_7 : decode cX7_has 7 = .ok (.getfield 44, 3) := by decide +kernel
theorem dX7_has_10 : decode cX7_has 10 = .ok (.if_icmp .gt 7, 3) := by decide +kernel
theorem dX7_has_13 : decode cX7_has 13 = .ok (.iconst 1, 1) := by decide +kernel
theorem dX7_has_14 : decode cX7_has 14 = .ok (.goto 4, 3) := by decide +kernel
theorem dX7_has_17 : decode cX7_has 17 = .ok (.iconst 0, 1) := by decide +kernel
theorem dX7_has_18 : decode cX7_has 18 = .ok (.ireturn, 1) := by decide +kernel
theorem dX7_hasCells_0 : decode cX7_hasCells 0 = .ok (.iload_n 2, 1) := by decide +kernel
theorem dX7_hasCells_1 : decode cX7_hasCells 1 = .ok (.ifCond .lt 19, 3) := by decide +kernel
theorem dX7_hasCells_4 : decode cX7_hasCells 4 = .ok (.iload_n 2, 1) := by decide +kernel
theorem dX7_hasCells_5 : decode cX7_hasCells 5 = .ok (.aload_n 0, 1) := by decide +kernel
theorem dX7_hasCells_6 : decode cX7_hasCells 6 = .ok (.getfield 25, 3) := by decide +kernel
theorem dX7_hasCells_9 : decode cX7_hasCells 9 = .ok (.iload_n 1, 1) := by decide +kernel
theorem dX7_hasCells_10 : decode cX7_hasCells 10 = .ok (.iaload, 1) := by decide +kernel
theorem dX7_hasCells_11 : decode cX7_hasCells 11 = .ok (.iload_n 3, 1) := by decide +kernel
theorem dX7_hasCells_12 : decode cX7_hasCells 12 = .ok (.isub, 1) := by decide +kernel
theorem dX7_hasCells_13 : decode cX7_hasCells 13 = .ok (.if_icmp .gt 7, 3) := by decide +kernel
theorem dX7_hasCells_16 : decode cX7_hasCells 16 = .ok (.iconst 1, 1) := by decide +kernel
theorem dX7_hasCells_17 : decode cX7_hasCells 17 = .ok (.goto 4, 3) := by decide +kernel
theorem dX7_hasCells_20 : decode cX7_hasCells 20 = .ok (.iconst 0, 1) := by decide +kernel
theorem dX7_hasCells_21 : decode cX7_hasCells 21 = .ok (.ireturn, 1) := by decide +kernel
theorem dX7_read_0 : decode cX7_read 0 = .ok (.aload_n 0, 1) := by decide +kernel
theorem dX7_read_1 : decode cX7_read 1 = .ok (.getfield 31, 3) := by decide +kernel
theorem dX7_read_4 : decode cX7_read 4 = .ok (.aload_n 0, 1) := by decide +kernel
theorem dX7_read_5 : decode cX7_read 5 = .ok (.getfield 28, 3) := by decide +kernel
theorem dX7_read_8 : decode cX7_read 8 = .ok (.iload_n 1, 1) := by decide +kernel
theorem dX7_read_9 : decode cX7_read 9 = .ok (.iaload, 1) := by decide +kernel
theorem dX7_read_10 : decode cX7_read 10 = .ok (.iload_n 2, 1) := by decide +kernel
theorem dX7_read_11 : decode cX7_read 11 = .ok (.iadd, 1) := by decide +kernel
theorem dX7_read_12 : decode cX7_read 12 = .ok (.iaload, 1) := by decide +kernel
theorem dX7_read_13 : decode cX7_read 13 = .ok (.ireturn, 1) := by decide +kernel
theorem dX7_cellFault_0 : decode cX7_cellFault 0 = .ok (.aload_n 0, 1) := by decide +kernel
theorem dX7_cellFault_1 : decode cX7_cellFault 1 = .ok (.iload_n 2, 1) := by decide +kernel
theorem dX7_cellFault_2 : decode cX7_cellFault 2 = .ok (.invokevirtual 48, 3) := by decide +kernel
theorem dX7_cellFault_5 : decode cX7_cellFault 5 = .ok (.ifCond .ne 5, 3) := by decide +kernel
theorem dX7_cellFault_8 : decode cX7_cellFault 8 = .ok (.iconst 2, 1) := by decide +kernel
theorem dX7_cellFault_9 : decode cX7_cellFault 9 = .ok (.ireturn, 1) := by decide +kernel
theorem dX7_cellFault_10 : decode cX7_cellFault 10 = .ok (.aload_n 0, 1) := by decide +kernel
theorem dX7_cellFault_11 : decode cX7_cellFault 11 = .ok (.iload_n 1, 1) := by decide +kernel
theorem dX7_cellFault_12 : decode cX7_cellFault 12 = .ok (.iload_n 2, 1) := by decide +kernel
theorem dX7_cellFault_13 : decode cX7_cellFault 13 = .ok (.invokevirtual 52, 3) := by decide +kernel
theorem dX7_cellFault_16 : decode cX7_cellFault 16 = .ok (.ifCond .ne 5, 3) := by decide +kernel
theorem dX7_cellFault_19 : decode cX7_cellFault 19 = .ok (.iconst 4, 1) := by decide +kernel
theorem dX7_cellFault_20 : decode cX7_cellFault 20 = .ok (.ireturn, 1) := by decide +kernel
theorem dX7_cellFault_21 : decode cX7_cellFault 21 = .ok (.aload_n 0, 1) := by decide +kernel
theorem dX7_cellFault_22 : decode cX7_cellFault 22 = .ok (.iload_n 2, 1) := by decide +kernel
theorem dX7_cellFault_23 : decode cX7_cellFault 23 = .ok (.iload_n 3, 1) := by decide +kernel
theorem dX7_cellFault_24 : decode cX7_cellFault 24 = .ok (.iconst 1, 1) := by decide +kernel
theorem dX7_cellFault_25 : decode cX7_cellFault 25 = .ok (.invokevirtual 56, 3) := by decide +kernel
theorem dX7_cellFault_28 : decode cX7_cellFault 28 = .ok (.ifCond .eq 8, 3) := by decide +kernel
theorem dX7_cellFault_31 : decode cX7_cellFault 31 = .ok (.ldc 60, 2) := by decide +kernel
theorem dX7_cellFault_33 : decode cX7_cellFault 33 = .ok (.goto 4, 3) := by decide +kernel
theorem dX7_cellFault_36 : decode cX7_cellFault 36 = .ok (.iconst 3, 1) := by decide +kernel
theorem dX7_cellFault_37 : decode cX7_cellFault 37 = .ok (.ireturn, 1) := by decide +kernel
theorem dX7_thingFault_0 : decode cX7_thingFault 0 = .ok (.aload_n 0, 1) := by decide +kernel
theorem dX7_thingFault_1 : decode cX7_thingFault 1 = .ok (.getfield 61, 3) := by decide +kernel
theorem dX7_thingFault_4 : decode cX7_thingFault 4 = .ok (.ifCond .eq 16, 3) := by decide +kernel
theorem dX7_thingFault_7 : decode cX7_thingFault 7 = .ok (.aload_n 0, 1) := by decide +kernel
theorem dX7_thingFault_8 : decode cX7_thingFault 8 = .ok (.getfield 65, 3) := by decide +kernel
theorem dX7_thingFault_11 : decode cX7_thingFault 11 = .ok (.bipush 20, 2) := by decide +kernel
theorem dX7_thingFault_13 : decode cX7_thingFault 13 = .ok (.if_icmp .ne 7, 3) := by decide +kernel
theorem dX7_thingFault_16 : decode cX7_thingFault 16 = .ok (.iconst 5, 1) := by decide +kernel
theorem dX7_thingFault_17 : decode cX7_thingFault 17 = .ok (.goto 5, 3) := by decide +kernel
theorem dX7_thingFault_20 : decode cX7_thingFault 20 = .ok (.ldc 60, 2) := by decide +kernel
theorem dX7_thingFault_22 : decode cX7_thingFault 22 = .ok (.ireturn, 1) := by decide +kernel
theorem dX7_makeFault_0 : decode cX7_makeFault 0 = .ok (.iload_n 1, 1) := by decide +kernel
theorem dX7_makeFault_1 : decode cX7_makeFault 1 = .ok (.iconst 1, 1) := by decide +kernel
theorem dX7_makeFault_2 : decode cX7_makeFault 2 = .ok (.if_icmp .lt 30, 3) := by decide +kernel
theorem dX7_makeFault_5 : decode cX7_makeFault 5 = .ok (.iload_n 1, 1) := by decide +kernel
theorem dX7_makeFault_6 : decode cX7_makeFault 6 = .ok (.bipush 16, 2) := by decide +kernel
theorem dX7_makeFault_8 : decode cX7_makeFault 8 = .ok (.if_icmp .gt 24, 3) := by decide +kernel
theorem dX7_makeFault_11 : decode cX7_makeFault 11 = .ok (.iload_n 1, 1) := by decide +kernel
theorem dX7_makeFault_12 : decode cX7_makeFault 12 = .ok (.sipush 240, 3) := by decide +kernel
theorem dX7_makeFault_15 : decode cX7_makeFault 15 = .ok (.aload_n 0, 1) := by decide +kernel
theorem dX7_makeFault_16 : decode cX7_makeFault 16 = .ok (.getfield 68, 3) := by decide +kernel
theorem dX7_makeFault_19 : decode cX7_makeFault 19 = .ok (.isub, 1) := by decide +kernel
theorem dX7_makeFault_20 : decode cX7_makeFault 20 = .ok (.if_icmp .gt 12, 3) := by decide +kernel
theorem dX7_makeFault_23 : decode cX7_makeFault 23 = .ok (.aload_n 0, 1) := by decide +kernel
theorem dX7_makeFault_24 : decode cX7_makeFault 24 = .ok (.getfield 44, 3) := by decide +kernel
theorem dX7_makeFault_27 : decode cX7_makeFault 27 = .ok (.bipush 40, 2) := by decide +kernel
theorem dX7_makeFault_29 : decode cX7_makeFault 29 = .ok (.if_icmp .ne 6, 3) := by decide +kernel
theorem dX7_makeFault_32 : decode cX7_makeFault 32 = .ok (.bipush 8, 2) := by decide +kernel
theorem dX7_makeFault_34 : decode cX7_makeFault 34 = .ok (.ireturn, 1) := by decide +kernel
theorem dX7_makeFault_35 : decode cX7_makeFault 35 = .ok (.aload_n 0, 1) := by decide +kernel
theorem dX7_makeFault_36 : decode cX7_makeFault 36 = .ok (.invokevirtual 71, 3) := by decide +kernel
theorem dX7_makeFault_39 : decode cX7_makeFault 39 = .ok (.ireturn, 1) := by decide +kernel
theorem dX7_copyFault_0 : decode cX7_copyFault 0 = .ok (.aload_n 0, 1) := by decide +kernel
theorem dX7_copyFault_1 : decode cX7_copyFault 1 = .ok (.iload_n 2, 1) := by decide +kernel
theorem dX7_copyFault_2 : decode cX7_copyFault 2 = .ok (.invokevirtual 48, 3) := by decide +kernel
theorem dX7_copyFault_5 : decode cX7_copyFault 5 = .ok (.ifCond .eq 12, 3) := by decide +kernel
theorem dX7_copyFault_8 : decode cX7_copyFault 8 = .ok (.aload_n 0, 1) := by decide +kernel
theorem dX7_copyFault_9 : decode cX7_copyFault 9 = .ok (.iload 4, 2) := by decide +kernel
theorem dX7_copyFault_11 : decode cX7_copyFault 11 = .ok (.invokevirtual 48, 3) := by decide +kernel
theorem dX7_copyFault_14 : decode cX7_copyFault 14 = .ok (.ifCond .ne 5, 3) := by decide +kernel
theorem dX7_copyFault_17 : decode cX7_copyFault 17 = .ok (.iconst 2, 1) := by decide +kernel
theorem dX7_copyFault_18 : decode cX7_copyFault 18 = .ok (.ireturn, 1) := by decide +kernel
theorem dX7_copyFault_19 : decode cX7_copyFault 19 = .ok (.aload_n 0, 1) := by decide +kernel
theorem dX7_copyFault_20 : decode cX7_copyFault 20 = .ok (.iload_n 1, 1) := by decide +kernel
theorem dX7_copyFault_21 : decode cX7_copyFault 21 = .ok (.iload_n 2, 1) := by decide +kernel
theorem dX7_copyFault_22 : decode cX7_copyFault 22 = .ok (.invokevirtual 52, 3) := by decide +kernel
theorem dX7_copyFault_25 : decode cX7_copyFault 25 = .ok (.ifCond .eq 13, 3) := by decide +kernel
theorem dX7_copyFault_28 : decode cX7_copyFault 28 = .ok (.aload_n 0, 1) := by decide +kernel
theorem dX7_copyFault_29 : decode cX7_copyFault 29 = .ok (.iload_n 1, 1) := by decide +kernel
theorem dX7_copyFault_30 : decode cX7_copyFault 30 = .ok (.iload 4, 2) := by decide +kernel
theorem dX7_copyFault_32 : decode cX7_copyFault 32 = .ok (.invokevirtual 52, 3) := by decide +kernel
theorem dX7_copyFault_35 : decode cX7_copyFault 35 = .ok (.ifCond .ne 5, 3) := by decide +kernel
theorem dX7_copyFault_38 : decode cX7_copyFault 38 = .ok (.iconst 4, 1) := by decide +kernel
theorem dX7_copyFault_39 : decode cX7_copyFault 39 = .ok (.ireturn, 1) := by decide +kernel
theorem dX7_copyFault_40 : decode cX7_copyFault 40 = .ok (.aload_n 0, 1) := by decide +kernel
theorem dX7_copyFault_41 : decode cX7_copyFault 41 = .ok (.getfield 22, 3) := by decide +kernel
theorem dX7_copyFault_44 : decode cX7_copyFault 44 = .ok (.iload_n 2, 1) := by decide +kernel
theorem dX7_copyFault_45 : decode cX7_copyFault 45 = .ok (.iaload, 1) := by decide +kernel
theorem dX7_copyFault_46 : decode cX7_copyFault 46 = .ok (.iconst 1, 1) := by decide +kernel
theorem dX7_copyFault_47 : decode cX7_copyFault 47 = .ok (.if_icmp .ne 14, 3) := by decide +kernel
theorem dX7_copyFault_50 : decode cX7_copyFault 50 = .ok (.aload_n 0, 1) := by decide +kernel
theorem dX7_copyFault_51 : decode cX7_copyFault 51 = .ok (.getfield 22, 3) := by decide +kernel
theorem dX7_copyFault_54 : decode cX7_copyFault 54 = .ok (.iload 4, 2) := by decide +kernel
theorem dX7_copyFault_56 : decode cX7_copyFault 56 = .ok (.iaload, 1) := by decide +kernel
theorem dX7_copyFault_57 : decode cX7_copyFault 57 = .ok (.iconst 1, 1) := by decide +kernel
theorem dX7_copyFault_58 : decode cX7_copyFault 58 = .ok (.if_icmp .eq 6, 3) := by decide +kernel
theorem dX7_copyFault_61 : decode cX7_copyFault 61 = .ok (.bipush 11, 2) := by decide +kernel
theorem dX7_copyFault_63 : decode cX7_copyFault 63 = .ok (.ireturn, 1) := by decide +kernel
theorem dX7_copyFault_64 : decode cX7_copyFault 64 = .ok (.iload 6, 2) := by decide +kernel
theorem dX7_copyFault_66 : decode cX7_copyFault 66 = .ok (.ifCond .ge 6, 3) := by decide +kernel
theorem dX7_copyFault_69 : decode cX7_copyFault 69 = .ok (.bipush 8, 2) := by decide +kernel
theorem dX7_copyFault_71 : decode cX7_copyFault 71 = .ok (.ireturn, 1) := by decide +kernel
theorem dX7_copyFault_72 : decode cX7_copyFault 72 = .ok (.aload_n 0, 1) := by decide +kernel
theorem dX7_copyFault_73 : decode cX7_copyFault 73 = .ok (.iload_n 2, 1) := by decide +kernel
theorem dX7_copyFault_74 : decode cX7_copyFault 74 = .ok (.iload_n 3, 1) := by decide +kernel
theorem dX7_copyFault_75 : decode cX7_copyFault 75 = .ok (.iload 6, 2) := by decide +kernel
theorem dX7_copyFault_77 : decode cX7_copyFault 77 = .ok (.invokevirtual 56, 3) := by decide +kernel
theorem dX7_copyFault_80 : decode cX7_copyFault 80 = .ok (.ifCond .eq 21, 3) := by decide +kernel
theorem dX7_copyFault_83 : decode cX7_copyFault 83 = .ok (.aload_n 0, 1) := by decide +kernel
theorem dX7_copyFault_84 : decode cX7_copyFault 84 = .ok (.iload 4, 2) := by decide +kernel
theorem dX7_copyFault_86 : decode cX7_copyFault 86 = .ok (.iload 5, 2) := by decide +kernel
theorem dX7_copyFault_88 : decode cX7_copyFault 88 = .ok (.iload 6, 2) := by decide +kernel
theorem dX7_copyFault_90 : decode cX7_copyFault 90 = .ok (.invokevirtual 56, 3) := by decide +kernel
theorem dX7_copyFault_93 : decode cX7_copyFault 93 = .ok (.ifCond .eq 8, 3) := by decide +kernel
theorem dX7_copyFault_96 : decode cX7_copyFault 96 = .ok (.ldc 60, 2) := by decide +kernel
theorem dX7_copyFault_98 : decode cX7_copyFault 98 = .ok (.goto 4, 3) := by decide +kernel
theorem dX7_copyFault_101 : decode cX7_copyFault 101 = .ok (.iconst 3, 1) := by decide +kernel
theorem dX7_copyFault_102 : decode cX7_copyFault 102 = .ok (.ireturn, 1) := by decide +kernel
theorem dX7_write_0 : decode cX7_write 0 = .ok (.aload_n 0, 1) := by decide +kernel
theorem dX7_write_1 : decode cX7_write 1 = .ok (.getfield 12, 3) := by decide +kernel
theorem dX7_write_4 : decode cX7_write 4 = .ok (.invokevirtual 75, 3) := by decide +kernel
theorem dX7_write_7 : decode cX7_write 7 = .ok (.ifCond .ne 4, 3) := by decide +kernel
theorem dX7_write_10 : decode cX7_write 10 = .ok (.return_, 1) := by decide +kernel
theorem dX7_write_11 : decode cX7_write 11 = .ok (.aload_n 0, 1) := by decide +kernel
theorem dX7_write_12 : decode cX7_write 12 = .ok (.getfield 28, 3) := by decide +kernel
theorem dX7_write_15 : decode cX7_write 15 = .ok (.iload_n 1, 1) := by decide +kernel
theorem dX7_write_16 : decode cX7_write 16 = .ok (.iaload, 1) := by decide +kernel
theorem dX7_write_17 : decode cX7_write 17 = .ok (.iload_n 2, 1) := by decide +kernel
theorem dX7_write_18 : decode cX7_write 18 = .ok (.iadd, 1) := by decide +kernel
theorem dX7_write_19 : decode cX7_write 19 = .ok (.istore 4, 2) := by decide +kernel
theorem dX7_write_21 : decode cX7_write 21 = .ok (.aload_n 0, 1) := by decide +kernel
theorem dX7_write_22 : decode cX7_write 22 = .ok (.getfield 61, 3) := by decide +kernel
theorem dX7_write_25 : decode cX7_write 25 = .ok (.ifCond .eq 50, 3) := by decide +kernel
theorem dX7_write_28 : decode cX7_write 28 = .ok (.aload_n 0, 1) := by decide +kernel
theorem dX7_write_29 : decode cX7_write 29 = .ok (.getfield 34, 3) := by decide +kernel
theorem dX7_write_32 : decode cX7_write 32 = .ok (.aload_n 0, 1) := by decide +kernel
theorem dX7_write_33 : decode cX7_write 33 = .ok (.getfield 79, 3) := by decide +kernel
theorem dX7_write_36 : decode cX7_write 36 = .ok (.iload 4, 2) := by decide +kernel
theorem dX7_write_38 : decode cX7_write 38 = .ok (.iastore, 1) := by decide +kernel
theorem dX7_write_39 : decode cX7_write 39 = .ok (.aload_n 0, 1) := by decide +kernel
theorem dX7_write_40 : decode cX7_write 40 = .ok (.getfield 37, 3) := by decide +kernel
theorem dX7_write_43 : decode cX7_write 43 = .ok (.aload_n 0, 1) := by decide +kernel
theorem dX7_write_44 : decode cX7_write 44 = .ok (.getfield 79, 3) := by decide +kernel
theorem dX7_write_47 : decode cX7_write 47 = .ok (.aload_n 0, 1) := by decide +kernel
theorem dX7_write_48 : decode cX7_write 48 = .ok (.getfield 31, 3) := by decide +kernel
theorem dX7_write_51 : decode cX7_write 51 = .ok (.iload 4, 2) := by decide +kernel
theorem dX7_write_53 : decode cX7_write 53 = .ok (.iaload, 1) := by decide +kernel
theorem dX7_write_54 : decode cX7_write 54 = .ok (.iastore, 1) := by decide +kernel
theorem dX7_write_55 : decode cX7_write 55 = .ok (.aload_n 0, 1) := by decide +kernel
theorem dX7_write_56 : decode cX7_write 56 = .ok (.dup, 1) := by decide +kernel
theorem dX7_write_57 : decode cX7_write 57 = .ok (.getfield 79, 3) := by decide +kernel
theorem dX7_write_60 : decode cX7_write 60 = .ok (.iconst 1, 1) := by decide +kernel
theorem dX7_write_61 : decode cX7_write 61 = .ok (.iadd, 1) := by decide +kernel
theorem dX7_write_62 : decode cX7_write 62 = .ok (.putfield 79, 3) := by decide +kernel
theorem dX7_write_65 : decode cX7_write 65 = .ok (.aload_n 0, 1) := by decide +kernel
theorem dX7_write_66 : decode cX7_write 66 = .ok (.dup, 1) := by decide +kernel
theorem dX7_write_67 : decode cX7_write 67 = .ok (.getfield 65, 3) := by decide +kernel
theorem dX7_write_70 : decode cX7_write 70 = .ok (.iconst 1, 1) := by decide +kernel
theorem dX7_write_71 : decode cX7_write 71 = .ok (.iadd, 1) := by decide +kernel
theorem dX7_write_72 : decode cX7_write 72 = .ok (.putfield 65, 3) := by decide +kernel
theorem dX7_write_75 : decode cX7_write 75 = .ok (.aload_n 0, 1) := by decide +kernel
theorem dX7_write_76 : decode cX7_write 76 = .ok (.getfield 31, 3) := by decide +kernel
theorem dX7_write_79 : decode cX7_write 79 = .ok (.iload 4, 2) := by decide +kernel
theorem dX7_write_81 : decode cX7_write 81 = .ok (.aload_n 0, 1) := by decide +kernel
theorem dX7_write_82 : decode cX7_write 82 = .ok (.getfield 22, 3) := by decide +kernel
theorem dX7_write_85 : decode cX7_write 85 = .ok (.iload_n 1, 1) := by decide +kernel
theorem dX7_write_86 : decode cX7_write 86 = .ok (.iaload, 1) := by decide +kernel
theorem dX7_write_87 : decode cX7_write 87 = .ok (.iconst 1, 1) := by decide +kernel
theorem dX7_write_88 : decode cX7_write 88 = .ok (.if_icmp .ne 8, 3) := by decide +kernel
theorem dX7_write_91 : decode cX7_write 91 = .ok (.iload_n 3, 1) := by decide +kernel
theorem dX7_write_92 : decode cX7_write 92 = .ok (.i2b, 1) := by decide +kernel
theorem dX7_write_93 : decode cX7_write 93 = .ok (.goto 4, 3) := by decide +kernel
theorem dX7_write_96 : decode cX7_write 96 = .ok (.iload_n 3, 1) := by decide +kernel
theorem dX7_write_97 : decode cX7_write 97 = .ok (.iastore, 1) := by decide +kernel
theorem dX7_write_98 : decode cX7_write 98 = .ok (.return_, 1) := by decide +kernel
theorem dX7_make_0 : decode cX7_make 0 = .ok (.aload_n 0, 1) := by decide +kernel
theorem dX7_make_1 : decode cX7_make 1 = .ok (.getfield 12, 3) := by decide +kernel
theorem dX7_make_4 : decode cX7_make 4 = .ok (.invokevirtual 75, 3) := by decide +kernel
theorem dX7_make_7 : decode cX7_make 7 = .ok (.ifCond .ne 5, 3) := by decide +kernel
theorem dX7_make_10 : decode cX7_make 10 = .ok (.iconst 0, 1) := by decide +kernel
theorem dX7_make_11 : decode cX7_make 11 = .ok (.ireturn, 1) := by decide +kernel
theorem dX7_make_12 : decode cX7_make 12 = .ok (.aload_n 0, 1) := by decide +kernel
theorem dX7_make_13 : decode cX7_make 13 = .ok (.getfield 61, 3) := by decide +kernel
theorem dX7_make_16 : decode cX7_make 16 = .ok (.ifCond .eq 13, 3) := by decide +kernel
theorem dX7_make_19 : decode cX7_make 19 = .ok (.aload_n 0, 1) := by decide +kernel
theorem dX7_make_20 : decode cX7_make 20 = .ok (.dup, 1) := by decide +kernel
theorem dX7_make_21 : decode cX7_make 21 = .ok (.getfield 65, 3) := by decide +kernel
theorem dX7_make_24 : decode cX7_make 24 = .ok (.iconst 1, 1) := by decide +kernel
theorem dX7_make_25 : decode cX7_make 25 = .ok (.iadd, 1) := by decide +kernel
theorem dX7_make_26 : decode cX7_make 26 = .ok (.putfield 65, 3) := by decide +kernel
theorem dX7_make_29 : decode cX7_make 29 = .ok (.aload_n 0, 1) := by decide +kernel
theorem dX7_make_30 : decode cX7_make 30 = .ok (.iload_n 1, 1) := by decide +kernel
theorem dX7_make_31 : decode cX7_make 31 = .ok (.iload_n 2, 1) := by decide +kernel
theorem dX7_make_32 : decode cX7_make 32 = .ok (.iload_n 3, 1) := by decide +kernel
theorem dX7_make_33 : decode cX7_make 33 = .ok (.invokevirtual 40, 3) := by decide +kernel
theorem dX7_make_36 : decode cX7_make 36 = .ok (.aload_n 0, 1) := by decide +kernel
theorem dX7_make_37 : decode cX7_make 37 = .ok (.getfield 44, 3) := by decide +kernel
theorem dX7_make_40 : decode cX7_make 40 = .ok (.ireturn, 1) := by decide +kernel
theorem dX7_copy_0 : decode cX7_copy 0 = .ok (.aload_n 0, 1) := by decide +kernel
theorem dX7_copy_1 : decode cX7_copy 1 = .ok (.getfield 28, 3) := by decide +kernel
theorem dX7_copy_4 : decode cX7_copy 4 = .ok (.iload_n 1, 1) := by decide +kernel
theorem dX7_copy_5 : decode cX7_copy 5 = .ok (.iaload, 1) := by decide +kernel
theorem dX7_copy_6 : decode cX7_copy 6 = .ok (.iload_n 2, 1) := by decide +kernel
theorem dX7_copy_7 : decode cX7_copy 7 = .ok (.iadd, 1) := by decide +kernel
theorem dX7_copy_8 : decode cX7_copy 8 = .ok (.istore 6, 2) := by decide +kernel
theorem dX7_copy_10 : decode cX7_copy 10 = .ok (.aload_n 0, 1) := by decide +kernel
theorem dX7_copy_11 : decode cX7_copy 11 = .ok (.getfield 28, 3) := by decide +kernel
theorem dX7_copy_14 : decode cX7_copy 14 = .ok (.iload_n 3, 1) := by decide +kernel
theorem dX7_copy_15 : decode cX7_copy 15 = .ok (.iaload, 1) := by decide +kernel
theorem dX7_copy_16 : decode cX7_copy 16 = .ok (.iload 4, 2) := by decide +kernel
theorem dX7_copy_18 : decode cX7_copy 18 = .ok (.iadd, 1) := by decide +kernel
theorem dX7_copy_19 : decode cX7_copy 19 = .ok (.istore 7, 2) := by decide +kernel
theorem dX7_copy_21 : decode cX7_copy 21 = .ok (.iconst 0, 1) := by decide +kernel
theorem dX7_copy_22 : decode cX7_copy 22 = .ok (.istore 8, 2) := by decide +kernel
theorem dX7_copy_24 : decode cX7_copy 24 = .ok (.iload 8, 2) := by decide +kernel
theorem dX7_copy_26 : decode cX7_copy 26 = .ok (.iload 5, 2) := by decide +kernel
theorem dX7_copy_28 : decode cX7_copy 28 = .ok (.if_icmp .ge 39, 3) := by decide +kernel
theorem dX7_copy_31 : decode cX7_copy 31 = .ok (.aload_n 0, 1) := by decide +kernel
theorem dX7_copy_32 : decode cX7_copy 32 = .ok (.getfield 12, 3) := by decide +kernel
theorem dX7_copy_35 : decode cX7_copy 35 = .ok (.invokevirtual 75, 3) := by decide +kernel
theorem dX7_copy_38 : decode cX7_copy 38 = .ok (.ifCond .eq 29, 3) := by decide +kernel
theorem dX7_copy_41 : decode cX7_copy 41 = .ok (.aload_n 0, 1) := by decide +kernel
theorem dX7_copy_42 : decode cX7_copy 42 = .ok (.getfield 31, 3) := by decide +kernel
theorem dX7_copy_45 : decode cX7_copy 45 = .ok (.iload 7, 2) := by decide +kernel
theorem dX7_copy_47 : decode cX7_copy 47 = .ok (.iload 8, 2) := by decide +kernel
theorem dX7_copy_49 : decode cX7_copy 49 = .ok (.iadd, 1) := by decide +kernel
theorem dX7_copy_50 : decode cX7_copy 50 = .ok (.aload_n 0, 1) := by decide +kernel
theorem dX7_copy_51 : decode cX7_copy 51 = .ok (.getfield 31, 3) := by decide +kernel
theorem dX7_copy_54 : decode cX7_copy 54 = .ok (.iload 6, 2) := by decide +kernel
theorem dX7_copy_56 : decode cX7_copy 56 = .ok (.iload 8, 2) := by decide +kernel
theorem dX7_copy_58 : decode cX7_copy 58 = .ok (.iadd, 1) := by decide +kernel
theorem dX7_copy_59 : decode cX7_copy 59 = .ok (.iaload, 1) := by decide +kernel
theorem dX7_copy_60 : decode cX7_copy 60 = .ok (.iastore, 1) := by decide +kernel
theorem dX7_copy_61 : decode cX7_copy 61 = .ok (.iinc 8 1, 3) := by decide +kernel
theorem dX7_copy_64 : decode cX7_copy 64 = .ok (.goto (-40), 3) := by decide +kernel
theorem dX7_copy_67 : decode cX7_copy 67 = .ok (.return_, 1) := by decide +kernel
theorem dX7_begin_0 : decode cX7_begin 0 = .ok (.aload_n 0, 1) := by decide +kernel
theorem dX7_begin_1 : decode cX7_begin 1 = .ok (.iconst 1, 1) := by decide +kernel
theorem dX7_begin_2 : decode cX7_begin 2 = .ok (.putfield 61, 3) := by decide +kernel
theorem dX7_begin_5 : decode cX7_begin 5 = .ok (.aload_n 0, 1) := by decide +kernel
theorem dX7_begin_6 : decode cX7_begin 6 = .ok (.iconst 0, 1) := by decide +kernel
theorem dX7_begin_7 : decode cX7_begin 7 = .ok (.putfield 65, 3) := by decide +kernel
theorem dX7_begin_10 : decode cX7_begin 10 = .ok (.aload_n 0, 1) := by decide +kernel
theorem dX7_begin_11 : decode cX7_begin 11 = .ok (.iconst 0, 1) := by decide +kernel
theorem dX7_begin_12 : decode cX7_begin 12 = .ok (.putfield 79, 3) := by decide +kernel
theorem dX7_begin_15 : decode cX7_begin 15 = .ok (.aload_n 0, 1) := by decide +kernel
theorem dX7_begin_16 : decode cX7_begin 16 = .ok (.aload_n 0, 1) := by decide +kernel
theorem dX7_begin_17 : decode cX7_begin 17 = .ok (.getfield 44, 3) := by decide +kernel
theorem dX7_begin_20 : decode cX7_begin 20 = .ok (.putfield 82, 3) := by decide +kernel
theorem dX7_begin_23 : decode cX7_begin 23 = .ok (.aload_n 0, 1) := by decide +kernel
theorem dX7_begin_24 : decode cX7_begin 24 = .ok (.aload_n 0, 1) := by decide +kernel
theorem dX7_begin_25 : decode cX7_begin 25 = .ok (.getfield 68, 3) := by decide +kernel
theorem dX7_begin_28 : decode cX7_begin 28 = .ok (.putfield 85, 3) := by decide +kernel
theorem dX7_begin_31 : decode cX7_begin 31 = .ok (.return_, 1) := by decide +kernel
theorem dX7_close_0 : decode cX7_close 0 = .ok (.aload_n 0, 1) := by decide +kernel
theorem dX7_close_1 : decode cX7_close 1 = .ok (.getfield 12, 3) := by decide +kernel
theorem dX7_close_4 : decode cX7_close 4 = .ok (.invokevirtual 75, 3) := by decide +kernel
theorem dX7_close_7 : decode cX7_close 7 = .ok (.ifCond .eq 8, 3) := by decide +kernel
theorem dX7_close_10 : decode cX7_close 10 = .ok (.aload_n 0, 1) := by decide +kernel
theorem dX7_close_11 : decode cX7_close 11 = .ok (.iconst 0, 1) := by decide +kernel
theorem dX7_close_12 : decode cX7_close 12 = .ok (.putfield 61, 3) := by decide +kernel
theorem dX7_close_15 : decode cX7_close 15 = .ok (.return_, 1) := by decide +kernel
theorem dX7_undo_0 : decode cX7_undo 0 = .ok (.aload_n 0, 1) := by decide +kernel
theorem dX7_undo_1 : decode cX7_undo 1 = .ok (.getfield 61, 3) := by decide +kernel
theorem dX7_undo_4 : decode cX7_undo 4 = .ok (.ifCond .ne 5, 3) := by decide +kernel
theorem dX7_undo_7 : decode cX7_undo 7 = .ok (.iconst 0, 1) := by decide +kernel
theorem dX7_undo_8 : decode cX7_undo 8 = .ok (.ireturn, 1) := by decide +kernel
theorem dX7_undo_9 : decode cX7_undo 9 = .ok (.aload_n 0, 1) := by decide +kernel
theorem dX7_undo_10 : decode cX7_undo 10 = .ok (.getfield 79, 3) := by decide +kernel
theorem dX7_undo_13 : decode cX7_undo 13 = .ok (.iconst 1, 1) := by decide +kernel
theorem dX7_undo_14 : decode cX7_undo 14 = .ok (.isub, 1) := by decide +kernel
theorem dX7_undo_15 : decode cX7_undo 15 = .ok (.istore_n 1, 1) := by decide +kernel
theorem dX7_undo_16 : decode cX7_undo 16 = .ok (.iload_n 1, 1) := by decide +kernel
theorem dX7_undo_17 : decode cX7_undo 17 = .ok (.ifCond .lt 26, 3) := by decide +kernel
theorem dX7_undo_20 : decode cX7_undo 20 = .ok (.aload_n 0, 1) := by decide +kernel
theorem dX7_undo_21 : decode cX7_undo 21 = .ok (.getfield 31, 3) := by decide +kernel
theorem dX7_undo_24 : decode cX7_undo 24 = .ok (.aload_n 0, 1) := by decide +kernel
theorem dX7_undo_25 : decode cX7_undo 25 = .ok (.getfield 34, 3) := by decide +kernel
theorem dX7_undo_28 : decode cX7_undo 28 = .ok (.iload_n 1, 1) := by decide +kernel
theorem dX7_undo_29 : decode cX7_undo 29 = .ok (.iaload, 1) := by decide +kernel
theorem dX7_undo_30 : decode cX7_undo 30 = .ok (.aload_n 0, 1) := by decide +kernel
theorem dX7_undo_31 : decode cX7_undo 31 = .ok (.getfield 37, 3) := by decide +kernel
theorem dX7_undo_34 : decode cX7_undo 34 = .ok (.iload_n 1, 1) := by decide +kernel
theorem dX7_undo_35 : decode cX7_undo 35 = .ok (.iaload, 1) := by decide +kernel
theorem dX7_undo_36 : decode cX7_undo 36 = .ok (.iastore, 1) := by decide +kernel
theorem dX7_undo_37 : decode cX7_undo 37 = .ok (.iinc 1 (-1), 3) := by decide +kernel
theorem dX7_undo_40 : decode cX7_undo 40 = .ok (.goto (-24), 3) := by decide +kernel
theorem dX7_undo_43 : decode cX7_undo 43 = .ok (.aload_n 0, 1) := by decide +kernel
theorem dX7_undo_44 : decode cX7_undo 44 = .ok (.aload_n 0, 1) := by decide +kernel
theorem dX7_undo_45 : decode cX7_undo 45 = .ok (.getfield 82, 3) := by decide +kernel
theorem dX7_undo_48 : decode cX7_undo 48 = .ok (.putfield 44, 3) := by decide +kernel
theorem dX7_undo_51 : decode cX7_undo 51 = .ok (.aload_n 0, 1) := by decide +kernel
theorem dX7_undo_52 : decode cX7_undo 52 = .ok (.aload_n 0, 1) := by decide +kernel
theorem dX7_undo_53 : decode cX7_undo 53 = .ok (.getfield 85, 3) := by decide +kernel
theorem dX7_undo_56 : decode cX7_undo 56 = .ok (.putfield 68, 3) := by decide +kernel
theorem dX7_undo_59 : decode cX7_undo 59 = .ok (.aload_n 0, 1) := by decide +kernel
theorem dX7_undo_60 : decode cX7_undo 60 = .ok (.iconst 0, 1) := by decide +kernel
theorem dX7_undo_61 : decode cX7_undo 61 = .ok (.putfield 61, 3) := by decide +kernel
theorem dX7_undo_64 : decode cX7_undo 64 = .ok (.iconst 1, 1) := by decide +kernel
theorem dX7_undo_65 : decode cX7_undo 65 = .ok (.ireturn, 1) := by decide +kernel
theorem dX7_mayUse_0 : decode cX7_mayUse 0 = .ok (.iload_n 1, 1) := by decide +kernel
theorem dX7_mayUse_1 : decode cX7_mayUse 1 = .ok (.ifCond .eq 13, 3) := by decide +kernel
theorem dX7_mayUse_4 : decode cX7_mayUse 4 = .ok (.iload_n 1, 1) := by decide +kernel
theorem dX7_mayUse_5 : decode cX7_mayUse 5 = .ok (.aload_n 0, 1) := by decide +kernel
theorem dX7_mayUse_6 : decode cX7_mayUse 6 = .ok (.getfield 18, 3) := by decide +kernel
theorem dX7_mayUse_9 : decode cX7_mayUse 9 = .ok (.iload_n 2, 1) := by decide +kernel
theorem dX7_mayUse_10 : decode cX7_mayUse 10 = .ok (.iaload, 1) := by decide +kernel
theorem dX7_mayUse_11 : decode cX7_mayUse 11 = .ok (.if_icmp .ne 7, 3) := by decide +kernel
theorem dX7_mayUse_14 : decode cX7_mayUse 14 = .ok (.iconst 1, 1) := by decide +kernel
theorem dX7_mayUse_15 : decode cX7_mayUse 15 = .ok (.goto 4, 3) := by decide +kernel
theorem dX7_mayUse_18 : decode cX7_mayUse 18 = .ok (.iconst 0, 1) := by decide +kernel
theorem dX7_mayUse_19 : decode cX7_mayUse 19 = .ok (.ireturn, 1) := by decide +kernel
theorem dX7_add_0 : decode cX7_add 0 = .ok (.aload_n 0, 1) := by decide +kernel
theorem dX7_add_1 : decode cX7_add 1 = .ok (.dup, 1) := by decide +kernel
theorem dX7_add_2 : decode cX7_add 2 = .ok (.getfield 44, 3) := by decide +kernel
theorem dX7_add_5 : decode cX7_add 5 = .ok (.iconst 1, 1) := by decide +kernel
theorem dX7_add_6 : decode cX7_add 6 = .ok (.iadd, 1) := by decide +kernel
theorem dX7_add_7 : decode cX7_add 7 = .ok (.putfield 44, 3) := by decide +kernel
theorem dX7_add_10 : decode cX7_add 10 = .ok (.aload_n 0, 1) := by decide +kernel
theorem dX7_add_11 : decode cX7_add 11 = .ok (.getfield 18, 3) := by decide +kernel
theorem dX7_add_14 : decode cX7_add 14 = .ok (.aload_n 0, 1) := by decide +kernel
theorem dX7_add_15 : decode cX7_add 15 = .ok (.getfield 44, 3) := by decide +kernel
theorem dX7_add_18 : decode cX7_add 18 = .ok (.iload_n 1, 1) := by decide +kernel
theorem dX7_add_19 : decode cX7_add 19 = .ok (.iastore, 1) := by decide +kernel
theorem dX7_add_20 : decode cX7_add 20 = .ok (.aload_n 0, 1) := by decide +kernel
theorem dX7_add_21 : decode cX7_add 21 = .ok (.getfield 22, 3) := by decide +kernel
theorem dX7_add_24 : decode cX7_add 24 = .ok (.aload_n 0, 1) := by decide +kernel
theorem dX7_add_25 : decode cX7_add 25 = .ok (.getfield 44, 3) := by decide +kernel
theorem dX7_add_28 : decode cX7_add 28 = .ok (.iload_n 2, 1) := by decide +kernel
theorem dX7_add_29 : decode cX7_add 29 = .ok (.iastore, 1) := by decide +kernel
theorem dX7_add_30 : decode cX7_add 30 = .ok (.aload_n 0, 1) := by decide +kernel
theorem dX7_add_31 : decode cX7_add 31 = .ok (.getfield 25, 3) := by decide +kernel
theorem dX7_add_34 : decode cX7_add 34 = .ok (.aload_n 0, 1) := by decide +kernel
theorem dX7_add_35 : decode cX7_add 35 = .ok (.getfield 44, 3) := by decide +kernel
theorem dX7_add_38 : decode cX7_add 38 = .ok (.iload_n 3, 1) := by decide +kernel
theorem dX7_add_39 : decode cX7_add 39 = .ok (.iastore, 1) := by decide +kernel
theorem dX7_add_40 : decode cX7_add 40 = .ok (.aload_n 0, 1) := by decide +kernel
theorem dX7_add_41 : decode cX7_add 41 = .ok (.getfield 28, 3) := by decide +kernel
theorem dX7_add_44 : decode cX7_add 44 = .ok (.aload_n 0, 1) := by decide +kernel
theorem dX7_add_45 : decode cX7_add 45 = .ok (.getfield 44, 3) := by decide +kernel
theorem dX7_add_48 : decode cX7_add 48 = .ok (.aload_n 0, 1) := by decide +kernel
theorem dX7_add_49 : decode cX7_add 49 = .ok (.getfield 68, 3) := by decide +kernel
theorem dX7_add_52 : decode cX7_add 52 = .ok (.iastore, 1) := by decide +kernel
theorem dX7_add_53 : decode cX7_add 53 = .ok (.aload_n 0, 1) := by decide +kernel
theorem dX7_add_54 : decode cX7_add 54 = .ok (.getfield 31, 3) := by decide +kernel
theorem dX7_add_57 : decode cX7_add 57 = .ok (.aload_n 0, 1) := by decide +kernel
theorem dX7_add_58 : decode cX7_add 58 = .ok (.getfield 68, 3) := by decide +kernel
theorem dX7_add_61 : decode cX7_add 61 = .ok (.aload_n 0, 1) := by decide +kernel
theorem dX7_add_62 : decode cX7_add 62 = .ok (.getfield 68, 3) := by decide +kernel
theorem dX7_add_65 : decode cX7_add 65 = .ok (.iload_n 3, 1) := by decide +kernel
theorem dX7_add_66 : decode cX7_add 66 = .ok (.iadd, 1) := by decide +kernel
theorem dX7_add_67 : decode cX7_add 67 = .ok (.iconst 0, 1) := by decide +kernel
theorem dX7_add_68 : decode cX7_add 68 = .ok (.invokestatic 88, 3) := by decide +kernel
theorem dX7_add_71 : decode cX7_add 71 = .ok (.aload_n 0, 1) := by decide +kernel
theorem dX7_add_72 : decode cX7_add 72 = .ok (.dup, 1) := by decide +kernel
theorem dX7_add_73 : decode cX7_add 73 = .ok (.getfield 68, 3) := by decide +kernel
theorem dX7_add_76 : decode cX7_add 76 = .ok (.iload_n 3, 1) := by decide +kernel
theorem dX7_add_77 : decode cX7_add 77 = .ok (.iadd, 1) := by decide +kernel
theorem dX7_add_78 : decode cX7_add 78 = .ok (.putfield 68, 3) := by decide +kernel
theorem dX7_add_81 : decode cX7_add 81 = .ok (.return_, 1) := by decide +kernel
theorem dX8_init_0 : decode cX8_init 0 = .ok (.aload_n 0, 1) := by decide +kernel
theorem dX8_init_1 : decode cX8_init 1 = .ok (.invokespecial 1, 3) := by decide +kernel
theorem dX8_init_4 : decode cX8_init 4 = .ok (.aload_n 0, 1) := by decide +kernel
theorem dX8_init_5 : decode cX8_init 5 = .ok (.new 7, 3) := by decide +kernel
theorem dX8_init_8 : decode cX8_init 8 = .ok (.dup, 1) := by decide +kernel
theorem dX8_init_9 : decode cX8_init 9 = .ok (.invokespecial 9, 3) := by decide +kernel
theorem dX8_init_12 : decode cX8_init 12 = .ok (.putfield 10, 3) := by decide +kernel
theorem dX8_init_15 : decode cX8_init 15 = .ok (.return_, 1) := by decide +kernel
theorem dX8_code_0 : decode cX8_code 0 = .ok (.iload_n 2, 1) := by decide +kernel
theorem dX8_code_1 : decode cX8_code 1 = .ok (.invokestatic 16, 3) := by decide +kernel
theorem dX8_code_4 : decode cX8_code 4 = .ok (.ifCond .ne 5, 3) := by decide +kernel
theorem dX8_code_7 : decode cX8_code 7 = .ok (.iconst (-1), 1) := by decide +kernel
theorem dX8_code_8 : decode cX8_code 8 = .ok (.ireturn, 1) := by decide +kernel
theorem dX8_code_9 : decode cX8_code 9 = .ok (.aload_n 0, 1) := by decide +kernel
theorem dX8_code_10 : decode cX8_code 10 = .ok (.iload_n 1, 1) := by decide +kernel
theorem dX8_code_11 : decode cX8_code 11 = .ok (.iload_n 2, 1) := by decide +kernel
theorem dX8_code_12 : decode cX8_code 12 = .ok (.i2l, 1) := by decide +kernel
theorem dX8_code_13 : decode cX8_code 13 = .ok (.iconst 1, 1) := by decide +kernel
theorem dX8_code_14 : decode cX8_code 14 = .ok (.invokevirtual 20, 3) := by decide +kernel
theorem dX8_code_17 : decode cX8_code 17 = .ok (.ireturn, 1) := by decide +kernel
theorem dX8_codes_0 : decode cX8_codes 0 = .ok (.iload 4, 2) := by decide +kernel
theorem dX8_codes_2 : decode cX8_codes 2 = .ok (.iconst 1, 1) := by decide +kernel
theorem dX8_codes_3 : decode cX8_codes 3 = .ok (.if_icmp .lt 24, 3) := by decide +kernel
theorem dX8_codes_6 : decode cX8_codes 6 = .ok (.iload 4, 2) := by decide +kernel
theorem dX8_codes_8 : decode cX8_codes 8 = .ok (.bipush 8, 2) := by decide +kernel
theorem dX8_codes_10 : decode cX8_codes 10 = .ok (.if_icmp .gt 17, 3) := by decide +kernel
theorem dX8_codes_13 : decode cX8_codes 13 = .ok (.iload_n 1, 1) := by decide +kernel
theorem dX8_codes_14 : decode cX8_codes 14 = .ok (.ifCond .lt 13, 3) := by decide +kernel
theorem dX8_codes_17 : decode cX8_codes 17 = .ok (.iload_n 1, 1) := by decide +kernel
theorem dX8_codes_18 : decode cX8_codes 18 = .ok (.sipush 512, 3) := by decide +kernel
theorem dX8_codes_21 : decode cX8_codes 21 = .ok (.iload 4, 2) := by decide +kernel
theorem dX8_codes_23 : decode cX8_codes 23 = .ok (.isub, 1) := by decide +kernel
theorem dX8_codes_24 : decode cX8_codes 24 = .ok (.if_icmp .le 5, 3) := by decide +kernel
theorem dX8_codes_27 : decode cX8_codes 27 = .ok (.iconst (-1), 1) := by decide +kernel
theorem dX8_codes_28 : decode cX8_codes 28 = .ok (.ireturn, 1) := by decide +kernel
theorem dX8_codes_29 : decode cX8_codes 29 = .ok (.iconst 0, 1) := by decide +kernel
theorem dX8_codes_30 : decode cX8_codes 30 = .ok (.istore 5, 2) := by decide +kernel
theorem dX8_codes_32 : decode cX8_codes 32 = .ok (.iload 5, 2) := by decide +kernel
theorem dX8_codes_34 : decode cX8_codes 34 = .ok (.iload 4, 2) := by decide +kernel
theorem dX8_codes_36 : decode cX8_codes 36 = .ok (.if_icmp .ge 38, 3) := by decide +kernel
theorem dX8_codes_39 : decode cX8_codes 39 = .ok (.aload_n 0, 1) := by decide +kernel
theorem dX8_codes_40 : decode cX8_codes 40 = .ok (.getfield 10, 3) := by decide +kernel
theorem dX8_codes_43 : decode cX8_codes 43 = .ok (.getfield 24, 3) := by decide +kernel
theorem dX8_codes_46 : decode cX8_codes 46 = .ok (.iload_n 1, 1) := by decide +kernel
theorem dX8_codes_47 : decode cX8_codes 47 = .ok (.iload 5, 2) := by decide +kernel
theorem dX8_codes_49 : decode cX8_codes 49 = .ok (.iadd, 1) := by decide +kernel
theorem dX8_codes_50 : decode cX8_codes 50 = .ok (.lload_n 2, 1) := by decide +kernel
theorem dX8_codes_51 : decode cX8_codes 51 = .ok (.bipush 8, 2) := by decide +kernel
theorem dX8_codes_53 : decode cX8_codes 53 = .ok (.iload 4, 2) := by decide +kernel
theorem dX8_codes_55 : decode cX8_codes 55 = .ok (.iconst 1, 1) := by decide +kernel
theorem dX8_codes_56 : decode cX8_codes 56 = .ok (.isub, 1) := by decide +kernel
theorem dX8_codes_57 : decode cX8_codes 57 = .ok (.iload 5, 2) := by decide +kernel
theorem dX8_codes_59 : decode cX8_codes 59 = .ok (.isub, 1) := by decide +kernel
theorem dX8_codes_60 : decode cX8_codes 60 = .ok (.imul, 1) := by decide +kernel
theorem dX8_codes_61 : decode cX8_codes 61 = .ok (.lushr, 1) := by decide +kernel
theorem dX8_codes_62 : decode cX8_codes 62 = .ok (.l2i, 1) := by decide +kernel
theorem dX8_codes_63 : decode cX8_codes 63 = .ok (.sipush 255, 3) := by decide +kernel
theorem dX8_codes_66 : decode cX8_codes 66 = .ok (.iand, 1) := by decide +kernel
theorem dX8_codes_67 : decode cX8_codes 67 = .ok (.iastore, 1) := by decide +kernel
theorem dX8_codes_68 : decode cX8_codes 68 = .ok (.iinc 5 1, 3) := by decide +kernel
theorem dX8_codes_71 : decode cX8_codes 71 = .ok (.goto (-39), 3) := by decide +kernel
theorem dX8_codes_74 : decode cX8_codes 74 = .ok (.iconst 1, 1) := by decide +kernel
theorem dX8_codes_75 : decode cX8_codes 75 = .ok (.ireturn, 1) := by decide +kernel
theorem dX8_method_0 : decode cX8_method 0 = .ok (.iload_n 1, 1) := by decide +kernel
theorem dX8_method_1 : decode cX8_method 1 = .ok (.invokestatic 28, 3) := by decide +kernel
theorem dX8_method_4 : decode cX8_method 4 = .ok (.ifCond .eq 23, 3) := by decide +kernel
theorem dX8_method_7 : decode cX8_method 7 = .ok (.iload_n 2, 1) := by decide +kernel
theorem dX8_method_8 : decode cX8_method 8 = .ok (.ifCond .lt 19, 3) := by decide +kernel
theorem dX8_method_11 : decode cX8_method 11 = .ok (.iload_n 2, 1) := by decide +kernel
theorem dX8_method_12 : decode cX8_method 12 = .ok (.iconst 4, 1) := by decide +kernel
theorem dX8_method_13 : decode cX8_method 13 = .ok (.if_icmp .ge 14, 3) := by decide +kernel
theorem dX8_method_16 : decode cX8_method 16 = .ok (.iload_n 3, 1) := by decide +kernel
theorem dX8_method_17 : decode cX8_method 17 = .ok (.ifCond .lt 10, 3) := by decide +kernel
theorem dX8_method_20 : decode cX8_method 20 = .ok (.iload_n 3, 1) := by decide +kernel
theorem dX8_method_21 : decode cX8_method 21 = .ok (.sipush 512, 3) := by decide +kernel
theorem dX8_method_24 : decode cX8_method 24 = .ok (.if_icmp .lt 5, 3) := by decide +kernel
theorem dX8_method_27 : decode cX8_method 27 = .ok (.iconst (-1), 1) := by decide +kernel
theorem dX8_method_28 : decode cX8_method 28 = .ok (.ireturn, 1) := by decide +kernel
theorem dX8_method_29 : decode cX8_method 29 = .ok (.aload_n 0, 1) := by decide +kernel
theorem dX8_method_30 : decode cX8_method 30 = .ok (.getfield 10, 3) := by decide +kernel
theorem dX8_method_33 : decode cX8_method 33 = .ok (.getfield 31, 3) := by decide +kernel
theorem dX8_method_36 : decode cX8_method 36 = .ok (.iload_n 1, 1) := by decide +kernel
theorem dX8_method_37 : decode cX8_method 37 = .ok (.aaload, 1) := by decide +kernel
theorem dX8_method_38 : decode cX8_method 38 = .ok (.astore 5, 2) := by decide +kernel
theorem dX8_method_40 : decode cX8_method 40 = .ok (.aload 5, 2) := by decide +kernel
theorem dX8_method_42 : decode cX8_method 42 = .ok (.iload_n 2, 1) := by decide +kernel
theorem dX8_method_43 : decode cX8_method 43 = .ok (.putfield 35, 3) := by decide +kernel
theorem dX8_method_46 : decode cX8_method 46 = .ok (.aload 5, 2) := by decide +kernel
theorem dX8_method_48 : decode cX8_method 48 = .ok (.iload_n 3, 1) := by decide +kernel
theorem dX8_method_49 : decode cX8_method 49 = .ok (.putfield 41, 3) := by decide +kernel
theorem dX8_method_52 : decode cX8_method 52 = .ok (.aload 5, 2) := by decide +kernel
theorem dX8_method_54 : decode cX8_method 54 = .ok (.iload 4, 2) := by decide +kernel
theorem dX8_method_56 : decode cX8_method 56 = .ok (.putfield 44, 3) := by decide +kernel
theorem dX8_method_59 : decode cX8_method 59 = .ok (.iconst 1, 1) := by decide +kernel
theorem dX8_method_60 : decode cX8_method 60 = .ok (.ireturn, 1) := by decide +kernel
theorem dX8_type_0 : decode cX8_type 0 = .ok (.iload_n 1, 1) := by decide +kernel
theorem dX8_type_1 : decode cX8_type 1 = .ok (.invokestatic 16, 3) := by decide +kernel
theorem dX8_type_4 : decode cX8_type 4 = .ok (.ifCond .ne 5, 3) := by decide +kernel
theorem dX8_type_7 : decode cX8_type 7 = .ok (.iconst (-1), 1) := by decide +kernel
theorem dX8_type_8 : decode cX8_type 8 = .ok (.ireturn, 1) := by decide +kernel
theorem dX8_type_9 : decode cX8_type 9 = .ok (.aload_n 0, 1) := by decide +kernel
theorem dX8_type_10 : decode cX8_type 10 = .ok (.getfield 10, 3) := by decide +kernel
theorem dX8_type_13 : decode cX8_type 13 = .ok (.getfield 48, 3) := by decide +kernel
theorem dX8_type_16 : decode cX8_type 16 = .ok (.invokevirtual 52, 3) := by decide +kernel
theorem dX8_type_19 : decode cX8_type 19 = .ok (.ifCond .eq 6, 3) := by decide +kernel
theorem dX8_type_22 : decode cX8_type 22 = .ok (.bipush (-3), 2) := by decide +kernel
theorem dX8_type_24 : decode cX8_type 24 = .ok (.ireturn, 1) := by decide +kernel
theorem dX8_type_25 : decode cX8_type 25 = .ok (.aload_n 0, 1) := by decide +kernel
theorem dX8_type_26 : decode cX8_type 26 = .ok (.getfield 10, 3) := by decide +kernel
theorem dX8_type_29 : decode cX8_type 29 = .ok (.getfield 48, 3) := by decide +kernel
theorem dX8_type_32 : decode cX8_type 32 = .ok (.iload_n 1, 1) := by decide +kernel
theorem dX8_type_33 : decode cX8_type 33 = .ok (.invokevirtual 58, 3) := by decide +kernel
theorem dX8_type_36 : decode cX8_type 36 = .ok (.aload_n 0, 1) := by decide +kernel
theorem dX8_type_37 : decode cX8_type 37 = .ok (.getfield 10, 3) := by decide +kernel
theorem dX8_type_40 : decode cX8_type 40 = .ok (.getfield 48, 3) := by decide +kernel
theorem dX8_type_43 : decode cX8_type 43 = .ok (.getfield 62, 3) := by decide +kernel
theorem dX8_type_46 : decode cX8_type 46 = .ok (.ireturn, 1) := by decide +kernel
theorem dX8_run_0 : decode cX8_run 0 = .ok (.iload_n 1, 1) := by decide +kernel
theorem dX8_run_1 : decode cX8_run 1 = .ok (.invokestatic 28, 3) := by decide +kernel
theorem dX8_run_4 : decode cX8_run 4 = .ok (.ifCond .eq 15, 3) := by decide +kernel
theorem dX8_run_7 : decode cX8_run 7 = .ok (.iload_n 2, 1) := by decide +kernel
theorem dX8_run_8 : decode cX8_run 8 = .ok (.iconst 1, 1) := by decide +kernel
theorem dX8_run_9 : decode cX8_run 9 = .ok (.if_icmp .lt 10, 3) := by decide +kernel
theorem dX8_run_12 : decode cX8_run 12 = .ok (.iload_n 2, 1) := by decide +kernel
theorem dX8_run_13 : decode cX8_run 13 = .ok (.sipush 3000, 3) := by decide +kernel
theorem dX8_run_16 : decode cX8_run 16 = .ok (.if_icmp .le 5, 3) := by decide +kernel
theorem dX8_run_19 : decode cX8_run 19 = .ok (.iconst (-1), 1) := by decide +kernel
theorem dX8_run_20 : decode cX8_run 20 = .ok (.ireturn, 1) := by decide +kernel
theorem dX8_run_21 : decode cX8_run 21 = .ok (.aload_n 0, 1) := by decide +kernel
theorem dX8_run_22 : decode cX8_run 22 = .ok (.getfield 10, 3) := by decide +kernel
theorem dX8_run_25 : decode cX8_run 25 = .ok (.aload_n 0, 1) := by decide +kernel
theorem dX8_run_26 : decode cX8_run 26 = .ok (.getfield 10, 3) := by decide +kernel
theorem dX8_run_29 : decode cX8_run 29 = .ok (.getfield 31, 3) := by decide +kernel
theorem dX8_run_32 : decode cX8_run 32 = .ok (.iload_n 1, 1) := by decide +kernel
theorem dX8_run_33 : decode cX8_run 33 = .ok (.aaload, 1) := by decide +kernel
theorem dX8_run_34 : decode cX8_run 34 = .ok (.iload_n 2, 1) := by decide +kernel
theorem dX8_run_35 : decode cX8_run 35 = .ok (.invokevirtual 65, 3) := by decide +kernel
theorem dX8_run_38 : decode cX8_run 38 = .ok (.ireturn, 1) := by decide +kernel
theorem dX8_thrown0_0 : decode cX8_thrown0 0 = .ok (.aload_n 0, 1) := by decide +kernel
theorem dX8_thrown0_1 : decode cX8_thrown0 1 = .ok (.getfield 10, 3) := by decide +kernel
theorem dX8_thrown0_4 : decode cX8_thrown0 4 = .ok (.getfield 69, 3) := by decide +kernel
theorem dX8_thrown0_7 : decode cX8_thrown0 7 = .ok (.ireturn, 1) := by decide +kernel
theorem dX8_value_0 : decode cX8_value 0 = .ok (.aload_n 0, 1) := by decide +kernel
theorem dX8_value_1 : decode cX8_value 1 = .ok (.getfield 10, 3) := by decide +kernel
theorem dX8_value_4 : decode cX8_value 4 = .ok (.getfield 72, 3) := by decide +kernel
theorem dX8_value_7 : decode cX8_value 7 = .ok (.ireturn, 1) := by decide +kernel
theorem dX8_reply_0 : decode cX8_reply 0 = .ok (.aload_n 0, 1) := by decide +kernel
theorem dX8_reply_1 : decode cX8_reply 1 = .ok (.getfield 10, 3) := by decide +kernel
theorem dX8_reply_4 : decode cX8_reply 4 = .ok (.getfield 75, 3) := by decide +kernel
theorem dX8_reply_7 : decode cX8_reply 7 = .ok (.iload_n 1, 1) := by decide +kernel
theorem dX8_reply_8 : decode cX8_reply 8 = .ok (.invokevirtual 78, 3) := by decide +kernel
theorem dX8_reply_11 : decode cX8_reply 11 = .ok (.ifCond .eq 18, 3) := by decide +kernel
theorem dX8_reply_14 : decode cX8_reply 14 = .ok (.aload_n 0, 1) := by decide +kernel
theorem dX8_reply_15 : decode cX8_reply 15 = .ok (.getfield 10, 3) := by decide +kernel
theorem dX8_reply_18 : decode cX8_reply 18 = .ok (.getfield 75, 3) := by decide +kernel
theorem dX8_reply_21 : decode cX8_reply 21 = .ok (.getfield 81, 3) := by decide +kernel
theorem dX8_reply_24 : decode cX8_reply 24 = .ok (.iload_n 1, 1) := by decide +kernel
theorem dX8_reply_25 : decode cX8_reply 25 = .ok (.iaload, 1) := by decide +kernel
theorem dX8_reply_26 : decode cX8_reply 26 = .ok (.goto 4, 3) := by decide +kernel
theorem dX8_reply_29 : decode cX8_reply 29 = .ok (.iconst (-1), 1) := by decide +kernel
theorem dX8_reply_30 : decode cX8_reply 30 = .ok (.ireturn, 1) := by decide +kernel
theorem dX8_used_0 : decode cX8_used 0 = .ok (.aload_n 0, 1) := by decide +kernel
theorem dX8_used_1 : decode cX8_used 1 = .ok (.getfield 10, 3) := by decide +kernel
theorem dX8_used_4 : decode cX8_used 4 = .ok (.getfield 84, 3) := by decide +kernel
theorem dX8_used_7 : decode cX8_used 7 = .ok (.ireturn, 1) := by decide +kernel
theorem dX8_tear_0 : decode cX8_tear 0 = .ok (.aload_n 0, 1) := by decide +kernel
theorem dX8_tear_1 : decode cX8_tear 1 = .ok (.getfield 10, 3) := by decide +kernel
theorem dX8_tear_4 : decode cX8_tear 4 = .ok (.getfield 87, 3) := by decide +kernel
theorem dX8_tear_7 : decode cX8_tear 7 = .ok (.getfield 91, 3) := by decide +kernel
theorem dX8_tear_10 : decode cX8_tear 10 = .ok (.iload_n 1, 1) := by decide +kernel
theorem dX8_tear_11 : decode cX8_tear 11 = .ok (.invokevirtual 97, 3) := by decide +kernel
theorem dX8_tear_14 : decode cX8_tear 14 = .ok (.iconst 1, 1) := by decide +kernel
theorem dX8_tear_15 : decode cX8_tear 15 = .ok (.ireturn, 1) := by decide +kernel
theorem dX8_reset_0 : decode cX8_reset 0 = .ok (.aload_n 0, 1) := by decide +kernel
theorem dX8_reset_1 : decode cX8_reset 1 = .ok (.getfield 10, 3) := by decide +kernel
theorem dX8_reset_4 : decode cX8_reset 4 = .ok (.getfield 87, 3) := by decide +kernel
theorem dX8_reset_7 : decode cX8_reset 7 = .ok (.astore_n 1, 1) := by decide +kernel
theorem dX8_reset_8 : decode cX8_reset 8 = .ok (.aload_n 1, 1) := by decide +kernel
theorem dX8_reset_9 : decode cX8_reset 9 = .ok (.getfield 91, 3) := by decide +kernel
theorem dX8_reset_12 : decode cX8_reset 12 = .ok (.getfield 102, 3) := by decide +kernel
theorem dX8_reset_15 : decode cX8_reset 15 = .ok (.ifCond .eq 5, 3) := by decide +kernel
theorem dX8_reset_18 : decode cX8_reset 18 = .ok (.iconst 0, 1) := by decide +kernel
theorem dX8_reset_19 : decode cX8_reset 19 = .ok (.ireturn, 1) := by decide +kernel
theorem dX8_reset_20 : decode cX8_reset 20 = .ok (.aload_n 1, 1) := by decide +kernel
theorem dX8_reset_21 : decode cX8_reset 21 = .ok (.getfield 91, 3) := by decide +kernel
theorem dX8_reset_24 : decode cX8_reset 24 = .ok (.iconst 1, 1) := by decide +kernel
theorem dX8_reset_25 : decode cX8_reset 25 = .ok (.putfield 102, 3) := by decide +kernel
theorem dX8_reset_28 : decode cX8_reset 28 = .ok (.aload_n 1, 1) := by decide +kernel
theorem dX8_reset_29 : decode cX8_reset 29 = .ok (.invokevirtual 105, 3) := by decide +kernel
theorem dX8_reset_32 : decode cX8_reset 32 = .ok (.ifCond .eq 7, 3) := by decide +kernel
theorem dX8_reset_35 : decode cX8_reset 35 = .ok (.iconst 1, 1) := by decide +kernel
theorem dX8_reset_36 : decode cX8_reset 36 = .ok (.goto 4, 3) := by decide +kernel
theorem dX8_reset_39 : decode cX8_reset 39 = .ok (.iconst 0, 1) := by decide +kernel
theorem dX8_reset_40 : decode cX8_reset 40 = .ok (.ireturn, 1) := by decide +kernel
theorem dX8_objects_0 : decode cX8_objects 0 = .ok (.aload_n 0, 1) := by decide +kernel
theorem dX8_objects_1 : decode cX8_objects 1 = .ok (.getfield 10, 3) := by decide +kernel
theorem dX8_objects_4 : decode cX8_objects 4 = .ok (.getfield 87, 3) := by decide +kernel
theorem dX8_objects_7 : decode cX8_objects 7 = .ok (.astore_n 1, 1) := by decide +kernel
theorem dX8_objects_8 : decode cX8_objects 8 = .ok (.aload_n 1, 1) := by decide +kernel
theorem dX8_objects_9 : decode cX8_objects 9 = .ok (.getfield 91, 3) := by decide +kernel
theorem dX8_objects_12 : decode cX8_objects 12 = .ok (.getfield 102, 3) := by decide +kernel
theorem dX8_objects_15 : decode cX8_objects 15 = .ok (.ifCond .eq 10, 3) := by decide +kernel
theorem dX8_objects_18 : decode cX8_objects 18 = .ok (.aload_n 1, 1) := by decide +kernel
theorem dX8_objects_19 : decode cX8_objects 19 = .ok (.getfield 108, 3) := by decide +kernel
theorem dX8_objects_22 : decode cX8_objects 22 = .ok (.goto 4, 3) := by decide +kernel
theorem dX8_objects_25 : decode cX8_objects 25 = .ok (.iconst (-1), 1) := by decide +kernel
theorem dX8_objects_26 : decode cX8_objects 26 = .ok (.ireturn, 1) := by decide +kernel
theorem dX8_told_0 : decode cX8_told 0 = .ok (.aload_n 0, 1) := by decide +kernel
theorem dX8_told_1 : decode cX8_told 1 = .ok (.getfield 10, 3) := by decide +kernel
theorem dX8_told_4 : decode cX8_told 4 = .ok (.getfield 87, 3) := by decide +kernel
theorem dX8_told_7 : decode cX8_told 7 = .ok (.astore_n 3, 1) := by decide +kernel
theorem dX8_told_8 : decode cX8_told 8 = .ok (.aload_n 3, 1) := by decide +kernel
theorem dX8_told_9 : decode cX8_told 9 = .ok (.getfield 91, 3) := by decide +kernel
theorem dX8_told_12 : decode cX8_told 12 = .ok (.getfield 102, 3) := by decide +kernel
theorem dX8_told_15 : decode cX8_told 15 = .ok (.ifCond .eq 11, 3) := by decide +kernel
theorem dX8_told_18 : decode cX8_told 18 = .ok (.aload_n 3, 1) := by decide +kernel
theorem dX8_told_19 : decode cX8_told 19 = .ok (.iload_n 1, 1) := by decide +kernel
theorem dX8_told_20 : decode cX8_told 20 = .ok (.invokevirtual 111, 3) := by decide +kernel
theorem dX8_told_23 : decode cX8_told 23 = .ok (.ifCond .ne 5, 3) := by decide +kernel
theorem dX8_told_26 : decode cX8_told 26 = .ok (.iconst (-1), 1) := by decide +kernel
theorem dX8_told_27 : decode cX8_told 27 = .ok (.ireturn, 1) := by decide +kernel
theorem dX8_told_28 : decode cX8_told 28 = .ok (.iload_n 2, 1) := by decide +kernel
theorem dX8_told_29 : decode cX8_told 29 = .ok (.tableswitch 48 0 2 #[27, 34, 41], 27) := by decide +kernel
theorem dX8_told_56 : decode cX8_told 56 = .ok (.aload_n 3, 1) := by decide +kernel
theorem dX8_told_57 : decode cX8_told 57 = .ok (.getfield 112, 3) := by decide +kernel
theorem dX8_told_60 : decode cX8_told 60 = .ok (.iload_n 1, 1) := by decide +kernel
theorem dX8_told_61 : decode cX8_told 61 = .ok (.iaload, 1) := by decide +kernel
theorem dX8_told_62 : decode cX8_told 62 = .ok (.ireturn, 1) := by decide +kernel
theorem dX8_told_63 : decode cX8_told 63 = .ok (.aload_n 3, 1) := by decide +kernel
theorem dX8_told_64 : decode cX8_told 64 = .ok (.getfield 115, 3) := by decide +kernel
theorem dX8_told_67 : decode cX8_told 67 = .ok (.iload_n 1, 1) := by decide +kernel
theorem dX8_told_68 : decode cX8_told 68 = .ok (.iaload, 1) := by decide +kernel
theorem dX8_told_69 : decode cX8_told 69 = .ok (.ireturn, 1) := by decide +kernel
theorem dX8_told_70 : decode cX8_told 70 = .ok (.aload_n 3, 1) := by decide +kernel
theorem dX8_told_71 : decode cX8_told 71 = .ok (.getfield 118, 3) := by decide +kernel
theorem dX8_told_74 : decode cX8_told 74 = .ok (.iload_n 1, 1) := by decide +kernel
theorem dX8_told_75 : decode cX8_told 75 = .ok (.iaload, 1) := by decide +kernel
theorem dX8_told_76 : decode cX8_told 76 = .ok (.ireturn, 1) := by decide +kernel
theorem dX8_told_77 : decode cX8_told 77 = .ok (.iconst (-1), 1) := by decide +kernel
theorem dX8_told_78 : decode cX8_told 78 = .ok (.ireturn, 1) := by decide +kernel
theorem dX8_cell_0 : decode cX8_cell 0 = .ok (.aload_n 0, 1) := by decide +kernel
theorem dX8_cell_1 : decode cX8_cell 1 = .ok (.getfield 10, 3) := by decide +kernel
theorem dX8_cell_4 : decode cX8_cell 4 = .ok (.getfield 87, 3) := by decide +kernel
theorem dX8_cell_7 : decode cX8_cell 7 = .ok (.astore_n 3, 1) := by decide +kernel
theorem dX8_cell_8 : decode cX8_cell 8 = .ok (.aload_n 3, 1) := by decide +kernel
theorem dX8_cell_9 : decode cX8_cell 9 = .ok (.getfield 91, 3) := by decide +kernel
theorem dX8_cell_12 : decode cX8_cell 12 = .ok (.getfield 102, 3) := by decide +kernel
theorem dX8_cell_15 : decode cX8_cell 15 = .ok (.ifCond .eq 21, 3) := by decide +kernel
theorem dX8_cell_18 : decode cX8_cell 18 = .ok (.aload_n 3, 1) := by decide +kernel
theorem dX8_cell_19 : decode cX8_cell 19 = .ok (.iload_n 1, 1) := by decide +kernel
theorem dX8_cell_20 : decode cX8_cell 20 = .ok (.invokevirtual 111, 3) := by decide +kernel
theorem dX8_cell_23 : decode cX8_cell 23 = .ok (.ifCond .eq 13, 3) := by decide +kernel
theorem dX8_cell_26 : decode cX8_cell 26 = .ok (.aload_n 3, 1) := by decide +kernel
theorem dX8_cell_27 : decode cX8_cell 27 = .ok (.iload_n 1, 1) := by decide +kernel
theorem dX8_cell_28 : decode cX8_cell 28 = .ok (.iload_n 2, 1) := by decide +kernel
theorem dX8_cell_29 : decode cX8_cell 29 = .ok (.iconst 1, 1) := by decide +kernel
theorem dX8_cell_30 : decode cX8_cell 30 = .ok (.invokevirtual 121, 3) := by decide +kernel
theorem dX8_cell_33 : decode cX8_cell 33 = .ok (.ifCond .ne 5, 3) := by decide +kernel
theorem dX8_cell_36 : decode cX8_cell 36 = .ok (.iconst 0, 1) := by decide +kernel
theorem dX8_cell_37 : decode cX8_cell 37 = .ok (.ireturn, 1) := by decide +kernel
theorem dX8_cell_38 : decode cX8_cell 38 = .ok (.aload_n 3, 1) := by decide +kernel
theorem dX8_cell_39 : decode cX8_cell 39 = .ok (.iload_n 1, 1) := by decide +kernel
theorem dX8_cell_40 : decode cX8_cell 40 = .ok (.iload_n 2, 1) := by decide +kernel
theorem dX8_cell_41 : decode cX8_cell 41 = .ok (.invokevirtual 125, 3) := by decide +kernel
theorem dX8_cell_44 : decode cX8_cell 44 = .ok (.ireturn, 1) := by decide +kernel
theorem dX8_isByte_0 : decode cX8_isByte 0 = .ok (.iload_n 0, 1) := by decide +kernel
theorem dX8_isByte_1 : decode cX8_isByte 1 = .ok (.ifCond .lt 14, 3) := by decide +kernel
theorem dX8_isByte_4 : decode cX8_isByte 4 = .ok (.iload_n 0, 1) := by decide +kernel
theorem dX8_isByte_5 : decode cX8_isByte 5 = .ok (.sipush 255, 3) := by decide +kernel
theorem dX8_isByte_8 : decode cX8_isByte 8 = .ok (.if_icmp .gt 7, 3) := by decide +kernel
theorem dX8_isByte_11 : decode cX8_isByte 11 = .ok (.iconst 1, 1) := by decide +kernel
theorem dX8_isByte_12 : decode cX8_isByte 12 = .ok (.goto 4, 3) := by decide +kernel
theorem dX8_isByte_15 : decode cX8_isByte 15 = .ok (.iconst 0, 1) := by decide +kernel
theorem dX8_isByte_16 : decode cX8_isByte 16 = .ok (.ireturn, 1) := by decide +kernel
theorem dX8_isMethod_0 : decode cX8_isMethod 0 = .ok (.iload_n 0, 1) := by decide +kernel
theorem dX8_isMethod_1 : decode cX8_isMethod 1 = .ok (.ifCond .lt 13, 3) := by decide +kernel
theorem dX8_isMethod_4 : decode cX8_isMethod 4 = .ok (.iload_n 0, 1) := by decide +kernel
theorem dX8_isMethod_5 : decode cX8_isMethod 5 = .ok (.bipush 16, 2) := by decide +kernel
theorem dX8_isMethod_7 : decode cX8_isMethod 7 = .ok (.if_icmp .ge 7, 3) := by decide +kernel
theorem dX8_isMethod_10 : decode cX8_isMethod 10 = .ok (.iconst 1, 1) := by decide +kernel
theorem dX8_isMethod_11 : decode cX8_isMethod 11 = .ok (.goto 4, 3) := by decide +kernel
theorem dX8_isMethod_14 : decode cX8_isMethod 14 = .ok (.iconst 0, 1) := by decide +kernel
theorem dX8_isMethod_15 : decode cX8_isMethod 15 = .ok (.ireturn, 1) := by decide +kernel
theorem dJx29ce0_ordinal_8abf5_0 : decode cJx29ce0_ordinal_8abf5 0 = .ok (.aload_n 0, 1) := by decide +kernel
theorem dJx29ce0_ordinal_8abf5_1 : decode cJx29ce0_ordinal_8abf5 1 = .ok (.getfield 7, 3) := by decide +kernel
theorem dJx29ce0_ordinal_8abf5_4 : decode cJx29ce0_ordinal_8abf5 4 = .ok (.ireturn, 1) := by decide +kernel
theorem dJ9_floorMod_7cf53_0 : decode cJ9_floorMod_7cf53 0 = .ok (.iload_n 0, 1) := by decide +kernel
theorem dJ9_floorMod_7cf53_1 : decode cJ9_floorMod_7cf53 1 = .ok (.iload_n 1, 1) := by decide +kernel
theorem dJ9_floorMod_7cf53_2 : decode cJ9_floorMod_7cf53 2 = .ok (.irem, 1) := by decide +kernel
theorem dJ9_floorMod_7cf53_3 : decode cJ9_floorMod_7cf53 3 = .ok (.istore_n 2, 1) := by decide +kernel
theorem dJ9_floorMod_7cf53_4 : decode cJ9_floorMod_7cf53 4 = .ok (.iload_n 0, 1) := by decide +kernel
theorem dJ9_floorMod_7cf53_5 : decode cJ9_floorMod_7cf53 5 = .ok (.iload_n 1, 1) := by decide +kernel
theorem dJ9_floorMod_7cf53_6 : decode cJ9_floorMod_7cf53 6 = .ok (.ixor, 1) := by decide +kernel
theorem dJ9_floorMod_7cf53_7 : decode cJ9_floorMod_7cf53 7 = .ok (.ifCond .ge 11, 3) := by decide +kernel
theorem dJ9_floorMod_7cf53_10 : decode cJ9_floorMod_7cf53 10 = .ok (.iload_n 2, 1) := by decide +kernel
theorem dJ9_floorMod_7cf53_11 : decode cJ9_floorMod_7cf53 11 = .ok (.ifCond .eq 7, 3) := by decide +kernel
theorem dJ9_floorMod_7cf53_14 : decode cJ9_floorMod_7cf53 14 = .ok (.iload_n 2, 1) := by decide +kernel
theorem dJ9_floorMod_7cf53_15 : decode cJ9_floorMod_7cf53 15 = .ok (.iload_n 1, 1) := by decide +kernel
theorem dJ9_floorMod_7cf53_16 : decode cJ9_floorMod_7cf53 16 = .ok (.iadd, 1) := by decide +kernel
theorem dJ9_floorMod_7cf53_17 : decode cJ9_floorMod_7cf53 17 = .ok (.ireturn, 1) := by decide +kernel
theorem dJ9_floorMod_7cf53_18 : decode cJ9_floorMod_7cf53 18 = .ok (.iload_n 2, 1) := by decide +kernel
theorem dJ9_floorMod_7cf53_19 : decode cJ9_floorMod_7cf53 19 = .ok (.ireturn, 1) := by decide +kernel
theorem dJ7_rangeCheck_23922_0 : decode cJ7_rangeCheck_23922 0 = .ok (.iload_n 1, 1) := by decide +kernel
theorem dJ7_rangeCheck_23922_1 : decode cJ7_rangeCheck_23922 1 = .ok (.iload_n 2, 1) := by decide +kernel
theorem dJ7_rangeCheck_23922_2 : decode cJ7_rangeCheck_23922 2 = .ok (.if_icmp .le 44, 3) := by decide +kernel
theorem dJ7_rangeCheck_23922_5 : decode cJ7_rangeCheck_23922 5 = .ok (.new 43, 3) := by decide +kernel
theorem dJ7_rangeCheck_23922_8 : decode cJ7_rangeCheck_23922 8 = .ok (.dup, 1) := by decide +kernel
theorem dJ7_rangeCheck_23922_9 : decode cJ7_rangeCheck_23922 9 = .ok (.new 45, 3) := by decide +kernel
theorem dJ7_rangeCheck_23922_12 : decode cJ7_rangeCheck_23922 12 = .ok (.dup, 1) := by decide +kernel
theorem dJ7_rangeCheck_23922_13 : decode cJ7_rangeCheck_23922 13 = .ok (.invokespecial 47, 3) := by decide +kernel
theorem dJ7_rangeCheck_23922_16 : decode cJ7_rangeCheck_23922 16 = .ok (.ldc 48, 2) := by decide +kernel
theorem dJ7_rangeCheck_23922_18 : decode cJ7_rangeCheck_23922 18 = .ok (.invokevirtual 50, 3) := by decide +kernel
theorem dJ7_rangeCheck_23922_21 : decode cJ7_rangeCheck_23922 21 = .ok (.iload_n 1, 1) := by decide +kernel
theorem dJ7_rangeCheck_23922_22 : decode cJ7_rangeCheck_23922 22 = .ok (.invokevirtual 54, 3) := by decide +kernel
theorem dJ7_rangeCheck_23922_25 : decode cJ7_rangeCheck_23922 25 = .ok (.ldc 57, 2) := by decide +kernel
theorem dJ7_rangeCheck_23922_27 : decode cJ7_rangeCheck_23922 27 = .ok (.invokevirtual 50, 3) := by decide +kernel
theorem dJ7_rangeCheck_23922_30 : decode cJ7_rangeCheck_23922 30 = .ok (.iload_n 2, 1) := by decide +kernel
theorem dJ7_rangeCheck_23922_31 : decode cJ7_rangeCheck_23922 31 = .ok (.invokevirtual 54, 3) := by decide +kernel
theorem dJ7_rangeCheck_23922_34 : decode cJ7_rangeCheck_23922 34 = .ok (.ldc 59, 2) := by decide +kernel
theorem dJ7_rangeCheck_23922_36 : decode cJ7_rangeCheck_23922 36 = .ok (.invokevirtual 50, 3) := by decide +kernel
theorem dJ7_rangeCheck_23922_39 : decode cJ7_rangeCheck_23922 39 = .ok (.invokevirtual 61, 3) := by decide +kernel
theorem dJ7_rangeCheck_23922_42 : decode cJ7_rangeCheck_23922 42 = .ok (.invokespecial 65, 3) := by decide +kernel
theorem dJ7_rangeCheck_23922_45 : decode cJ7_rangeCheck_23922 45 = .ok (.athrow, 1) := by decide +kernel
theorem dJ7_rangeCheck_23922_46 : decode cJ7_rangeCheck_23922 46 = .ok (.iload_n 1, 1) := by decide +kernel
theorem dJ7_rangeCheck_23922_47 : decode cJ7_rangeCheck_23922 47 = .ok (.ifCond .ge 12, 3) := by decide +kernel
theorem dJ7_rangeCheck_23922_50 : decode cJ7_rangeCheck_23922 50 = .ok (.new 68, 3) := by decide +kernel
theorem dJ7_rangeCheck_23922_53 : decode cJ7_rangeCheck_23922 53 = .ok (.dup, 1) := by decide +kernel
theorem dJ7_rangeCheck_23922_54 : decode cJ7_rangeCheck_23922 54 = .ok (.iload_n 1, 1) := by decide +kernel
theorem dJ7_rangeCheck_23922_55 : decode cJ7_rangeCheck_23922 55 = .ok (.invokespecial 70, 3) := by decide +kernel
theorem dJ7_rangeCheck_23922_58 : decode cJ7_rangeCheck_23922 58 = .ok (.athrow, 1) := by decide +kernel
theorem dJ7_rangeCheck_23922_59 : decode cJ7_rangeCheck_23922 59 = .ok (.iload_n 2, 1) := by decide +kernel
theorem dJ7_rangeCheck_23922_60 : decode cJ7_rangeCheck_23922 60 = .ok (.iload_n 0, 1) := by decide +kernel
theorem dJ7_rangeCheck_23922_61 : decode cJ7_rangeCheck_23922 61 = .ok (.if_icmp .le 12, 3) := by decide +kernel
theorem dJ7_rangeCheck_23922_64 : decode cJ7_rangeCheck_23922 64 = .ok (.new 68, 3) := by decide +kernel
theorem dJ7_rangeCheck_23922_67 : decode cJ7_rangeCheck_23922 67 = .ok (.dup, 1) := by decide +kernel
theorem dJ7_rangeCheck_23922_68 : decode cJ7_rangeCheck_23922 68 = .ok (.iload_n 2, 1) := by decide +kernel
theorem dJ7_rangeCheck_23922_69 : decode cJ7_rangeCheck_23922 69 = .ok (.invokespecial 70, 3) := by decide +kernel
theorem dJ7_rangeCheck_23922_72 : decode cJ7_rangeCheck_23922 72 = .ok (.athrow, 1) := by decide +kernel
theorem dJ7_rangeCheck_23922_73 : decode cJ7_rangeCheck_23922 73 = .ok (.return_, 1) := by decide +kernel
theorem dJ7_fill_53178_0 : decode cJ7_fill_53178 0 = .ok (.iconst 0, 1) := by decide +kernel
theorem dJ7_fill_53178_1 : decode cJ7_fill_53178 1 = .ok (.istore_n 2, 1) := by decide +kernel
theorem dJ7_fill_53178_2 : decode cJ7_fill_53178 2 = .ok (.aload_n 0, 1) := by decide +kernel
theorem dJ7_fill_53178_3 : decode cJ7_fill_53178 3 = .ok (.arraylength, 1) := by decide +kernel
theorem dJ7_fill_53178_4 : decode cJ7_fill_53178 4 = .ok (.istore_n 3, 1) := by decide +kernel
theorem dJ7_fill_53178_5 : decode cJ7_fill_53178 5 = .ok (.iload_n 2, 1) := by decide +kernel
theorem dJ7_fill_53178_6 : decode cJ7_fill_53178 6 = .ok (.iload_n 3, 1) := by decide +kernel
theorem dJ7_fill_53178_7 : decode cJ7_fill_53178 7 = .ok (.if_icmp .ge 13, 3) := by decide +kernel
theorem dJ7_fill_53178_10 : decode cJ7_fill_53178 10 = .ok (.aload_n 0, 1) := by decide +kernel
theorem dJ7_fill_53178_11 : decode cJ7_fill_53178 11 = .ok (.iload_n 2, 1) := by decide +kernel
theorem dJ7_fill_53178_12 : decode cJ7_fill_53178 12 = .ok (.iload_n 1, 1) := by decide +kernel
theorem dJ7_fill_53178_13 : decode cJ7_fill_53178 13 = .ok (.iastore, 1) := by decide +kernel
theorem dJ7_fill_53178_14 : decode cJ7_fill_53178 14 = .ok (.iinc 2 1, 3) := by decide +kernel
theorem dJ7_fill_53178_17 : decode cJ7_fill_53178 17 = .ok (.goto (-12), 3) := by decide +kernel
theorem dJ7_fill_53178_20 : decode cJ7_fill_53178 20 = .ok (.return_, 1) := by decide +kernel
theorem dJ7_fill_fda19_0 : decode cJ7_fill_fda19 0 = .ok (.aload_n 0, 1) := by decide +kernel
theorem dJ7_fill_fda19_1 : decode cJ7_fill_fda19 1 = .ok (.arraylength, 1) := by decide +kernel
theorem dJ7_fill_fda19_2 : decode cJ7_fill_fda19 2 = .ok (.iload_n 1, 1) := by decide +kernel
theorem dJ7_fill_fda19_3 : decode cJ7_fill_fda19 3 = .ok (.iload_n 2, 1) := by decide +kernel
theorem dJ7_fill_fda19_4 : decode cJ7_fill_fda19 4 = .ok (.invokestatic 13, 3) := by decide +kernel
theorem dJ7_fill_fda19_7 : decode cJ7_fill_fda19 7 = .ok (.iload_n 1, 1) := by decide +kernel
theorem dJ7_fill_fda19_8 : decode cJ7_fill_fda19 8 = .ok (.istore 4, 2) := by decide +kernel
theorem dJ7_fill_fda19_10 : decode cJ7_fill_fda19 10 = .ok (.iload 4, 2) := by decide +kernel
theorem dJ7_fill_fda19_12 : decode cJ7_fill_fda19 12 = .ok (.iload_n 2, 1) := by decide +kernel
theorem dJ7_fill_fda19_13 : decode cJ7_fill_fda19 13 = .ok (.if_icmp .ge 14, 3) := by decide +kernel
theorem dJ7_fill_fda19_16 : decode cJ7_fill_fda19 16 = .ok (.aload_n 0, 1) := by decide +kernel
theorem dJ7_fill_fda19_17 : decode cJ7_fill_fda19 17 = .ok (.iload 4, 2) := by decide +kernel
theorem dJ7_fill_fda19_19 : decode cJ7_fill_fda19 19 = .ok (.iload_n 3, 1) := by decide +kernel
theorem dJ7_fill_fda19_20 : decode cJ7_fill_fda19 20 = .ok (.iastore, 1) := by decide +kernel
theorem dJ7_fill_fda19_21 : decode cJ7_fill_fda19 21 = .ok (.iinc 4 1, 3) := by decide +kernel
theorem dJ7_fill_fda19_24 : decode cJ7_fill_fda19 24 = .ok (.goto (-14), 3) := by decide +kernel
theorem dJ7_fill_fda19_27 : decode cJ7_fill_fda19 27 = .ok (.return_, 1) := by decide +kernel
