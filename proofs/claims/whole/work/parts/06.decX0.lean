theorem dX9_init_0 : decode cX9_init 0 = .ok (.aload_n 0, 1) := by decide +kernel
theorem dX9_init_1 : decode cX9_init 1 = .ok (.invokespecial 3, 3) := by decide +kernel
theorem dX9_init_4 : decode cX9_init 4 = .ok (.aload_n 0, 1) := by decide +kernel
theorem dX9_init_5 : decode cX9_init 5 = .ok (.new 9, 3) := by decide +kernel
theorem dX9_init_8 : decode cX9_init 8 = .ok (.dup, 1) := by decide +kernel
theorem dX9_init_9 : decode cX9_init 9 = .ok (.invokespecial 11, 3) := by decide +kernel
theorem dX9_init_12 : decode cX9_init 12 = .ok (.putfield 12, 3) := by decide +kernel
theorem dX9_init_15 : decode cX9_init 15 = .ok (.aload_n 0, 1) := by decide +kernel
theorem dX9_init_16 : decode cX9_init 16 = .ok (.aload_n 0, 1) := by decide +kernel
theorem dX9_init_17 : decode cX9_init 17 = .ok (.getfield 12, 3) := by decide +kernel
theorem dX9_init_20 : decode cX9_init 20 = .ok (.getfield 16, 3) := by decide +kernel
theorem dX9_init_23 : decode cX9_init 23 = .ok (.putfield 20, 3) := by decide +kernel
theorem dX9_init_26 : decode cX9_init 26 = .ok (.aload_n 0, 1) := by decide +kernel
theorem dX9_init_27 : decode cX9_init 27 = .ok (.new 21, 3) := by decide +kernel
theorem dX9_init_30 : decode cX9_init 30 = .ok (.dup, 1) := by decide +kernel
theorem dX9_init_31 : decode cX9_init 31 = .ok (.invokespecial 23, 3) := by decide +kernel
theorem dX9_init_34 : decode cX9_init 34 = .ok (.putfield 24, 3) := by decide +kernel
theorem dX9_init_37 : decode cX9_init 37 = .ok (.aload_n 0, 1) := by decide +kernel
theorem dX9_init_38 : decode cX9_init 38 = .ok (.new 28, 3) := by decide +kernel
theorem dX9_init_41 : decode cX9_init 41 = .ok (.dup, 1) := by decide +kernel
theorem dX9_init_42 : decode cX9_init 42 = .ok (.invokespecial 30, 3) := by decide +kernel
theorem dX9_init_45 : decode cX9_init 45 = .ok (.putfield 31, 3) := by decide +kernel
theorem dX9_init_48 : decode cX9_init 48 = .ok (.aload_n 0, 1) := by decide +kernel
theorem dX9_init_49 : decode cX9_init 49 = .ok (.new 35, 3) := by decide +kernel
theorem dX9_init_52 : decode cX9_init 52 = .ok (.dup, 1) := by decide +kernel
theorem dX9_init_53 : decode cX9_init 53 = .ok (.invokespecial 37, 3) := by decide +kernel
theorem dX9_init_56 : decode cX9_init 56 = .ok (.putfield 38, 3) := by decide +kernel
theorem dX9_init_59 : decode cX9_init 59 = .ok (.aload_n 0, 1) := by decide +kernel
theorem dX9_init_60 : decode cX9_init 60 = .ok (.new 42, 3) := by decide +kernel
theorem dX9_init_63 : decode cX9_init 63 = .ok (.dup, 1) := by decide +kernel
theorem dX9_init_64 : decode cX9_init 64 = .ok (.invokespecial 44, 3) := by decide +kernel
theorem dX9_init_67 : decode cX9_init 67 = .ok (.putfield 45, 3) := by decide +kernel
theorem dX9_init_70 : decode cX9_init 70 = .ok (.aload_n 0, 1) := by decide +kernel
theorem dX9_init_71 : decode cX9_init 71 = .ok (.new 49, 3) := by decide +kernel
theorem dX9_init_74 : decode cX9_init 74 = .ok (.dup, 1) := by decide +kernel
theorem dX9_init_75 : decode cX9_init 75 = .ok (.invokespecial 51, 3) := by decide +kernel
theorem dX9_init_78 : decode cX9_init 78 = .ok (.putfield 52, 3) := by decide +kernel
theorem dX9_init_81 : decode cX9_init 81 = .ok (.aload_n 0, 1) := by decide +kernel
theorem dX9_init_82 : decode cX9_init 82 = .ok (.new 56, 3) := by decide +kernel
theorem dX9_init_85 : decode cX9_init 85 = .ok (.dup, 1) := by decide +kernel
theorem dX9_init_86 : decode cX9_init 86 = .ok (.invokespecial 58, 3) := by decide +kernel
theorem dX9_init_89 : decode cX9_init 89 = .ok (.putfield 59, 3) := by decide +kernel
theorem dX9_init_92 : decode cX9_init 92 = .ok (.aload_n 0, 1) := by decide +kernel
theorem dX9_init_93 : decode cX9_init 93 = .ok (.new 63, 3) := by decide +kernel
theorem dX9_init_96 : decode cX9_init 96 = .ok (.dup, 1) := by decide +kernel
theorem dX9_init_97 : decode cX9_init 97 = .ok (.invokespecial 65, 3) := by decide +kernel
theorem dX9_init_100 : decode cX9_init 100 = .ok (.putfield 66, 3) := by decide +kernel
theorem dX9_init_103 : decode cX9_init 103 = .ok (.return_, 1) := by decide +kernel
theorem dX9_feed_0 : decode cX9_feed 0 = .ok (.aload_n 0, 1) := by decide +kernel
theorem dX9_feed_1 : decode cX9_feed 1 = .ok (.getfield 20, 3) := by decide +kernel
theorem dX9_feed_4 : decode cX9_feed 4 = .ok (.getfield 70, 3) := by decide +kernel
theorem dX9_feed_7 : decode cX9_feed 7 = .ok (.bipush 20, 2) := by decide +kernel
theorem dX9_feed_9 : decode cX9_feed 9 = .ok (.iadd, 1) := by decide +kernel
theorem dX9_feed_10 : decode cX9_feed 10 = .ok (.sipush 400, 3) := by decide +kernel
theorem dX9_feed_13 : decode cX9_feed 13 = .ok (.if_icmp .le 5, 3) := by decide +kernel
theorem dX9_feed_16 : decode cX9_feed 16 = .ok (.iconst (-1), 1) := by decide +kernel
theorem dX9_feed_17 : decode cX9_feed 17 = .ok (.ireturn, 1) := by decide +kernel
theorem dX9_feed_18 : decode cX9_feed 18 = .ok (.aload_n 0, 1) := by decide +kernel
theorem dX9_feed_19 : decode cX9_feed 19 = .ok (.getfield 20, 3) := by decide +kernel
theorem dX9_feed_22 : decode cX9_feed 22 = .ok (.iload_n 1, 1) := by decide +kernel
theorem dX9_feed_23 : decode cX9_feed 23 = .ok (.invokevirtual 76, 3) := by decide +kernel
theorem dX9_feed_26 : decode cX9_feed 26 = .ok (.aload_n 0, 1) := by decide +kernel
theorem dX9_feed_27 : decode cX9_feed 27 = .ok (.getfield 20, 3) := by decide +kernel
theorem dX9_feed_30 : decode cX9_feed 30 = .ok (.iload_n 2, 1) := by decide +kernel
theorem dX9_feed_31 : decode cX9_feed 31 = .ok (.invokevirtual 76, 3) := by decide +kernel
theorem dX9_feed_34 : decode cX9_feed 34 = .ok (.aload_n 0, 1) := by decide +kernel
theorem dX9_feed_35 : decode cX9_feed 35 = .ok (.getfield 20, 3) := by decide +kernel
theorem dX9_feed_38 : decode cX9_feed 38 = .ok (.iload_n 3, 1) := by decide +kernel
theorem dX9_feed_39 : decode cX9_feed 39 = .ok (.invokevirtual 76, 3) := by decide +kernel
theorem dX9_feed_42 : decode cX9_feed 42 = .ok (.aload_n 0, 1) := by decide +kernel
theorem dX9_feed_43 : decode cX9_feed 43 = .ok (.getfield 20, 3) := by decide +kernel
theorem dX9_feed_46 : decode cX9_feed 46 = .ok (.iload 4, 2) := by decide +kernel
theorem dX9_feed_48 : decode cX9_feed 48 = .ok (.invokevirtual 76, 3) := by decide +kernel
theorem dX9_feed_51 : decode cX9_feed 51 = .ok (.aload_n 0, 1) := by decide +kernel
theorem dX9_feed_52 : decode cX9_feed 52 = .ok (.getfield 20, 3) := by decide +kernel
theorem dX9_feed_55 : decode cX9_feed 55 = .ok (.iload 5, 2) := by decide +kernel
theorem dX9_feed_57 : decode cX9_feed 57 = .ok (.invokevirtual 76, 3) := by decide +kernel
theorem dX9_feed_60 : decode cX9_feed 60 = .ok (.aload_n 0, 1) := by decide +kernel
theorem dX9_feed_61 : decode cX9_feed 61 = .ok (.getfield 20, 3) := by decide +kernel
theorem dX9_feed_64 : decode cX9_feed 64 = .ok (.getfield 70, 3) := by decide +kernel
theorem dX9_feed_67 : decode cX9_feed 67 = .ok (.ireturn, 1) := by decide +kernel
theorem dX9_back_0 : decode cX9_back 0 = .ok (.iload_n 1, 1) := by decide +kernel
theorem dX9_back_1 : decode cX9_back 1 = .ok (.ifCond .lt 14, 3) := by decide +kernel
theorem dX9_back_4 : decode cX9_back 4 = .ok (.iload_n 1, 1) := by decide +kernel
theorem dX9_back_5 : decode cX9_back 5 = .ok (.aload_n 0, 1) := by decide +kernel
theorem dX9_back_6 : decode cX9_back 6 = .ok (.getfield 20, 3) := by decide +kernel
theorem dX9_back_9 : decode cX9_back 9 = .ok (.getfield 70, 3) := by decide +kernel
theorem dX9_back_12 : decode cX9_back 12 = .ok (.if_icmp .le 5, 3) := by decide +kernel
theorem dX9_back_15 : decode cX9_back 15 = .ok (.iconst (-1), 1) := by decide +kernel
theorem dX9_back_16 : decode cX9_back 16 = .ok (.ireturn, 1) := by decide +kernel
theorem dX9_back_17 : decode cX9_back 17 = .ok (.aload_n 0, 1) := by decide +kernel
theorem dX9_back_18 : decode cX9_back 18 = .ok (.getfield 20, 3) := by decide +kernel
theorem dX9_back_21 : decode cX9_back 21 = .ok (.dup, 1) := by decide +kernel
theorem dX9_back_22 : decode cX9_back 22 = .ok (.getfield 70, 3) := by decide +kernel
theorem dX9_back_25 : decode cX9_back 25 = .ok (.iload_n 1, 1) := by decide +kernel
theorem dX9_back_26 : decode cX9_back 26 = .ok (.isub, 1) := by decide +kernel
theorem dX9_back_27 : decode cX9_back 27 = .ok (.putfield 70, 3) := by decide +kernel
theorem dX9_back_30 : decode cX9_back 30 = .ok (.aload_n 0, 1) := by decide +kernel
theorem dX9_back_31 : decode cX9_back 31 = .ok (.getfield 20, 3) := by decide +kernel
theorem dX9_back_34 : decode cX9_back 34 = .ok (.getfield 70, 3) := by decide +kernel
theorem dX9_back_37 : decode cX9_back 37 = .ok (.ireturn, 1) := by decide +kernel
theorem dX9_text_0 : decode cX9_text 0 = .ok (.aload_n 0, 1) := by decide +kernel
theorem dX9_text_1 : decode cX9_text 1 = .ok (.getfield 12, 3) := by decide +kernel
theorem dX9_text_4 : decode cX9_text 4 = .ok (.invokevirtual 80, 3) := by decide +kernel
theorem dX9_text_7 : decode cX9_text 7 = .ok (.istore_n 1, 1) := by decide +kernel
theorem dX9_text_8 : decode cX9_text 8 = .ok (.aload_n 0, 1) := by decide +kernel
theorem dX9_text_9 : decode cX9_text 9 = .ok (.getfield 20, 3) := by decide +kernel
theorem dX9_text_12 : decode cX9_text 12 = .ok (.iconst 0, 1) := by decide +kernel
theorem dX9_text_13 : decode cX9_text 13 = .ok (.putfield 70, 3) := by decide +kernel
theorem dX9_text_16 : decode cX9_text 16 = .ok (.iload_n 1, 1) := by decide +kernel
theorem dX9_text_17 : decode cX9_text 17 = .ok (.iconst (-1), 1) := by decide +kernel
theorem dX9_text_18 : decode cX9_text 18 = .ok (.if_icmp .eq 8, 3) := by decide +kernel
theorem dX9_text_21 : decode cX9_text 21 = .ok (.bipush (-4), 2) := by decide +kernel
theorem dX9_text_23 : decode cX9_text 23 = .ok (.iload_n 1, 1) := by decide +kernel
theorem dX9_text_24 : decode cX9_text 24 = .ok (.isub, 1) := by decide +kernel
theorem dX9_text_25 : decode cX9_text 25 = .ok (.ireturn, 1) := by decide +kernel
theorem dX9_text_26 : decode cX9_text 26 = .ok (.aload_n 0, 1) := by decide +kernel
theorem dX9_text_27 : decode cX9_text 27 = .ok (.getfield 24, 3) := by decide +kernel
theorem dX9_text_30 : decode cX9_text 30 = .ok (.aload_n 0, 1) := by decide +kernel
theorem dX9_text_31 : decode cX9_text 31 = .ok (.getfield 12, 3) := by decide +kernel
theorem dX9_text_34 : decode cX9_text 34 = .ok (.getfield 84, 3) := by decide +kernel
theorem dX9_text_37 : decode cX9_text 37 = .ok (.invokevirtual 87, 3) := by decide +kernel
theorem dX9_text_40 : decode cX9_text 40 = .ok (.aload_n 0, 1) := by decide +kernel
theorem dX9_text_41 : decode cX9_text 41 = .ok (.getfield 31, 3) := by decide +kernel
theorem dX9_text_44 : decode cX9_text 44 = .ok (.iconst 0, 1) := by decide +kernel
theorem dX9_text_45 : decode cX9_text 45 = .ok (.putfield 91, 3) := by decide +kernel
theorem dX9_text_48 : decode cX9_text 48 = .ok (.aload_n 0, 1) := by decide +kernel
theorem dX9_text_49 : decode cX9_text 49 = .ok (.invokevirtual 94, 3) := by decide +kernel
theorem dX9_text_52 : decode cX9_text 52 = .ok (.aload_n 0, 1) := by decide +kernel
theorem dX9_text_53 : decode cX9_text 53 = .ok (.getfield 24, 3) := by decide +kernel
theorem dX9_text_56 : decode cX9_text 56 = .ok (.getfield 97, 3) := by decide +kernel
theorem dX9_text_59 : decode cX9_text 59 = .ok (.ireturn, 1) := by decide +kernel
theorem dX9_column_0 : decode cX9_column 0 = .ok (.aload_n 0, 1) := by decide +kernel
theorem dX9_column_1 : decode cX9_column 1 = .ok (.getfield 24, 3) := by decide +kernel
theorem dX9_column_4 : decode cX9_column 4 = .ok (.iload_n 1, 1) := by decide +kernel
theorem dX9_column_5 : decode cX9_column 5 = .ok (.invokevirtual 100, 3) := by decide +kernel
theorem dX9_column_8 : decode cX9_column 8 = .ok (.ifCond .ne 5, 3) := by decide +kernel
theorem dX9_column_11 : decode cX9_column 11 = .ok (.iconst (-1), 1) := by decide +kernel
theorem dX9_column_12 : decode cX9_column 12 = .ok (.ireturn, 1) := by decide +kernel
theorem dX9_column_13 : decode cX9_column 13 = .ok (.aload_n 0, 1) := by decide +kernel
theorem dX9_column_14 : decode cX9_column 14 = .ok (.invokevirtual 104, 3) := by decide +kernel
theorem dX9_column_17 : decode cX9_column 17 = .ok (.aload_n 0, 1) := by decide +kernel
theorem dX9_column_18 : decode cX9_column 18 = .ok (.getfield 24, 3) := by decide +kernel
theorem dX9_column_21 : decode cX9_column 21 = .ok (.iload_n 1, 1) := by decide +kernel
theorem dX9_column_22 : decode cX9_column 22 = .ok (.invokevirtual 107, 3) := by decide +kernel
theorem dX9_column_25 : decode cX9_column 25 = .ok (.aload_n 0, 1) := by decide +kernel
theorem dX9_column_26 : decode cX9_column 26 = .ok (.getfield 24, 3) := by decide +kernel
theorem dX9_column_29 : decode cX9_column 29 = .ok (.invokevirtual 110, 3) := by decide +kernel
theorem dX9_column_32 : decode cX9_column 32 = .ok (.aload_n 0, 1) := by decide +kernel
theorem dX9_column_33 : decode cX9_column 33 = .ok (.getfield 24, 3) := by decide +kernel
theorem dX9_column_36 : decode cX9_column 36 = .ok (.getfield 113, 3) := by decide +kernel
theorem dX9_column_39 : decode cX9_column 39 = .ok (.iconst 1, 1) := by decide +kernel
theorem dX9_column_40 : decode cX9_column 40 = .ok (.isub, 1) := by decide +kernel
theorem dX9_column_41 : decode cX9_column 41 = .ok (.ireturn, 1) := by decide +kernel
theorem dX9_row_0 : decode cX9_row 0 = .ok (.aload_n 0, 1) := by decide +kernel
theorem dX9_row_1 : decode cX9_row 1 = .ok (.getfield 24, 3) := by decide +kernel
theorem dX9_row_4 : decode cX9_row 4 = .ok (.invokevirtual 116, 3) := by decide +kernel
theorem dX9_row_7 : decode cX9_row 7 = .ok (.ifCond .ne 5, 3) := by decide +kernel
theorem dX9_row_10 : decode cX9_row 10 = .ok (.iconst (-1), 1) := by decide +kernel
theorem dX9_row_11 : decode cX9_row 11 = .ok (.ireturn, 1) := by decide +kernel
theorem dX9_row_12 : decode cX9_row 12 = .ok (.aload_n 0, 1) := by decide +kernel
theorem dX9_row_13 : decode cX9_row 13 = .ok (.invokevirtual 104, 3) := by decide +kernel
theorem dX9_row_16 : decode cX9_row 16 = .ok (.aload_n 0, 1) := by decide +kernel
theorem dX9_row_17 : decode cX9_row 17 = .ok (.getfield 24, 3) := by decide +kernel
theorem dX9_row_20 : decode cX9_row 20 = .ok (.dup, 1) := by decide +kernel
theorem dX9_row_21 : decode cX9_row 21 = .ok (.getfield 97, 3) := by decide +kernel
theorem dX9_row_24 : decode cX9_row 24 = .ok (.iconst 1, 1) := by decide +kernel
theorem dX9_row_25 : decode cX9_row 25 = .ok (.iadd, 1) := by decide +kernel
theorem dX9_row_26 : decode cX9_row 26 = .ok (.putfield 97, 3) := by decide +kernel
theorem dX9_row_29 : decode cX9_row 29 = .ok (.aload_n 0, 1) := by decide +kernel
theorem dX9_row_30 : decode cX9_row 30 = .ok (.getfield 24, 3) := by decide +kernel
theorem dX9_row_33 : decode cX9_row 33 = .ok (.invokevirtual 110, 3) := by decide +kernel
theorem dX9_row_36 : decode cX9_row 36 = .ok (.aload_n 0, 1) := by decide +kernel
theorem dX9_row_37 : decode cX9_row 37 = .ok (.getfield 24, 3) := by decide +kernel
theorem dX9_row_40 : decode cX9_row 40 = .ok (.getfield 97, 3) := by decide +kernel
theorem dX9_row_43 : decode cX9_row 43 = .ok (.iconst 1, 1) := by decide +kernel
theorem dX9_row_44 : decode cX9_row 44 = .ok (.isub, 1) := by decide +kernel
theorem dX9_row_45 : decode cX9_row 45 = .ok (.ireturn, 1) := by decide +kernel
theorem dX9_drop_0 : decode cX9_drop 0 = .ok (.aload_n 0, 1) := by decide +kernel
theorem dX9_drop_1 : decode cX9_drop 1 = .ok (.getfield 24, 3) := by decide +kernel
theorem dX9_drop_4 : decode cX9_drop 4 = .ok (.iload_n 1, 1) := by decide +kernel
theorem dX9_drop_5 : decode cX9_drop 5 = .ok (.invokevirtual 120, 3) := by decide +kernel
theorem dX9_drop_8 : decode cX9_drop 8 = .ok (.ifCond .ne 5, 3) := by decide +kernel
theorem dX9_drop_11 : decode cX9_drop 11 = .ok (.iconst (-1), 1) := by decide +kernel
theorem dX9_drop_12 : decode cX9_drop 12 = .ok (.ireturn, 1) := by decide +kernel
theorem dX9_drop_13 : decode cX9_drop 13 = .ok (.aload_n 0, 1) := by decide +kernel
theorem dX9_drop_14 : decode cX9_drop 14 = .ok (.getfield 24, 3) := by decide +kernel
theorem dX9_drop_17 : decode cX9_drop 17 = .ok (.iload_n 1, 1) := by decide +kernel
theorem dX9_drop_18 : decode cX9_drop 18 = .ok (.invokevirtual 123, 3) := by decide +kernel
theorem dX9_drop_21 : decode cX9_drop 21 = .ok (.istore_n 2, 1) := by decide +kernel
theorem dX9_drop_22 : decode cX9_drop 22 = .ok (.aload_n 0, 1) := by decide +kernel
theorem dX9_drop_23 : decode cX9_drop 23 = .ok (.invokevirtual 104, 3) := by decide +kernel
theorem dX9_drop_26 : decode cX9_drop 26 = .ok (.aload_n 0, 1) := by decide +kernel
theorem dX9_drop_27 : decode cX9_drop 27 = .ok (.getfield 24, 3) := by decide +kernel
theorem dX9_drop_30 : decode cX9_drop 30 = .ok (.iload_n 1, 1) := by decide +kernel
theorem dX9_drop_31 : decode cX9_drop 31 = .ok (.invokevirtual 127, 3) := by decide +kernel
theorem dX9_drop_34 : decode cX9_drop 34 = .ok (.aload_n 0, 1) := by decide +kernel
theorem dX9_drop_35 : decode cX9_drop 35 = .ok (.getfield 24, 3) := by decide +kernel
theorem dX9_drop_38 : decode cX9_drop 38 = .ok (.invokevirtual 110, 3) := by decide +kernel
theorem dX9_drop_41 : decode cX9_drop 41 = .ok (.iload_n 2, 1) := by decide +kernel
theorem dX9_drop_42 : decode cX9_drop 42 = .ok (.ireturn, 1) := by decide +kernel
theorem dX9_put_0 : decode cX9_put 0 = .ok (.aload_n 0, 1) := by decide +kernel
theorem dX9_put_1 : decode cX9_put 1 = .ok (.iload_n 1, 1) := by decide +kernel
theorem dX9_put_2 : decode cX9_put 2 = .ok (.ifCond .eq 7, 3) := by decide +kernel
theorem dX9_put_5 : decode cX9_put 5 = .ok (.iconst 1, 1) := by decide +kernel
theorem dX9_put_6 : decode cX9_put 6 = .ok (.goto 4, 3) := by decide +kernel
theorem dX9_put_9 : decode cX9_put 9 = .ok (.iconst 0, 1) := by decide +kernel
theorem dX9_put_10 : decode cX9_put 10 = .ok (.iload_n 2, 1) := by decide +kernel
theorem dX9_put_11 : decode cX9_put 11 = .ok (.iconst 0, 1) := by decide +kernel
theorem dX9_put_12 : decode cX9_put 12 = .ok (.iload_n 3, 1) := by decide +kernel
theorem dX9_put_13 : decode cX9_put 13 = .ok (.iload 4, 2) := by decide +kernel
theorem dX9_put_15 : decode cX9_put 15 = .ok (.invokevirtual 130, 3) := by decide +kernel
theorem dX9_put_18 : decode cX9_put 18 = .ok (.ifCond .eq 15, 3) := by decide +kernel
theorem dX9_put_21 : decode cX9_put 21 = .ok (.aload_n 0, 1) := by decide +kernel
theorem dX9_put_22 : decode cX9_put 22 = .ok (.getfield 24, 3) := by decide +kernel
theorem dX9_put_25 : decode cX9_put 25 = .ok (.iload_n 2, 1) := by decide +kernel
theorem dX9_put_26 : decode cX9_put 26 = .ok (.iload_n 3, 1) := by decide +kernel
theorem dX9_put_27 : decode cX9_put 27 = .ok (.invokevirtual 134, 3) := by decide +kernel
theorem dX9_put_30 : decode cX9_put 30 = .ok (.goto 4, 3) := by decide +kernel
theorem dX9_put_33 : decode cX9_put 33 = .ok (.iconst (-1), 1) := by decide +kernel
theorem dX9_put_34 : decode cX9_put 34 = .ok (.ireturn, 1) := by decide +kernel
theorem dX9_carry_0 : decode cX9_carry 0 = .ok (.aload_n 0, 1) := by decide +kernel
theorem dX9_carry_1 : decode cX9_carry 1 = .ok (.iload_n 1, 1) := by decide +kernel
theorem dX9_carry_2 : decode cX9_carry 2 = .ok (.ifCond .eq 7, 3) := by decide +kernel
theorem dX9_carry_5 : decode cX9_carry 5 = .ok (.iconst 3, 1) := by decide +kernel
theorem dX9_carry_6 : decode cX9_carry 6 = .ok (.goto 4, 3) := by decide +kernel
theorem dX9_carry_9 : decode cX9_carry 9 = .ok (.iconst 2, 1) := by decide +kernel
theorem dX9_carry_10 : decode cX9_carry 10 = .ok (.iload_n 2, 1) := by decide +kernel
theorem dX9_carry_11 : decode cX9_carry 11 = .ok (.iconst 0, 1) := by decide +kernel
theorem dX9_carry_12 : decode cX9_carry 12 = .ok (.iload_n 3, 1) := by decide +kernel
theorem dX9_carry_13 : decode cX9_carry 13 = .ok (.iconst 0, 1) := by decide +kernel
theorem dX9_carry_14 : decode cX9_carry 14 = .ok (.invokevirtual 130, 3) := by decide +kernel
theorem dX9_carry_17 : decode cX9_carry 17 = .ok (.ifCond .eq 15, 3) := by decide +kernel
theorem dX9_carry_20 : decode cX9_carry 20 = .ok (.aload_n 0, 1) := by decide +kernel
theorem dX9_carry_21 : decode cX9_carry 21 = .ok (.getfield 24, 3) := by decide +kernel
theorem dX9_carry_24 : decode cX9_carry 24 = .ok (.iload_n 2, 1) := by decide +kernel
theorem dX9_carry_25 : decode cX9_carry 25 = .ok (.iload_n 3, 1) := by decide +kernel
theorem dX9_carry_26 : decode cX9_carry 26 = .ok (.invokevirtual 134, 3) := by decide +kernel
theorem dX9_carry_29 : decode cX9_carry 29 = .ok (.goto 4, 3) := by decide +kernel
theorem dX9_carry_32 : decode cX9_carry 32 = .ok (.iconst (-1), 1) := by decide +kernel
theorem dX9_carry_33 : decode cX9_carry 33 = .ok (.ireturn, 1) := by decide +kernel
theorem dX9_shift_0 : decode cX9_shift 0 = .ok (.aload_n 0, 1) := by decide +kernel
theorem dX9_shift_1 : decode cX9_shift 1 = .ok (.iconst 4, 1) := by decide +kernel
theorem dX9_shift_2 : decode cX9_shift 2 = .ok (.iload_n 1, 1) := by decide +kernel
theorem dX9_shift_3 : decode cX9_shift 3 = .ok (.iload_n 2, 1) := by decide +kernel
theorem dX9_shift_4 : decode cX9_shift 4 = .ok (.iload_n 3, 1) := by decide +kernel
theorem dX9_shift_5 : decode cX9_shift 5 = .ok (.iload 4, 2) := by decide +kernel
theorem dX9_shift_7 : decode cX9_shift 7 = .ok (.invokevirtual 130, 3) := by decide +kernel
theorem dX9_shift_10 : decode cX9_shift 10 = .ok (.ifCond .eq 15, 3) := by decide +kernel
theorem dX9_shift_13 : decode cX9_shift 13 = .ok (.aload_n 0, 1) := by decide +kernel
theorem dX9_shift_14 : decode cX9_shift 14 = .ok (.getfield 24, 3) := by decide +kernel
theorem dX9_shift_17 : decode cX9_shift 17 = .ok (.iload_n 2, 1) := by decide +kernel
theorem dX9_shift_18 : decode cX9_shift 18 = .ok (.iload_n 3, 1) := by decide +kernel
theorem dX9_shift_19 : decode cX9_shift 19 = .ok (.invokevirtual 134, 3) := by decide +kernel
theorem dX9_shift_22 : decode cX9_shift 22 = .ok (.goto 4, 3) := by decide +kernel
theorem dX9_shift_25 : decode cX9_shift 25 = .ok (.iconst (-1), 1) := by decide +kernel
theorem dX9_shift_26 : decode cX9_shift 26 = .ok (.ireturn, 1) := by decide +kernel
theorem dX9_strike_0 : decode cX9_strike 0 = .ok (.aload_n 0, 1) := by decide +kernel
theorem dX9_strike_1 : decode cX9_strike 1 = .ok (.getfield 24, 3) := by decide +kernel
theorem dX9_strike_4 : decode cX9_strike 4 = .ok (.getfield 138, 3) := by decide +kernel
theorem dX9_strike_7 : decode cX9_strike 7 = .ok (.ifCond .ne 5, 3) := by decide +kernel
theorem dX9_strike_10 : decode cX9_strike 10 = .ok (.iconst (-1), 1) := by decide +kernel
theorem dX9_strike_11 : decode cX9_strike 11 = .ok (.ireturn, 1) := by decide +kernel
theorem dX9_strike_12 : decode cX9_strike 12 = .ok (.aload_n 0, 1) := by decide +kernel
theorem dX9_strike_13 : decode cX9_strike 13 = .ok (.getfield 24, 3) := by decide +kernel
theorem dX9_strike_16 : decode cX9_strike 16 = .ok (.aload_n 0, 1) := by decide +kernel
theorem dX9_strike_17 : decode cX9_strike 17 = .ok (.getfield 66, 3) := by decide +kernel
theorem dX9_strike_20 : decode cX9_strike 20 = .ok (.aload_n 0, 1) := by decide +kernel
theorem dX9_strike_21 : decode cX9_strike 21 = .ok (.getfield 24, 3) := by decide +kernel
theorem dX9_strike_24 : decode cX9_strike 24 = .ok (.getfield 138, 3) := by decide +kernel
theorem dX9_strike_27 : decode cX9_strike 27 = .ok (.iconst 1, 1) := by decide +kernel
theorem dX9_strike_28 : decode cX9_strike 28 = .ok (.isub, 1) := by decide +kernel
theorem dX9_strike_29 : decode cX9_strike 29 = .ok (.invokevirtual 141, 3) := by decide +kernel
theorem dX9_strike_32 : decode cX9_strike 32 = .ok (.pop, 1) := by decide +kernel
theorem dX9_strike_33 : decode cX9_strike 33 = .ok (.aload_n 0, 1) := by decide +kernel
theorem dX9_strike_34 : decode cX9_strike 34 = .ok (.getfield 66, 3) := by decide +kernel
theorem dX9_strike_37 : decode cX9_strike 37 = .ok (.invokevirtual 145, 3) := by decide +kernel
theorem dX9_strike_40 : decode cX9_strike 40 = .ok (.aload_n 0, 1) := by decide +kernel
theorem dX9_strike_41 : decode cX9_strike 41 = .ok (.getfield 24, 3) := by decide +kernel
theorem dX9_strike_44 : decode cX9_strike 44 = .ok (.aload_n 0, 1) := by decide +kernel
theorem dX9_strike_45 : decode cX9_strike 45 = .ok (.getfield 66, 3) := by decide +kernel
theorem dX9_strike_48 : decode cX9_strike 48 = .ok (.invokevirtual 148, 3) := by decide +kernel
theorem dX9_strike_51 : decode cX9_strike 51 = .ok (.ifCond .ne 6, 3) := by decide +kernel
theorem dX9_strike_54 : decode cX9_strike 54 = .ok (.bipush (-2), 2) := by decide +kernel
theorem dX9_strike_56 : decode cX9_strike 56 = .ok (.ireturn, 1) := by decide +kernel
theorem dX9_strike_57 : decode cX9_strike 57 = .ok (.aload_n 0, 1) := by decide +kernel
theorem dX9_strike_58 : decode cX9_strike 58 = .ok (.invokevirtual 104, 3) := by decide +kernel
theorem dX9_strike_61 : decode cX9_strike 61 = .ok (.aload_n 0, 1) := by decide +kernel
theorem dX9_strike_62 : decode cX9_strike 62 = .ok (.getfield 24, 3) := by decide +kernel
theorem dX9_strike_65 : decode cX9_strike 65 = .ok (.aload_n 0, 1) := by decide +kernel
theorem dX9_strike_66 : decode cX9_strike 66 = .ok (.getfield 66, 3) := by decide +kernel
theorem dX9_strike_69 : decode cX9_strike 69 = .ok (.invokevirtual 152, 3) := by decide +kernel
theorem dX9_strike_72 : decode cX9_strike 72 = .ok (.aload_n 0, 1) := by decide +kernel
theorem dX9_strike_73 : decode cX9_strike 73 = .ok (.getfield 24, 3) := by decide +kernel
theorem dX9_strike_76 : decode cX9_strike 76 = .ok (.dup, 1) := by decide +kernel
theorem dX9_strike_77 : decode cX9_strike 77 = .ok (.getfield 138, 3) := by decide +kernel
theorem dX9_strike_80 : decode cX9_strike 80 = .ok (.iconst 1, 1) := by decide +kernel
theorem dX9_strike_81 : decode cX9_strike 81 = .ok (.isub, 1) := by decide +kernel
theorem dX9_strike_82 : decode cX9_strike 82 = .ok (.putfield 138, 3) := by decide +kernel
theorem dX9_strike_85 : decode cX9_strike 85 = .ok (.aload_n 0, 1) := by decide +kernel
theorem dX9_strike_86 : decode cX9_strike 86 = .ok (.getfield 24, 3) := by decide +kernel
theorem dX9_strike_89 : decode cX9_strike 89 = .ok (.aload_n 0, 1) := by decide +kernel
theorem dX9_strike_90 : decode cX9_strike 90 = .ok (.getfield 24, 3) := by decide +kernel
theorem dX9_strike_93 : decode cX9_strike 93 = .ok (.getfield 138, 3) := by decide +kernel
theorem dX9_strike_96 : decode cX9_strike 96 = .ok (.invokevirtual 156, 3) := by decide +kernel
theorem dX9_strike_99 : decode cX9_strike 99 = .ok (.aload_n 0, 1) := by decide +kernel
theorem dX9_strike_100 : decode cX9_strike 100 = .ok (.getfield 24, 3) := by decide +kernel
theorem dX9_strike_103 : decode cX9_strike 103 = .ok (.getfield 138, 3) := by decide +kernel
theorem dX9_strike_106 : decode cX9_strike 106 = .ok (.ireturn, 1) := by decide +kernel
theorem dX9_slide_0 : decode cX9_slide 0 = .ok (.iload_n 3, 1) := by decide +kernel
theorem dX9_slide_1 : decode cX9_slide 1 = .ok (.ifCond .eq 9, 3) := by decide +kernel
theorem dX9_slide_4 : decode cX9_slide 4 = .ok (.iload_n 2, 1) := by decide +kernel
theorem dX9_slide_5 : decode cX9_slide 5 = .ok (.iconst 1, 1) := by decide +kernel
theorem dX9_slide_6 : decode cX9_slide 6 = .ok (.iadd, 1) := by decide +kernel
theorem dX9_slide_7 : decode cX9_slide 7 = .ok (.goto 6, 3) := by decide +kernel
theorem dX9_slide_10 : decode cX9_slide 10 = .ok (.iload_n 2, 1) := by decide +kernel
theorem dX9_slide_11 : decode cX9_slide 11 = .ok (.iconst 1, 1) := by decide +kernel
theorem dX9_slide_12 : decode cX9_slide 12 = .ok (.isub, 1) := by decide +kernel
theorem dX9_slide_13 : decode cX9_slide 13 = .ok (.istore 4, 2) := by decide +kernel
theorem dX9_slide_15 : decode cX9_slide 15 = .ok (.aload_n 0, 1) := by decide +kernel
theorem dX9_slide_16 : decode cX9_slide 16 = .ok (.getfield 24, 3) := by decide +kernel
theorem dX9_slide_19 : decode cX9_slide 19 = .ok (.iload_n 1, 1) := by decide +kernel
theorem dX9_slide_20 : decode cX9_slide 20 = .ok (.iload_n 2, 1) := by decide +kernel
theorem dX9_slide_21 : decode cX9_slide 21 = .ok (.invokevirtual 159, 3) := by decide +kernel
theorem dX9_slide_24 : decode cX9_slide 24 = .ok (.ifCond .eq 15, 3) := by decide +kernel
theorem dX9_slide_27 : decode cX9_slide 27 = .ok (.aload_n 0, 1) := by decide +kernel
theorem dX9_slide_28 : decode cX9_slide 28 = .ok (.getfield 24, 3) := by decide +kernel
theorem dX9_slide_31 : decode cX9_slide 31 = .ok (.iload 4, 2) := by decide +kernel
theorem dX9_slide_33 : decode cX9_slide 33 = .ok (.invokevirtual 163, 3) := by decide +kernel
theorem dX9_slide_36 : decode cX9_slide 36 = .ok (.ifCond .ne 5, 3) := by decide +kernel
theorem dX9_slide_39 : decode cX9_slide 39 = .ok (.iconst 0, 1) := by decide +kernel
theorem dX9_slide_40 : decode cX9_slide 40 = .ok (.ireturn, 1) := by decide +kernel
theorem dX9_slide_41 : decode cX9_slide 41 = .ok (.aload_n 0, 1) := by decide +kernel
theorem dX9_slide_42 : decode cX9_slide 42 = .ok (.getfield 66, 3) := by decide +kernel
theorem dX9_slide_45 : decode cX9_slide 45 = .ok (.iload_n 1, 1) := by decide +kernel
theorem dX9_slide_46 : decode cX9_slide 46 = .ok (.bipush 6, 2) := by decide +kernel
theorem dX9_slide_48 : decode cX9_slide 48 = .ok (.imul, 1) := by decide +kernel
theorem dX9_slide_49 : decode cX9_slide 49 = .ok (.iload_n 2, 1) := by decide +kernel
theorem dX9_slide_50 : decode cX9_slide 50 = .ok (.iadd, 1) := by decide +kernel
theorem dX9_slide_51 : decode cX9_slide 51 = .ok (.iload_n 3, 1) := by decide +kernel
theorem dX9_slide_52 : decode cX9_slide 52 = .ok (.invokevirtual 166, 3) := by decide +kernel
theorem dX9_slide_55 : decode cX9_slide 55 = .ok (.aload_n 0, 1) := by decide +kernel
theorem dX9_slide_56 : decode cX9_slide 56 = .ok (.getfield 24, 3) := by decide +kernel
theorem dX9_slide_59 : decode cX9_slide 59 = .ok (.aload_n 0, 1) := by decide +kernel
theorem dX9_slide_60 : decode cX9_slide 60 = .ok (.getfield 66, 3) := by decide +kernel
theorem dX9_slide_63 : decode cX9_slide 63 = .ok (.invokevirtual 148, 3) := by decide +kernel
theorem dX9_slide_66 : decode cX9_slide 66 = .ok (.ifCond .ne 5, 3) := by decide +kernel
theorem dX9_slide_69 : decode cX9_slide 69 = .ok (.iconst 0, 1) := by decide +kernel
theorem dX9_slide_70 : decode cX9_slide 70 = .ok (.ireturn, 1) := by decide +kernel
theorem dX9_slide_71 : decode cX9_slide 71 = .ok (.aload_n 0, 1) := by decide +kernel
theorem dX9_slide_72 : decode cX9_slide 72 = .ok (.invokevirtual 104, 3) := by decide +kernel
theorem dX9_slide_75 : decode cX9_slide 75 = .ok (.aload_n 0, 1) := by decide +kernel
theorem dX9_slide_76 : decode cX9_slide 76 = .ok (.getfield 24, 3) := by decide +kernel
theorem dX9_slide_79 : decode cX9_slide 79 = .ok (.aload_n 0, 1) := by decide +kernel
theorem dX9_slide_80 : decode cX9_slide 80 = .ok (.getfield 66, 3) := by decide +kernel
theorem dX9_slide_83 : decode cX9_slide 83 = .ok (.invokevirtual 152, 3) := by decide +kernel
theorem dX9_slide_86 : decode cX9_slide 86 = .ok (.aload_n 0, 1) := by decide +kernel
theorem dX9_slide_87 : decode cX9_slide 87 = .ok (.getfield 24, 3) := by decide +kernel
theorem dX9_slide_90 : decode cX9_slide 90 = .ok (.getfield 170, 3) := by decide +kernel
theorem dX9_slide_93 : decode cX9_slide 93 = .ok (.iload 4, 2) := by decide +kernel
theorem dX9_slide_95 : decode cX9_slide 95 = .ok (.iaload, 1) := by decide +kernel
theorem dX9_slide_96 : decode cX9_slide 96 = .ok (.aload_n 0, 1) := by decide +kernel
theorem dX9_slide_97 : decode cX9_slide 97 = .ok (.getfield 24, 3) := by decide +kernel
theorem dX9_slide_100 : decode cX9_slide 100 = .ok (.getfield 170, 3) := by decide +kernel
theorem dX9_slide_103 : decode cX9_slide 103 = .ok (.iload_n 2, 1) := by decide +kernel
theorem dX9_slide_104 : decode cX9_slide 104 = .ok (.iaload, 1) := by decide +kernel
theorem dX9_slide_105 : decode cX9_slide 105 = .ok (.isub, 1) := by decide +kernel
theorem dX9_slide_106 : decode cX9_slide 106 = .ok (.ireturn, 1) := by decide +kernel
theorem dX9_plain_0 : decode cX9_plain 0 = .ok (.aload_n 0, 1) := by decide +kernel
theorem dX9_plain_1 : decode cX9_plain 1 = .ok (.getfield 24, 3) := by decide +kernel
theorem dX9_plain_4 : decode cX9_plain 4 = .ok (.iload_n 1, 1) := by decide +kernel
theorem dX9_plain_5 : decode cX9_plain 5 = .ok (.invokevirtual 120, 3) := by decide +kernel
theorem dX9_plain_8 : decode cX9_plain 8 = .ok (.ifCond .eq 18, 3) := by decide +kernel
theorem dX9_plain_11 : decode cX9_plain 11 = .ok (.aload_n 0, 1) := by decide +kernel
theorem dX9_plain_12 : decode cX9_plain 12 = .ok (.getfield 38, 3) := by decide +kernel
theorem dX9_plain_15 : decode cX9_plain 15 = .ok (.aload_n 0, 1) := by decide +kernel
theorem dX9_plain_16 : decode cX9_plain 16 = .ok (.getfield 24, 3) := by decide +kernel
theorem dX9_plain_19 : decode cX9_plain 19 = .ok (.iload_n 1, 1) := by decide +kernel
theorem dX9_plain_20 : decode cX9_plain 20 = .ok (.invokevirtual 174, 3) := by decide +kernel
theorem dX9_plain_23 : decode cX9_plain 23 = .ok (.ifCond .eq 5, 3) := by decide +kernel
theorem dX9_plain_26 : decode cX9_plain 26 = .ok (.iconst (-1), 1) := by decide +kernel
theorem dX9_plain_27 : decode cX9_plain 27 = .ok (.ireturn, 1) := by decide +kernel
theorem dX9_plain_28 : decode cX9_plain 28 = .ok (.aload_n 0, 1) := by decide +kernel
theorem dX9_plain_29 : decode cX9_plain 29 = .ok (.getfield 24, 3) := by decide +kernel
theorem dX9_plain_32 : decode cX9_plain 32 = .ok (.iload_n 1, 1) := by decide +kernel
theorem dX9_plain_33 : decode cX9_plain 33 = .ok (.invokevirtual 178, 3) := by decide +kernel
theorem dX9_plain_36 : decode cX9_plain 36 = .ok (.istore_n 2, 1) := by decide +kernel
theorem dX9_plain_37 : decode cX9_plain 37 = .ok (.aload_n 0, 1) := by decide +kernel
theorem dX9_plain_38 : decode cX9_plain 38 = .ok (.getfield 38, 3) := by decide +kernel
theorem dX9_plain_41 : decode cX9_plain 41 = .ok (.aload_n 0, 1) := by decide +kernel
theorem dX9_plain_42 : decode cX9_plain 42 = .ok (.getfield 24, 3) := by decide +kernel
theorem dX9_plain_45 : decode cX9_plain 45 = .ok (.aload_n 0, 1) := by decide +kernel
theorem dX9_plain_46 : decode cX9_plain 46 = .ok (.getfield 24, 3) := by decide +kernel
theorem dX9_plain_49 : decode cX9_plain 49 = .ok (.iload_n 1, 1) := by decide +kernel
theorem dX9_plain_50 : decode cX9_plain 50 = .ok (.invokevirtual 123, 3) := by decide +kernel
theorem dX9_plain_53 : decode cX9_plain 53 = .ok (.invokevirtual 181, 3) := by decide +kernel
theorem dX9_plain_56 : decode cX9_plain 56 = .ok (.istore_n 3, 1) := by decide +kernel
theorem dX9_plain_57 : decode cX9_plain 57 = .ok (.aload_n 0, 1) := by decide +kernel
theorem dX9_plain_58 : decode cX9_plain 58 = .ok (.getfield 38, 3) := by decide +kernel
theorem dX9_plain_61 : decode cX9_plain 61 = .ok (.aload_n 0, 1) := by decide +kernel
theorem dX9_plain_62 : decode cX9_plain 62 = .ok (.getfield 24, 3) := by decide +kernel
theorem dX9_plain_65 : decode cX9_plain 65 = .ok (.invokevirtual 185, 3) := by decide +kernel
theorem dX9_plain_68 : decode cX9_plain 68 = .ok (.ifCond .ne 5, 3) := by decide +kernel
theorem dX9_plain_71 : decode cX9_plain 71 = .ok (.iconst (-1), 1) := by decide +kernel
theorem dX9_plain_72 : decode cX9_plain 72 = .ok (.ireturn, 1) := by decide +kernel
theorem dX9_plain_73 : decode cX9_plain 73 = .ok (.aload_n 0, 1) := by decide +kernel
theorem dX9_plain_74 : decode cX9_plain 74 = .ok (.invokevirtual 104, 3) := by decide +kernel
theorem dX9_plain_77 : decode cX9_plain 77 = .ok (.aload_n 0, 1) := by decide +kernel
theorem dX9_plain_78 : decode cX9_plain 78 = .ok (.iload_n 1, 1) := by decide +kernel
theorem dX9_plain_79 : decode cX9_plain 79 = .ok (.invokevirtual 189, 3) := by decide +kernel
theorem dX9_plain_82 : decode cX9_plain 82 = .ok (.iload_n 2, 1) := by decide +kernel
theorem dX9_plain_83 : decode cX9_plain 83 = .ok (.iload_n 3, 1) := by decide +kernel
theorem dX9_plain_84 : decode cX9_plain 84 = .ok (.isub, 1) := by decide +kernel
theorem dX9_plain_85 : decode cX9_plain 85 = .ok (.ireturn, 1) := by decide +kernel
theorem dX9_join_0 : decode cX9_join 0 = .ok (.aload_n 0, 1) := by decide +kernel
theorem dX9_join_1 : decode cX9_join 1 = .ok (.iload_n 1, 1) := by decide +kernel
theorem dX9_join_2 : decode cX9_join 2 = .ok (.iload_n 2, 1) := by decide +kernel
theorem dX9_join_3 : decode cX9_join 3 = .ok (.invokevirtual 192, 3) := by decide +kernel
theorem dX9_join_6 : decode cX9_join 6 = .ok (.ifCond .eq 26, 3) := by decide +kernel
theorem dX9_join_9 : decode cX9_join 9 = .ok (.aload_n 0, 1) := by decide +kernel
theorem dX9_join_10 : decode cX9_join 10 = .ok (.getfield 24, 3) := by decide +kernel
theorem dX9_join_13 : decode cX9_join 13 = .ok (.iload_n 1, 1) := by decide +kernel
theorem dX9_join_14 : decode cX9_join 14 = .ok (.invokevirtual 178, 3) := by decide +kernel
theorem dX9_join_17 : decode cX9_join 17 = .ok (.ifCond .eq 15, 3) := by decide +kernel
theorem dX9_join_20 : decode cX9_join 20 = .ok (.aload_n 0, 1) := by decide +kernel
theorem dX9_join_21 : decode cX9_join 21 = .ok (.getfield 24, 3) := by decide +kernel
theorem dX9_join_24 : decode cX9_join 24 = .ok (.iload_n 1, 1) := by decide +kernel
theorem dX9_join_25 : decode cX9_join 25 = .ok (.iload_n 2, 1) := by decide +kernel
theorem dX9_join_26 : decode cX9_join 26 = .ok (.invokevirtual 195, 3) := by decide +kernel
theorem dX9_join_29 : decode cX9_join 29 = .ok (.ifCond .ne 5, 3) := by decide +kernel
theorem dX9_join_32 : decode cX9_join 32 = .ok (.iconst (-1), 1) := by decide +kernel
theorem dX9_join_33 : decode cX9_join 33 = .ok (.ireturn, 1) := by decide +kernel
theorem dX9_join_34 : decode cX9_join 34 = .ok (.aload_n 0, 1) := by decide +kernel
theorem dX9_join_35 : decode cX9_join 35 = .ok (.invokevirtual 104, 3) := by decide +kernel
theorem dX9_join_38 : decode cX9_join 38 = .ok (.iconst 0, 1) := by decide +kernel
theorem dX9_join_39 : decode cX9_join 39 = .ok (.istore_n 3, 1) := by decide +kernel
theorem dX9_join_40 : decode cX9_join 40 = .ok (.iload_n 3, 1) := by decide +kernel
theorem dX9_join_41 : decode cX9_join 41 = .ok (.aload_n 0, 1) := by decide +kernel
theorem dX9_join_42 : decode cX9_join 42 = .ok (.getfield 24, 3) := by decide +kernel
theorem dX9_join_45 : decode cX9_join 45 = .ok (.getfield 113, 3) := by decide +kernel
theorem dX9_join_48 : decode cX9_join 48 = .ok (.if_icmp .ge 55, 3) := by decide +kernel
theorem dX9_join_51 : decode cX9_join 51 = .ok (.aload_n 0, 1) := by decide +kernel
theorem dX9_join_52 : decode cX9_join 52 = .ok (.getfield 24, 3) := by decide +kernel
theorem dX9_join_55 : decode cX9_join 55 = .ok (.getfield 198, 3) := by decide +kernel
theorem dX9_join_58 : decode cX9_join 58 = .ok (.iload_n 2, 1) := by decide +kernel
theorem dX9_join_59 : decode cX9_join 59 = .ok (.bipush 6, 2) := by decide +kernel
theorem dX9_join_61 : decode cX9_join 61 = .ok (.imul, 1) := by decide +kernel
theorem dX9_join_62 : decode cX9_join 62 = .ok (.iload_n 3, 1) := by decide +kernel
theorem dX9_join_63 : decode cX9_join 63 = .ok (.iadd, 1) := by decide +kernel
theorem dX9_join_64 : decode cX9_join 64 = .ok (.dup2, 1) := by decide +kernel
theorem dX9_join_65 : decode cX9_join 65 = .ok (.iaload, 1) := by decide +kernel
theorem dX9_join_66 : decode cX9_join 66 = .ok (.aload_n 0, 1) := by decide +kernel
theorem dX9_join_67 : decode cX9_join 67 = .ok (.getfield 24, 3) := by decide +kernel
theorem dX9_join_70 : decode cX9_join 70 = .ok (.getfield 198, 3) := by decide +kernel
theorem dX9_join_73 : decode cX9_join 73 = .ok (.iload_n 1, 1) := by decide +kernel
theorem dX9_join_74 : decode cX9_join 74 = .ok (.bipush 6, 2) := by decide +kernel
theorem dX9_join_76 : decode cX9_join 76 = .ok (.imul, 1) := by decide +kernel
theorem dX9_join_77 : decode cX9_join 77 = .ok (.iload_n 3, 1) := by decide +kernel
theorem dX9_join_78 : decode cX9_join 78 = .ok (.iadd, 1) := by decide +kernel
theorem dX9_join_79 : decode cX9_join 79 = .ok (.iaload, 1) := by decide +kernel
theorem dX9_join_80 : decode cX9_join 80 = .ok (.iadd, 1) := by decide +kernel
theorem dX9_join_81 : decode cX9_join 81 = .ok (.iastore, 1) := by decide +kernel
theorem dX9_join_82 : decode cX9_join 82 = .ok (.aload_n 0, 1) := by decide +kernel
theorem dX9_join_83 : decode cX9_join 83 = .ok (.getfield 24, 3) := by decide +kernel
theorem dX9_join_86 : decode cX9_join 86 = .ok (.getfield 198, 3) := by decide +kernel
theorem dX9_join_89 : decode cX9_join 89 = .ok (.iload_n 1, 1) := by decide +kernel
theorem dX9_join_90 : decode cX9_join 90 = .ok (.bipush 6, 2) := by decide +kernel
theorem dX9_join_92 : decode cX9_join 92 = .ok (.imul, 1) := by decide +kernel
theorem dX9_join_93 : decode cX9_join 93 = .ok (.iload_n 3, 1) := by decide +kernel
theorem dX9_join_94 : decode cX9_join 94 = .ok (.iadd, 1) := by decide +kernel
theorem dX9_join_95 : decode cX9_join 95 = .ok (.iconst 0, 1) := by decide +kernel
theorem dX9_join_96 : decode cX9_join 96 = .ok (.iastore, 1) := by decide +kernel
theorem dX9_join_97 : decode cX9_join 97 = .ok (.iinc 3 1, 3) := by decide +kernel
theorem dX9_join_100 : decode cX9_join 100 = .ok (.goto (-60), 3) := by decide +kernel
theorem dX9_join_103 : decode cX9_join 103 = .ok (.aload_n 0, 1) := by decide +kernel
theorem dX9_join_104 : decode cX9_join 104 = .ok (.getfield 24, 3) := by decide +kernel
theorem dX9_join_107 : decode cX9_join 107 = .ok (.invokevirtual 110, 3) := by decide +kernel
theorem dX9_join_110 : decode cX9_join 110 = .ok (.aload_n 0, 1) := by decide +kernel
theorem dX9_join_111 : decode cX9_join 111 = .ok (.getfield 24, 3) := by decide +kernel
theorem dX9_join_114 : decode cX9_join 114 = .ok (.iload_n 2, 1) := by decide +kernel
theorem dX9_join_115 : decode cX9_join 115 = .ok (.invokevirtual 123, 3) := by decide +kernel
theorem dX9_join_118 : decode cX9_join 118 = .ok (.ireturn, 1) := by decide +kernel
theorem dX9_doubled_0 : decode cX9_doubled 0 = .ok (.aload_n 0, 1) := by decide +kernel
theorem dX9_doubled_1 : decode cX9_doubled 1 = .ok (.getfield 24, 3) := by decide +kernel
theorem dX9_doubled_4 : decode cX9_doubled 4 = .ok (.iload_n 1, 1) := by decide +kernel
theorem dX9_doubled_5 : decode cX9_doubled 5 = .ok (.invokevirtual 120, 3) := by decide +kernel
theorem dX9_doubled_8 : decode cX9_doubled 8 = .ok (.ifCond .eq 26, 3) := by decide +kernel
theorem dX9_doubled_11 : decode cX9_doubled 11 = .ok (.aload_n 0, 1) := by decide +kernel
theorem dX9_doubled_12 : decode cX9_doubled 12 = .ok (.getfield 24, 3) := by decide +kernel
theorem dX9_doubled_15 : decode cX9_doubled 15 = .ok (.iload_n 1, 1) := by decide +kernel
theorem dX9_doubled_16 : decode cX9_doubled 16 = .ok (.invokevirtual 178, 3) := by decide +kernel
theorem dX9_doubled_19 : decode cX9_doubled 19 = .ok (.ifCond .eq 15, 3) := by decide +kernel
theorem dX9_doubled_22 : decode cX9_doubled 22 = .ok (.aload_n 0, 1) := by decide +kernel
theorem dX9_doubled_23 : decode cX9_doubled 23 = .ok (.getfield 24, 3) := by decide +kernel
theorem dX9_doubled_26 : decode cX9_doubled 26 = .ok (.iload_n 1, 1) := by decide +kernel
theorem dX9_doubled_27 : decode cX9_doubled 27 = .ok (.iload_n 1, 1) := by decide +kernel
theorem dX9_doubled_28 : decode cX9_doubled 28 = .ok (.invokevirtual 195, 3) := by decide +kernel
theorem dX9_doubled_31 : decode cX9_doubled 31 = .ok (.ifCond .ne 5, 3) := by decide +kernel
theorem dX9_doubled_34 : decode cX9_doubled 34 = .ok (.iconst (-1), 1) := by decide +kernel
theorem dX9_doubled_35 : decode cX9_doubled 35 = .ok (.ireturn, 1) := by decide +kernel
theorem dX9_doubled_36 : decode cX9_doubled 36 = .ok (.aload_n 0, 1) := by decide +kernel
theorem dX9_doubled_37 : decode cX9_doubled 37 = .ok (.invokevirtual 104, 3) := by decide +kernel
theorem dX9_doubled_40 : decode cX9_doubled 40 = .ok (.iconst 0, 1) := by decide +kernel
theorem dX9_doubled_41 : decode cX9_doubled 41 = .ok (.istore_n 2, 1) := by decide +kernel
theorem dX9_doubled_42 : decode cX9_doubled 42 = .ok (.iload_n 2, 1) := by decide +kernel
theorem dX9_doubled_43 : decode cX9_doubled 43 = .ok (.aload_n 0, 1) := by decide +kernel
theorem dX9_doubled_44 : decode cX9_doubled 44 = .ok (.getfield 24, 3) := by decide +kernel
theorem dX9_doubled_47 : decode cX9_doubled 47 = .ok (.getfield 113, 3) := by decide +kernel
theorem dX9_doubled_50 : decode cX9_doubled 50 = .ok (.if_icmp .ge 27, 3) := by decide +kernel
theorem dX9_doubled_53 : decode cX9_doubled 53 = .ok (.aload_n 0, 1) := by decide +kernel
theorem dX9_doubled_54 : decode cX9_doubled 54 = .ok (.getfield 24, 3) := by decide +kernel
theorem dX9_doubled_57 : decode cX9_doubled 57 = .ok (.getfield 198, 3) := by decide +kernel
theorem dX9_doubled_60 : decode cX9_doubled 60 = .ok (.iload_n 1, 1) := by decide +kernel
theorem dX9_doubled_61 : decode cX9_doubled 61 = .ok (.bipush 6, 2) := by decide +kernel
theorem dX9_doubled_63 : decode cX9_doubled 63 = .ok (.imul, 1) := by decide +kernel
theorem dX9_doubled_64 : decode cX9_doubled 64 = .ok (.iload_n 2, 1) := by decide +kernel
theorem dX9_doubled_65 : decode cX9_doubled 65 = .ok (.iadd, 1) := by decide +kernel
theorem dX9_doubled_66 : decode cX9_doubled 66 = .ok (.dup2, 1) := by decide +kernel
theorem dX9_doubled_67 : decode cX9_doubled 67 = .ok (.iaload, 1) := by decide +kernel
theorem dX9_doubled_68 : decode cX9_doubled 68 = .ok (.iconst 2, 1) := by decide +kernel
theorem dX9_doubled_69 : decode cX9_doubled 69 = .ok (.imul, 1) := by decide +kernel
theorem dX9_doubled_70 : decode cX9_doubled 70 = .ok (.iastore, 1) := by decide +kernel
theorem dX9_doubled_71 : decode cX9_doubled 71 = .ok (.iinc 2 1, 3) := by decide +kernel
theorem dX9_doubled_74 : decode cX9_doubled 74 = .ok (.goto (-32), 3) := by decide +kernel
theorem dX9_doubled_77 : decode cX9_doubled 77 = .ok (.aload_n 0, 1) := by decide +kernel
theorem dX9_doubled_78 : decode cX9_doubled 78 = .ok (.getfield 24, 3) := by decide +kernel
theorem dX9_doubled_81 : decode cX9_doubled 81 = .ok (.invokevirtual 110, 3) := by decide +kernel
theorem dX9_doubled_84 : decode cX9_doubled 84 = .ok (.aload_n 0, 1) := by decide +kernel
theorem dX9_doubled_85 : decode cX9_doubled 85 = .ok (.getfield 24, 3) := by decide +kernel
theorem dX9_doubled_88 : decode cX9_doubled 88 = .ok (.iload_n 1, 1) := by decide +kernel
theorem dX9_doubled_89 : decode cX9_doubled 89 = .ok (.invokevirtual 123, 3) := by decide +kernel
theorem dX9_doubled_92 : decode cX9_doubled 92 = .ok (.ireturn, 1) := by decide +kernel
theorem dX9_halve_0 : decode cX9_halve 0 = .ok (.aload_n 0, 1) := by decide +kernel
theorem dX9_halve_1 : decode cX9_halve 1 = .ok (.getfield 24, 3) := by decide +kernel
theorem dX9_halve_4 : decode cX9_halve 4 = .ok (.iload_n 1, 1) := by decide +kernel
theorem dX9_halve_5 : decode cX9_halve 5 = .ok (.invokevirtual 120, 3) := by decide +kernel
theorem dX9_halve_8 : decode cX9_halve 8 = .ok (.ifCond .eq 14, 3) := by decide +kernel
theorem dX9_halve_11 : decode cX9_halve 11 = .ok (.aload_n 0, 1) := by decide +kernel
theorem dX9_halve_12 : decode cX9_halve 12 = .ok (.getfield 24, 3) := by decide +kernel
theorem dX9_halve_15 : decode cX9_halve 15 = .ok (.iload_n 1, 1) := by decide +kernel
theorem dX9_halve_16 : decode cX9_halve 16 = .ok (.invokevirtual 178, 3) := by decide +kernel
theorem dX9_halve_19 : decode cX9_halve 19 = .ok (.ifCond .ne 5, 3) := by decide +kernel
theorem dX9_halve_22 : decode cX9_halve 22 = .ok (.iconst (-1), 1) := by decide +kernel
theorem dX9_halve_23 : decode cX9_halve 23 = .ok (.ireturn, 1) := by decide +kernel
theorem dX9_halve_24 : decode cX9_halve 24 = .ok (.aload_n 0, 1) := by decide +kernel
theorem dX9_halve_25 : decode cX9_halve 25 = .ok (.getfield 24, 3) := by decide +kernel
theorem dX9_halve_28 : decode cX9_halve 28 = .ok (.iload_n 1, 1) := by decide +kernel
theorem dX9_halve_29 : decode cX9_halve 29 = .ok (.invokevirtual 123, 3) := by decide +kernel
theorem dX9_halve_32 : decode cX9_halve 32 = .ok (.istore_n 2, 1) := by decide +kernel
theorem dX9_halve_33 : decode cX9_halve 33 = .ok (.aload_n 0, 1) := by decide +kernel
theorem dX9_halve_34 : decode cX9_halve 34 = .ok (.getfield 38, 3) := by decide +kernel
theorem dX9_halve_37 : decode cX9_halve 37 = .ok (.aload_n 0, 1) := by decide +kernel
theorem dX9_halve_38 : decode cX9_halve 38 = .ok (.getfield 24, 3) := by decide +kernel
theorem dX9_halve_41 : decode cX9_halve 41 = .ok (.iload_n 2, 1) := by decide +kernel
theorem dX9_halve_42 : decode cX9_halve 42 = .ok (.iconst 2, 1) := by decide +kernel
theorem dX9_halve_43 : decode cX9_halve 43 = .ok (.idiv, 1) := by decide +kernel
theorem dX9_halve_44 : decode cX9_halve 44 = .ok (.invokevirtual 181, 3) := by decide +kernel
theorem dX9_halve_47 : decode cX9_halve 47 = .ok (.pop, 1) := by decide +kernel
theorem dX9_halve_48 : decode cX9_halve 48 = .ok (.aload_n 0, 1) := by decide +kernel
theorem dX9_halve_49 : decode cX9_halve 49 = .ok (.getfield 38, 3) := by decide +kernel
theorem dX9_halve_52 : decode cX9_halve 52 = .ok (.aload_n 0, 1) := by decide +kernel
theorem dX9_halve_53 : decode cX9_halve 53 = .ok (.getfield 24, 3) := by decide +kernel
theorem dX9_halve_56 : decode cX9_halve 56 = .ok (.invokevirtual 185, 3) := by decide +kernel
theorem dX9_halve_59 : decode cX9_halve 59 = .ok (.ifCond .ne 5, 3) := by decide +kernel
theorem dX9_halve_62 : decode cX9_halve 62 = .ok (.iconst (-1), 1) := by decide +kernel
theorem dX9_halve_63 : decode cX9_halve 63 = .ok (.ireturn, 1) := by decide +kernel
theorem dX9_halve_64 : decode cX9_halve 64 = .ok (.aload_n 0, 1) := by decide +kernel
theorem dX9_halve_65 : decode cX9_halve 65 = .ok (.invokevirtual 104, 3) := by decide +kernel
theorem dX9_halve_68 : decode cX9_halve 68 = .ok (.aload_n 0, 1) := by decide +kernel
theorem dX9_halve_69 : decode cX9_halve 69 = .ok (.iload_n 1, 1) := by decide +kernel
theorem dX9_halve_70 : decode cX9_halve 70 = .ok (.invokevirtual 189, 3) := by decide +kernel
theorem dX9_halve_73 : decode cX9_halve 73 = .ok (.iload_n 2, 1) := by decide +kernel
theorem dX9_halve_74 : decode cX9_halve 74 = .ok (.iconst 2, 1) := by decide +kernel
theorem dX9_halve_75 : decode cX9_halve 75 = .ok (.irem, 1) := by decide +kernel
theorem dX9_halve_76 : decode cX9_halve 76 = .ok (.ireturn, 1) := by decide +kernel
theorem dX9_pay_0 : decode cX9_pay 0 = .ok (.aload_n 0, 1) := by decide +kernel
theorem dX9_pay_1 : decode cX9_pay 1 = .ok (.iload_n 1, 1) := by decide +kernel
theorem dX9_pay_2 : decode cX9_pay 2 = .ok (.iload_n 2, 1) := by decide +kernel
theorem dX9_pay_3 : decode cX9_pay 3 = .ok (.invokevirtual 192, 3) := by decide +kernel
theorem dX9_pay_6 : decode cX9_pay 6 = .ok (.ifCond .eq 8, 3) := by decide +kernel
theorem dX9_pay_9 : decode cX9_pay 9 = .ok (.iload_n 3, 1) := by decide +kernel
theorem dX9_pay_10 : decode cX9_pay 10 = .ok (.iconst 1, 1) := by decide +kernel
theorem dX9_pay_11 : decode cX9_pay 11 = .ok (.if_icmp .ge 5, 3) := by decide +kernel
theorem dX9_pay_14 : decode cX9_pay 14 = .ok (.iconst (-1), 1) := by decide +kernel
theorem dX9_pay_15 : decode cX9_pay 15 = .ok (.ireturn, 1) := by decide +kernel
theorem dX9_pay_16 : decode cX9_pay 16 = .ok (.aload_n 0, 1) := by decide +kernel
theorem dX9_pay_17 : decode cX9_pay 17 = .ok (.getfield 45, 3) := by decide +kernel
theorem dX9_pay_20 : decode cX9_pay 20 = .ok (.aload_n 0, 1) := by decide +kernel
theorem dX9_pay_21 : decode cX9_pay 21 = .ok (.getfield 24, 3) := by decide +kernel
theorem dX9_pay_24 : decode cX9_pay 24 = .ok (.iload_n 1, 1) := by decide +kernel
theorem dX9_pay_25 : decode cX9_pay 25 = .ok (.iload_n 2, 1) := by decide +kernel
theorem dX9_pay_26 : decode cX9_pay 26 = .ok (.iload_n 3, 1) := by decide +kernel
theorem dX9_pay_27 : decode cX9_pay 27 = .ok (.invokevirtual 201, 3) := by decide +kernel
theorem dX9_pay_30 : decode cX9_pay 30 = .ok (.istore 4, 2) := by decide +kernel
theorem dX9_pay_32 : decode cX9_pay 32 = .ok (.iload 4, 2) := by decide +kernel
theorem dX9_pay_34 : decode cX9_pay 34 = .ok (.bipush (-2), 2) := by decide +kernel
theorem dX9_pay_36 : decode cX9_pay 36 = .ok (.if_icmp .ne 6, 3) := by decide +kernel
theorem dX9_pay_39 : decode cX9_pay 39 = .ok (.bipush (-2), 2) := by decide +kernel
theorem dX9_pay_41 : decode cX9_pay 41 = .ok (.ireturn, 1) := by decide +kernel
theorem dX9_pay_42 : decode cX9_pay 42 = .ok (.aload_n 0, 1) := by decide +kernel
theorem dX9_pay_43 : decode cX9_pay 43 = .ok (.invokevirtual 104, 3) := by decide +kernel
theorem dX9_pay_46 : decode cX9_pay 46 = .ok (.iconst 0, 1) := by decide +kernel
theorem dX9_pay_47 : decode cX9_pay 47 = .ok (.istore 5, 2) := by decide +kernel
theorem dX9_pay_49 : decode cX9_pay 49 = .ok (.iload 5, 2) := by decide +kernel
theorem dX9_pay_51 : decode cX9_pay 51 = .ok (.aload_n 0, 1) := by decide +kernel
theorem dX9_pay_52 : decode cX9_pay 52 = .ok (.getfield 24, 3) := by decide +kernel
theorem dX9_pay_55 : decode cX9_pay 55 = .ok (.getfield 113, 3) := by decide +kernel
theorem dX9_pay_58 : decode cX9_pay 58 = .ok (.if_icmp .ge 65, 3) := by decide +kernel
theorem dX9_pay_61 : decode cX9_pay 61 = .ok (.aload_n 0, 1) := by decide +kernel
theorem dX9_pay_62 : decode cX9_pay 62 = .ok (.getfield 24, 3) := by decide +kernel
theorem dX9_pay_65 : decode cX9_pay 65 = .ok (.getfield 198, 3) := by decide +kernel
theorem dX9_pay_68 : decode cX9_pay 68 = .ok (.iload_n 1, 1) := by decide +kernel
theorem dX9_pay_69 : decode cX9_pay 69 = .ok (.bipush 6, 2) := by decide +kernel
theorem dX9_pay_71 : decode cX9_pay 71 = .ok (.imul, 1) := by decide +kernel
theorem dX9_pay_72 : decode cX9_pay 72 = .ok (.iload 5, 2) := by decide +kernel
theorem dX9_pay_74 : decode cX9_pay 74 = .ok (.iadd, 1) := by decide +kernel
theorem dX9_pay_75 : decode cX9_pay 75 = .ok (.dup2, 1) := by decide +kernel
theorem dX9_pay_76 : decode cX9_pay 76 = .ok (.iaload, 1) := by decide +kernel
theorem dX9_pay_77 : decode cX9_pay 77 = .ok (.aload_n 0, 1) := by decide +kernel
theorem dX9_pay_78 : decode cX9_pay 78 = .ok (.getfield 45, 3) := by decide +kernel
theorem dX9_pay_81 : decode cX9_pay 81 = .ok (.getfield 205, 3) := by decide +kernel
theorem dX9_pay_84 : decode cX9_pay 84 = .ok (.iload 5, 2) := by decide +kernel
theorem dX9_pay_86 : decode cX9_pay 86 = .ok (.iaload, 1) := by decide +kernel
theorem dX9_pay_87 : decode cX9_pay 87 = .ok (.isub, 1) := by decide +kernel
theorem dX9_pay_88 : decode cX9_pay 88 = .ok (.iastore, 1) := by decide +kernel
theorem dX9_pay_89 : decode cX9_pay 89 = .ok (.aload_n 0, 1) := by decide +kernel
theorem dX9_pay_90 : decode cX9_pay 90 = .ok (.getfield 24, 3) := by decide +kernel
theorem dX9_pay_93 : decode cX9_pay 93 = .ok (.getfield 198, 3) := by decide +kernel
theorem dX9_pay_96 : decode cX9_pay 96 = .ok (.iload_n 2, 1) := by decide +kernel
theorem dX9_pay_97 : decode cX9_pay 97 = .ok (.bipush 6, 2) := by decide +kernel
theorem dX9_pay_99 : decode cX9_pay 99 = .ok (.imul, 1) := by decide +kernel
theorem dX9_pay_100 : decode cX9_pay 100 = .ok (.iload 5, 2) := by decide +kernel
theorem dX9_pay_102 : decode cX9_pay 102 = .ok (.iadd, 1) := by decide +kernel
theorem dX9_pay_103 : decode cX9_pay 103 = .ok (.dup2, 1) := by decide +kernel
theorem dX9_pay_104 : decode cX9_pay 104 = .ok (.iaload, 1) := by decide +kernel
theorem dX9_pay_105 : decode cX9_pay 105 = .ok (.aload_n 0, 1) := by decide +kernel
theorem dX9_pay_106 : decode cX9_pay 106 = .ok (.getfield 45, 3) := by decide +kernel
theorem dX9_pay_109 : decode cX9_pay 109 = .ok (.getfield 205, 3) := by decide +kernel
theorem dX9_pay_112 : decode cX9_pay 112 = .ok (.iload 5, 2) := by decide +kernel
theorem dX9_pay_114 : decode cX9_pay 114 = .ok (.iaload, 1) := by decide +kernel
theorem dX9_pay_115 : decode cX9_pay 115 = .ok (.iadd, 1) := by decide +kernel
theorem dX9_pay_116 : decode cX9_pay 116 = .ok (.iastore, 1) := by decide +kernel
theorem dX9_pay_117 : decode cX9_pay 117 = .ok (.iinc 5 1, 3) := by decide +kernel
theorem dX9_pay_120 : decode cX9_pay 120 = .ok (.goto (-71), 3) := by decide +kernel
theorem dX9_pay_123 : decode cX9_pay 123 = .ok (.aload_n 0, 1) := by decide +kernel
theorem dX9_pay_124 : decode cX9_pay 124 = .ok (.getfield 24, 3) := by decide +kernel
theorem dX9_pay_127 : decode cX9_pay 127 = .ok (.invokevirtual 110, 3) := by decide +kernel
theorem dX9_pay_130 : decode cX9_pay 130 = .ok (.iload 4, 2) := by decide +kernel
theorem dX9_pay_132 : decode cX9_pay 132 = .ok (.ireturn, 1) := by decide +kernel
theorem dX9_clear_0 : decode cX9_clear 0 = .ok (.aload_n 0, 1) := by decide +kernel
theorem dX9_clear_1 : decode cX9_clear 1 = .ok (.getfield 24, 3) := by decide +kernel
theorem dX9_clear_4 : decode cX9_clear 4 = .ok (.iload_n 1, 1) := by decide +kernel
theorem dX9_clear_5 : decode cX9_clear 5 = .ok (.invokevirtual 120, 3) := by decide +kernel
theorem dX9_clear_8 : decode cX9_clear 8 = .ok (.ifCond .eq 14, 3) := by decide +kernel
theorem dX9_clear_11 : decode cX9_clear 11 = .ok (.aload_n 0, 1) := by decide +kernel
theorem dX9_clear_12 : decode cX9_clear 12 = .ok (.getfield 24, 3) := by decide +kernel
theorem dX9_clear_15 : decode cX9_clear 15 = .ok (.iload_n 1, 1) := by decide +kernel
theorem dX9_clear_16 : decode cX9_clear 16 = .ok (.invokevirtual 178, 3) := by decide +kernel
theorem dX9_clear_19 : decode cX9_clear 19 = .ok (.ifCond .ne 5, 3) := by decide +kernel
theorem dX9_clear_22 : decode cX9_clear 22 = .ok (.iconst (-1), 1) := by decide +kernel
theorem dX9_clear_23 : decode cX9_clear 23 = .ok (.ireturn, 1) := by decide +kernel
theorem dX9_clear_24 : decode cX9_clear 24 = .ok (.aload_n 0, 1) := by decide +kernel
theorem dX9_clear_25 : decode cX9_clear 25 = .ok (.getfield 24, 3) := by decide +kernel
theorem dX9_clear_28 : decode cX9_clear 28 = .ok (.iload_n 1, 1) := by decide +kernel
theorem dX9_clear_29 : decode cX9_clear 29 = .ok (.invokevirtual 123, 3) := by decide +kernel
theorem dX9_clear_32 : decode cX9_clear 32 = .ok (.istore_n 2, 1) := by decide +kernel
theorem dX9_clear_33 : decode cX9_clear 33 = .ok (.aload_n 0, 1) := by decide +kernel
theorem dX9_clear_34 : decode cX9_clear 34 = .ok (.invokevirtual 104, 3) := by decide +kernel
theorem dX9_clear_37 : decode cX9_clear 37 = .ok (.aload_n 0, 1) := by decide +kernel
theorem dX9_clear_38 : decode cX9_clear 38 = .ok (.getfield 24, 3) := by decide +kernel
theorem dX9_clear_41 : decode cX9_clear 41 = .ok (.iload_n 1, 1) := by decide +kernel
theorem dX9_clear_42 : decode cX9_clear 42 = .ok (.invokevirtual 208, 3) := by decide +kernel
theorem dX9_clear_45 : decode cX9_clear 45 = .ok (.aload_n 0, 1) := by decide +kernel
theorem dX9_clear_46 : decode cX9_clear 46 = .ok (.getfield 24, 3) := by decide +kernel
theorem dX9_clear_49 : decode cX9_clear 49 = .ok (.invokevirtual 110, 3) := by decide +kernel
theorem dX9_clear_52 : decode cX9_clear 52 = .ok (.iload_n 2, 1) := by decide +kernel
theorem dX9_clear_53 : decode cX9_clear 53 = .ok (.ireturn, 1) := by decide +kernel
theorem dX9_start_0 : decode cX9_start 0 = .ok (.aload_n 0, 1) := by decide +kernel
theorem dX9_start_1 : decode cX9_start 1 = .ok (.getfield 24, 3) := by decide +kernel
theorem dX9_start_4 : decode cX9_start 4 = .ok (.getfield 138, 3) := by decide +kernel
theorem dX9_start_7 : decode cX9_start 7 = .ok (.istore_n 1, 1) := by decide +kernel
theorem dX9_start_8 : decode cX9_start 8 = .ok (.iload_n 1, 1) := by decide +kernel
theorem dX9_start_9 : decode cX9_start 9 = .ok (.ifCond .ne 29, 3) := by decide +kernel
theorem dX9_start_12 : decode cX9_start 12 = .ok (.aload_n 0, 1) := by decide +kernel
theorem dX9_start_13 : decode cX9_start 13 = .ok (.getfield 24, 3) := by decide +kernel
theorem dX9_start_16 : decode cX9_start 16 = .ok (.getfield 211, 3) := by decide +kernel
theorem dX9_start_19 : decode cX9_start 19 = .ok (.ifCond .ne 19, 3) := by decide +kernel
theorem dX9_start_22 : decode cX9_start 22 = .ok (.aload_n 0, 1) := by decide +kernel
theorem dX9_start_23 : decode cX9_start 23 = .ok (.getfield 52, 3) := by decide +kernel
theorem dX9_start_26 : decode cX9_start 26 = .ok (.aload_n 0, 1) := by decide +kernel
theorem dX9_start_27 : decode cX9_start 27 = .ok (.getfield 24, 3) := by decide +kernel
theorem dX9_start_30 : decode cX9_start 30 = .ok (.invokevirtual 214, 3) := by decide +kernel
theorem dX9_start_33 : decode cX9_start 33 = .ok (.ifCond .ne 5, 3) := by decide +kernel
theorem dX9_start_36 : decode cX9_start 36 = .ok (.iconst (-1), 1) := by decide +kernel
theorem dX9_start_37 : decode cX9_start 37 = .ok (.ireturn, 1) := by decide +kernel
theorem dX9_start_38 : decode cX9_start 38 = .ok (.aload_n 0, 1) := by decide +kernel
theorem dX9_start_39 : decode cX9_start 39 = .ok (.invokevirtual 104, 3) := by decide +kernel
theorem dX9_start_42 : decode cX9_start 42 = .ok (.aload_n 0, 1) := by decide +kernel
theorem dX9_start_43 : decode cX9_start 43 = .ok (.getfield 24, 3) := by decide +kernel
theorem dX9_start_46 : decode cX9_start 46 = .ok (.invokevirtual 110, 3) := by decide +kernel
theorem dX9_start_49 : decode cX9_start 49 = .ok (.iload_n 1, 1) := by decide +kernel
theorem dX9_start_50 : decode cX9_start 50 = .ok (.ireturn, 1) := by decide +kernel
theorem dX9_see_0 : decode cX9_see 0 = .ok (.iload_n 1, 1) := by decide +kernel
theorem dX9_see_1 : decode cX9_see 1 = .ok (.ifCond .lt 42, 3) := by decide +kernel
theorem dX9_see_4 : decode cX9_see 4 = .ok (.iload_n 1, 1) := by decide +kernel
theorem dX9_see_5 : decode cX9_see 5 = .ok (.aload_n 0, 1) := by decide +kernel
theorem dX9_see_6 : decode cX9_see 6 = .ok (.getfield 24, 3) := by decide +kernel
theorem dX9_see_9 : decode cX9_see 9 = .ok (.getfield 138, 3) := by decide +kernel
theorem dX9_see_12 : decode cX9_see 12 = .ok (.if_icmp .gt 31, 3) := by decide +kernel
theorem dX9_see_15 : decode cX9_see 15 = .ok (.aload_n 0, 1) := by decide +kernel
theorem dX9_see_16 : decode cX9_see 16 = .ok (.getfield 24, 3) := by decide +kernel
theorem dX9_see_19 : decode cX9_see 19 = .ok (.iload_n 2, 1) := by decide +kernel
theorem dX9_see_20 : decode cX9_see 20 = .ok (.iload_n 3, 1) := by decide +kernel
theorem dX9_see_21 : decode cX9_see 21 = .ok (.invokevirtual 159, 3) := by decide +kernel
theorem dX9_see_24 : decode cX9_see 24 = .ok (.ifCond .eq 19, 3) := by decide +kernel
theorem dX9_see_27 : decode cX9_see 27 = .ok (.iload 4, 2) := by decide +kernel
theorem dX9_see_29 : decode cX9_see 29 = .ok (.ifCond .lt 14, 3) := by decide +kernel
theorem dX9_see_32 : decode cX9_see 32 = .ok (.iload 4, 2) := by decide +kernel
theorem dX9_see_34 : decode cX9_see 34 = .ok (.bipush 99, 2) := by decide +kernel
theorem dX9_see_36 : decode cX9_see 36 = .ok (.if_icmp .gt 7, 3) := by decide +kernel
theorem dX9_see_39 : decode cX9_see 39 = .ok (.iconst 1, 1) := by decide +kernel
theorem dX9_see_40 : decode cX9_see 40 = .ok (.goto 4, 3) := by decide +kernel
theorem dX9_see_43 : decode cX9_see 43 = .ok (.iconst 0, 1) := by decide +kernel
theorem dX9_see_44 : decode cX9_see 44 = .ok (.istore 5, 2) := by decide +kernel
theorem dX9_see_46 : decode cX9_see 46 = .ok (.iload 5, 2) := by decide +kernel
theorem dX9_see_48 : decode cX9_see 48 = .ok (.ifCond .eq 15, 3) := by decide +kernel
theorem dX9_see_51 : decode cX9_see 51 = .ok (.aload_n 0, 1) := by decide +kernel
theorem dX9_see_52 : decode cX9_see 52 = .ok (.getfield 24, 3) := by decide +kernel
theorem dX9_see_55 : decode cX9_see 55 = .ok (.getfield 211, 3) := by decide +kernel
theorem dX9_see_58 : decode cX9_see 58 = .ok (.bipush 12, 2) := by decide +kernel
theorem dX9_see_60 : decode cX9_see 60 = .ok (.if_icmp .lt 5, 3) := by decide +kernel
theorem dX9_see_63 : decode cX9_see 63 = .ok (.iconst (-1), 1) := by decide +kernel
theorem dX9_see_64 : decode cX9_see 64 = .ok (.ireturn, 1) := by decide +kernel
theorem dX9_see_65 : decode cX9_see 65 = .ok (.aload_n 0, 1) := by decide +kernel
theorem dX9_see_66 : decode cX9_see 66 = .ok (.invokevirtual 104, 3) := by decide +kernel
theorem dX9_see_69 : decode cX9_see 69 = .ok (.aload_n 0, 1) := by decide +kernel
theorem dX9_see_70 : decode cX9_see 70 = .ok (.getfield 24, 3) := by decide +kernel
theorem dX9_see_73 : decode cX9_see 73 = .ok (.iload_n 1, 1) := by decide +kernel
theorem dX9_see_74 : decode cX9_see 74 = .ok (.iload_n 2, 1) := by decide +kernel
theorem dX9_see_75 : decode cX9_see 75 = .ok (.iload_n 3, 1) := by decide +kernel
theorem dX9_see_76 : decode cX9_see 76 = .ok (.iload 4, 2) := by decide +kernel
theorem dX9_see_78 : decode cX9_see 78 = .ok (.invokevirtual 218, 3) := by decide +kernel
theorem dX9_see_81 : decode cX9_see 81 = .ok (.aload_n 0, 1) := by decide +kernel
theorem dX9_see_82 : decode cX9_see 82 = .ok (.getfield 24, 3) := by decide +kernel
theorem dX9_see_85 : decode cX9_see 85 = .ok (.getfield 211, 3) := by decide +kernel
theorem dX9_see_88 : decode cX9_see 88 = .ok (.ireturn, 1) := by decide +kernel
theorem dX9_unsee_0 : decode cX9_unsee 0 = .ok (.iload_n 1, 1) := by decide +kernel
theorem dX9_unsee_1 : decode cX9_unsee 1 = .ok (.ifCond .lt 14, 3) := by decide +kernel
theorem dX9_unsee_4 : decode cX9_unsee 4 = .ok (.iload_n 1, 1) := by decide +kernel
theorem dX9_unsee_5 : decode cX9_unsee 5 = .ok (.aload_n 0, 1) := by decide +kernel
theorem dX9_unsee_6 : decode cX9_unsee 6 = .ok (.getfield 24, 3) := by decide +kernel
theorem dX9_unsee_9 : decode cX9_unsee 9 = .ok (.getfield 211, 3) := by decide +kernel
theorem dX9_unsee_12 : decode cX9_unsee 12 = .ok (.if_icmp .lt 5, 3) := by decide +kernel
theorem dX9_unsee_15 : decode cX9_unsee 15 = .ok (.iconst (-1), 1) := by decide +kernel
theorem dX9_unsee_16 : decode cX9_unsee 16 = .ok (.ireturn, 1) := by decide +kernel
theorem dX9_unsee_17 : decode cX9_unsee 17 = .ok (.aload_n 0, 1) := by decide +kernel
theorem dX9_unsee_18 : decode cX9_unsee 18 = .ok (.invokevirtual 104, 3) := by decide +kernel
theorem dX9_unsee_21 : decode cX9_unsee 21 = .ok (.aload_n 0, 1) := by decide +kernel
theorem dX9_unsee_22 : decode cX9_unsee 22 = .ok (.getfield 24, 3) := by decide +kernel
theorem dX9_unsee_25 : decode cX9_unsee 25 = .ok (.iload_n 1, 1) := by decide +kernel
theorem dX9_unsee_26 : decode cX9_unsee 26 = .ok (.invokevirtual 222, 3) := by decide +kernel
theorem dX9_unsee_29 : decode cX9_unsee 29 = .ok (.aload_n 0, 1) := by decide +kernel
theorem dX9_unsee_30 : decode cX9_unsee 30 = .ok (.getfield 24, 3) := by decide +kernel
theorem dX9_unsee_33 : decode cX9_unsee 33 = .ok (.getfield 211, 3) := by decide +kernel
theorem dX9_unsee_36 : decode cX9_unsee 36 = .ok (.ireturn, 1) := by decide +kernel
theorem dX9_sieve_0 : decode cX9_sieve 0 = .ok (.aload_n 0, 1) := by decide +kernel
theorem dX9_sieve_1 : decode cX9_sieve 1 = .ok (.getfield 52, 3) := by decide +kernel
theorem dX9_sieve_4 : decode cX9_sieve 4 = .ok (.aload_n 0, 1) := by decide +kernel
theorem dX9_sieve_5 : decode cX9_sieve 5 = .ok (.getfield 24, 3) := by decide +kernel
theorem dX9_sieve_8 : decode cX9_sieve 8 = .ok (.invokevirtual 225, 3) := by decide +kernel
theorem dX9_sieve_11 : decode cX9_sieve 11 = .ok (.bipush (-2), 2) := by decide +kernel
theorem dX9_sieve_13 : decode cX9_sieve 13 = .ok (.if_icmp .ne 5, 3) := by decide +kernel
theorem dX9_sieve_16 : decode cX9_sieve 16 = .ok (.iconst (-1), 1) := by decide +kernel
theorem dX9_sieve_17 : decode cX9_sieve 17 = .ok (.ireturn, 1) := by decide +kernel
theorem dX9_sieve_18 : decode cX9_sieve 18 = .ok (.aload_n 0, 1) := by decide +kernel
theorem dX9_sieve_19 : decode cX9_sieve 19 = .ok (.getfield 24, 3) := by decide +kernel
theorem dX9_sieve_22 : decode cX9_sieve 22 = .ok (.getfield 211, 3) := by decide +kernel
theorem dX9_sieve_25 : decode cX9_sieve 25 = .ok (.istore_n 1, 1) := by decide +kernel
theorem dX9_sieve_26 : decode cX9_sieve 26 = .ok (.aload_n 0, 1) := by decide +kernel
theorem dX9_sieve_27 : decode cX9_sieve 27 = .ok (.invokevirtual 104, 3) := by decide +kernel
theorem dX9_sieve_30 : decode cX9_sieve 30 = .ok (.iload_n 1, 1) := by decide +kernel
theorem dX9_sieve_31 : decode cX9_sieve 31 = .ok (.iconst 1, 1) := by decide +kernel
theorem dX9_sieve_32 : decode cX9_sieve 32 = .ok (.isub, 1) := by decide +kernel
theorem dX9_sieve_33 : decode cX9_sieve 33 = .ok (.istore_n 2, 1) := by decide +kernel
theorem dX9_sieve_34 : decode cX9_sieve 34 = .ok (.iload_n 2, 1) := by decide +kernel
theorem dX9_sieve_35 : decode cX9_sieve 35 = .ok (.ifCond .lt 29, 3) := by decide +kernel
theorem dX9_sieve_38 : decode cX9_sieve 38 = .ok (.aload_n 0, 1) := by decide +kernel
theorem dX9_sieve_39 : decode cX9_sieve 39 = .ok (.getfield 52, 3) := by decide +kernel
theorem dX9_sieve_42 : decode cX9_sieve 42 = .ok (.getfield 228, 3) := by decide +kernel
theorem dX9_sieve_45 : decode cX9_sieve 45 = .ok (.iload_n 2, 1) := by decide +kernel
theorem dX9_sieve_46 : decode cX9_sieve 46 = .ok (.iaload, 1) := by decide +kernel
theorem dX9_sieve_47 : decode cX9_sieve 47 = .ok (.ifCond .eq 11, 3) := by decide +kernel
theorem dX9_sieve_50 : decode cX9_sieve 50 = .ok (.aload_n 0, 1) := by decide +kernel
theorem dX9_sieve_51 : decode cX9_sieve 51 = .ok (.getfield 24, 3) := by decide +kernel
theorem dX9_sieve_54 : decode cX9_sieve 54 = .ok (.iload_n 2, 1) := by decide +kernel
theorem dX9_sieve_55 : decode cX9_sieve 55 = .ok (.invokevirtual 222, 3) := by decide +kernel
theorem dX9_sieve_58 : decode cX9_sieve 58 = .ok (.iinc 2 (-1), 3) := by decide +kernel
theorem dX9_sieve_61 : decode cX9_sieve 61 = .ok (.goto (-27), 3) := by decide +kernel
theorem dX9_sieve_64 : decode cX9_sieve 64 = .ok (.iload_n 1, 1) := by decide +kernel
theorem dX9_sieve_65 : decode cX9_sieve 65 = .ok (.aload_n 0, 1) := by decide +kernel
theorem dX9_sieve_66 : decode cX9_sieve 66 = .ok (.getfield 24, 3) := by decide +kernel
theorem dX9_sieve_69 : decode cX9_sieve 69 = .ok (.getfield 211, 3) := by decide +kernel
theorem dX9_sieve_72 : decode cX9_sieve 72 = .ok (.isub, 1) := by decide +kernel
theorem dX9_sieve_73 : decode cX9_sieve 73 = .ok (.ireturn, 1) := by decide +kernel
theorem dX9_undo_0 : decode cX9_undo 0 = .ok (.aload_n 0, 1) := by decide +kernel
theorem dX9_undo_1 : decode cX9_undo 1 = .ok (.getfield 31, 3) := by decide +kernel
theorem dX9_undo_4 : decode cX9_undo 4 = .ok (.getfield 91, 3) := by decide +kernel
theorem dX9_undo_7 : decode cX9_undo 7 = .ok (.ifCond .ne 5, 3) := by decide +kernel
theorem dX9_undo_10 : decode cX9_undo 10 = .ok (.iconst (-1), 1) := by decide +kernel
theorem dX9_undo_11 : decode cX9_undo 11 = .ok (.ireturn, 1) := by decide +kernel
theorem dX9_undo_12 : decode cX9_undo 12 = .ok (.aload_n 0, 1) := by decide +kernel
theorem dX9_undo_13 : decode cX9_undo 13 = .ok (.getfield 31, 3) := by decide +kernel
theorem dX9_undo_16 : decode cX9_undo 16 = .ok (.aload_n 0, 1) := by decide +kernel
theorem dX9_undo_17 : decode cX9_undo 17 = .ok (.getfield 24, 3) := by decide +kernel
theorem dX9_undo_20 : decode cX9_undo 20 = .ok (.invokevirtual 231, 3) := by decide +kernel
theorem dX9_undo_23 : decode cX9_undo 23 = .ok (.aload_n 0, 1) := by decide +kernel
theorem dX9_undo_24 : decode cX9_undo 24 = .ok (.invokevirtual 94, 3) := by decide +kernel
theorem dX9_undo_27 : decode cX9_undo 27 = .ok (.aload_n 0, 1) := by decide +kernel
theorem dX9_undo_28 : decode cX9_undo 28 = .ok (.getfield 31, 3) := by decide +kernel
theorem dX9_undo_31 : decode cX9_undo 31 = .ok (.getfield 91, 3) := by decide +kernel
theorem dX9_undo_34 : decode cX9_undo 34 = .ok (.ireturn, 1) := by decide +kernel
theorem dX9_of_0 : decode cX9_of 0 = .ok (.aload_n 0, 1) := by decide +kernel
theorem dX9_of_1 : decode cX9_of 1 = .ok (.getfield 24, 3) := by decide +kernel
theorem dX9_of_4 : decode cX9_of 4 = .ok (.iload_n 1, 1) := by decide +kernel
theorem dX9_of_5 : decode cX9_of 5 = .ok (.iload_n 2, 1) := by decide +kernel
theorem dX9_of_6 : decode cX9_of 6 = .ok (.invokevirtual 159, 3) := by decide +kernel
theorem dX9_of_9 : decode cX9_of 9 = .ok (.ifCond .eq 15, 3) := by decide +kernel
theorem dX9_of_12 : decode cX9_of 12 = .ok (.aload_n 0, 1) := by decide +kernel
theorem dX9_of_13 : decode cX9_of 13 = .ok (.getfield 24, 3) := by decide +kernel
theorem dX9_of_16 : decode cX9_of 16 = .ok (.iload_n 1, 1) := by decide +kernel
theorem dX9_of_17 : decode cX9_of 17 = .ok (.iload_n 2, 1) := by decide +kernel
theorem dX9_of_18 : decode cX9_of 18 = .ok (.invokevirtual 134, 3) := by decide +kernel
theorem dX9_of_21 : decode cX9_of 21 = .ok (.goto 4, 3) := by decide +kernel
theorem dX9_of_24 : decode cX9_of 24 = .ok (.iconst (-1), 1) := by decide +kernel
theorem dX9_of_25 : decode cX9_of 25 = .ok (.ireturn, 1) := by decide +kernel
theorem dX9_sum_0 : decode cX9_sum 0 = .ok (.iload_n 1, 1) := by decide +kernel
theorem dX9_sum_1 : decode cX9_sum 1 = .ok (.iconst (-1), 1) := by decide +kernel
theorem dX9_sum_2 : decode cX9_sum 2 = .ok (.if_icmp .ne 11, 3) := by decide +kernel
theorem dX9_sum_5 : decode cX9_sum 5 = .ok (.aload_n 0, 1) := by decide +kernel
theorem dX9_sum_6 : decode cX9_sum 6 = .ok (.getfield 24, 3) := by decide +kernel
theorem dX9_sum_9 : decode cX9_sum 9 = .ok (.invokevirtual 234, 3) := by decide +kernel
theorem dX9_sum_12 : decode cX9_sum 12 = .ok (.ireturn, 1) := by decide +kernel
theorem dX9_sum_13 : decode cX9_sum 13 = .ok (.aload_n 0, 1) := by decide +kernel
theorem dX9_sum_14 : decode cX9_sum 14 = .ok (.getfield 24, 3) := by decide +kernel
theorem dX9_sum_17 : decode cX9_sum 17 = .ok (.iload_n 1, 1) := by decide +kernel
theorem dX9_sum_18 : decode cX9_sum 18 = .ok (.invokevirtual 120, 3) := by decide +kernel
theorem dX9_sum_21 : decode cX9_sum 21 = .ok (.ifCond .eq 14, 3) := by decide +kernel
theorem dX9_sum_24 : decode cX9_sum 24 = .ok (.aload_n 0, 1) := by decide +kernel
theorem dX9_sum_25 : decode cX9_sum 25 = .ok (.getfield 24, 3) := by decide +kernel
theorem dX9_sum_28 : decode cX9_sum 28 = .ok (.iload_n 1, 1) := by decide +kernel
theorem dX9_sum_29 : decode cX9_sum 29 = .ok (.invokevirtual 123, 3) := by decide +kernel
theorem dX9_sum_32 : decode cX9_sum 32 = .ok (.goto 5, 3) := by decide +kernel
theorem dX9_sum_35 : decode cX9_sum 35 = .ok (.bipush (-2), 2) := by decide +kernel
theorem dX9_sum_37 : decode cX9_sum 37 = .ok (.ireturn, 1) := by decide +kernel
theorem dX9_counters_0 : decode cX9_counters 0 = .ok (.iload_n 1, 1) := by decide +kernel
theorem dX9_counters_1 : decode cX9_counters 1 = .ok (.iconst (-1), 1) := by decide +kernel
theorem dX9_counters_2 : decode cX9_counters 2 = .ok (.if_icmp .ne 11, 3) := by decide +kernel
theorem dX9_counters_5 : decode cX9_counters 5 = .ok (.aload_n 0, 1) := by decide +kernel
theorem dX9_counters_6 : decode cX9_counters 6 = .ok (.getfield 24, 3) := by decide +kernel
theorem dX9_counters_9 : decode cX9_counters 9 = .ok (.invokevirtual 237, 3) := by decide +kernel
theorem dX9_counters_12 : decode cX9_counters 12 = .ok (.ireturn, 1) := by decide +kernel
theorem dX9_counters_13 : decode cX9_counters 13 = .ok (.aload_n 0, 1) := by decide +kernel
theorem dX9_counters_14 : decode cX9_counters 14 = .ok (.getfield 24, 3) := by decide +kernel
theorem dX9_counters_17 : decode cX9_counters 17 = .ok (.iload_n 1, 1) := by decide +kernel
theorem dX9_counters_18 : decode cX9_counters 18 = .ok (.invokevirtual 120, 3) := by decide +kernel
theorem dX9_counters_21 : decode cX9_counters 21 = .ok (.ifCond .eq 14, 3) := by decide +kernel
theorem dX9_counters_24 : decode cX9_counters 24 = .ok (.aload_n 0, 1) := by decide +kernel
theorem dX9_counters_25 : decode cX9_counters 25 = .ok (.getfield 24, 3) := by decide +kernel
theorem dX9_counters_28 : decode cX9_counters 28 = .ok (.iload_n 1, 1) := by decide +kernel
theorem dX9_counters_29 : decode cX9_counters 29 = .ok (.invokevirtual 178, 3) := by decide +kernel
theorem dX9_counters_32 : decode cX9_counters 32 = .ok (.goto 5, 3) := by decide +kernel
theorem dX9_counters_35 : decode cX9_counters 35 = .ok (.bipush (-2), 2) := by decide +kernel
theorem dX9_counters_37 : decode cX9_counters 37 = .ok (.ireturn, 1) := by decide +kernel
theorem dX9_worth_0 : decode cX9_worth 0 = .ok (.aload_n 0, 1) := by decide +kernel
theorem dX9_worth_1 : decode cX9_worth 1 = .ok (.getfield 24, 3) := by decide +kernel
theorem dX9_worth_4 : decode cX9_worth 4 = .ok (.iload_n 1, 1) := by decide +kernel
theorem dX9_worth_5 : decode cX9_worth 5 = .ok (.invokevirtual 163, 3) := by decide +kernel
theorem dX9_worth_8 : decode cX9_worth 8 = .ok (.ifCond .ne 5, 3) := by decide +kernel
theorem dX9_worth_11 : decode cX9_worth 11 = .ok (.iconst (-1), 1) := by decide +kernel
theorem dX9_worth_12 : decode cX9_worth 12 = .ok (.ireturn, 1) := by decide +kernel
theorem dX9_worth_13 : decode cX9_worth 13 = .ok (.iload_n 2, 1) := by decide +kernel
theorem dX9_worth_14 : decode cX9_worth 14 = .ok (.tableswitch 55 0 2 #[26, 36, 46], 26) := by decide +kernel
theorem dX9_worth_40 : decode cX9_worth 40 = .ok (.aload_n 0, 1) := by decide +kernel
theorem dX9_worth_41 : decode cX9_worth 41 = .ok (.getfield 24, 3) := by decide +kernel
theorem dX9_worth_44 : decode cX9_worth 44 = .ok (.getfield 240, 3) := by decide +kernel
theorem dX9_worth_47 : decode cX9_worth 47 = .ok (.iload_n 1, 1) := by decide +kernel
theorem dX9_worth_48 : decode cX9_worth 48 = .ok (.iaload, 1) := by decide +kernel
theorem dX9_worth_49 : decode cX9_worth 49 = .ok (.ireturn, 1) := by decide +kernel
theorem dX9_worth_50 : decode cX9_worth 50 = .ok (.aload_n 0, 1) := by decide +kernel
theorem dX9_worth_51 : decode cX9_worth 51 = .ok (.getfield 24, 3) := by decide +kernel
theorem dX9_worth_54 : decode cX9_worth 54 = .ok (.getfield 170, 3) := by decide +kernel
theorem dX9_worth_57 : decode cX9_worth 57 = .ok (.iload_n 1, 1) := by decide +kernel
theorem dX9_worth_58 : decode cX9_worth 58 = .ok (.iaload, 1) := by decide +kernel
theorem dX9_worth_59 : decode cX9_worth 59 = .ok (.ireturn, 1) := by decide +kernel
theorem dX9_worth_60 : decode cX9_worth 60 = .ok (.aload_n 0, 1) := by decide +kernel
theorem dX9_worth_61 : decode cX9_worth 61 = .ok (.getfield 24, 3) := by decide +kernel
theorem dX9_worth_64 : decode cX9_worth 64 = .ok (.iload_n 1, 1) := by decide +kernel
theorem dX9_worth_65 : decode cX9_worth 65 = .ok (.invokevirtual 243, 3) := by decide +kernel
theorem dX9_worth_68 : decode cX9_worth 68 = .ok (.ireturn, 1) := by decide +kernel
theorem dX9_worth_69 : decode cX9_worth 69 = .ok (.iconst (-1), 1) := by decide +kernel
theorem dX9_worth_70 : decode cX9_worth 70 = .ok (.ireturn, 1) := by decide +kernel
theorem dX9_plainOf_0 : decode cX9_plainOf 0 = .ok (.aload_n 0, 1) := by decide +kernel
theorem dX9_plainOf_1 : decode cX9_plainOf 1 = .ok (.getfield 24, 3) := by decide +kernel
theorem dX9_plainOf_4 : decode cX9_plainOf 4 = .ok (.getfield 113, 3) := by decide +kernel
theorem dX9_plainOf_7 : decode cX9_plainOf 7 = .ok (.ifCond .eq 7, 3) := by decide +kernel
theorem dX9_plainOf_10 : decode cX9_plainOf 10 = .ok (.iload_n 1, 1) := by decide +kernel
theorem dX9_plainOf_11 : decode cX9_plainOf 11 = .ok (.ifCond .ge 6, 3) := by decide +kernel
theorem dX9_plainOf_14 : decode cX9_plainOf 14 = .ok (.bipush (-2), 2) := by decide +kernel
theorem dX9_plainOf_16 : decode cX9_plainOf 16 = .ok (.ireturn, 1) := by decide +kernel
theorem dX9_plainOf_17 : decode cX9_plainOf 17 = .ok (.aload_n 0, 1) := by decide +kernel
theorem dX9_plainOf_18 : decode cX9_plainOf 18 = .ok (.getfield 38, 3) := by decide +kernel
theorem dX9_plainOf_21 : decode cX9_plainOf 21 = .ok (.aload_n 0, 1) := by decide +kernel
theorem dX9_plainOf_22 : decode cX9_plainOf 22 = .ok (.getfield 24, 3) := by decide +kernel
theorem dX9_plainOf_25 : decode cX9_plainOf 25 = .ok (.iload_n 1, 1) := by decide +kernel
theorem dX9_plainOf_26 : decode cX9_plainOf 26 = .ok (.invokevirtual 181, 3) := by decide +kernel
theorem dX9_plainOf_29 : decode cX9_plainOf 29 = .ok (.istore_n 3, 1) := by decide +kernel
theorem dX9_plainOf_30 : decode cX9_plainOf 30 = .ok (.iload_n 2, 1) := by decide +kernel
theorem dX9_plainOf_31 : decode cX9_plainOf 31 = .ok (.iconst (-1), 1) := by decide +kernel
theorem dX9_plainOf_32 : decode cX9_plainOf 32 = .ok (.if_icmp .ne 5, 3) := by decide +kernel
theorem dX9_plainOf_35 : decode cX9_plainOf 35 = .ok (.iload_n 3, 1) := by decide +kernel
theorem dX9_plainOf_36 : decode cX9_plainOf 36 = .ok (.ireturn, 1) := by decide +kernel
theorem dX9_plainOf_37 : decode cX9_plainOf 37 = .ok (.aload_n 0, 1) := by decide +kernel
theorem dX9_plainOf_38 : decode cX9_plainOf 38 = .ok (.getfield 24, 3) := by decide +kernel
theorem dX9_plainOf_41 : decode cX9_plainOf 41 = .ok (.iload_n 2, 1) := by decide +kernel
theorem dX9_plainOf_42 : decode cX9_plainOf 42 = .ok (.invokevirtual 163, 3) := by decide +kernel
theorem dX9_plainOf_45 : decode cX9_plainOf 45 = .ok (.ifCond .eq 15, 3) := by decide +kernel
theorem dX9_plainOf_48 : decode cX9_plainOf 48 = .ok (.aload_n 0, 1) := by decide +kernel
theorem dX9_plainOf_49 : decode cX9_plainOf 49 = .ok (.getfield 38, 3) := by decide +kernel
theorem dX9_plainOf_52 : decode cX9_plainOf 52 = .ok (.getfield 246, 3) := by decide +kernel
theorem dX9_plainOf_55 : decode cX9_plainOf 55 = .ok (.iload_n 2, 1) := by decide +kernel
theorem dX9_plainOf_56 : decode cX9_plainOf 56 = .ok (.iaload, 1) := by decide +kernel
theorem dX9_plainOf_57 : decode cX9_plainOf 57 = .ok (.goto 5, 3) := by decide +kernel
theorem dX9_plainOf_60 : decode cX9_plainOf 60 = .ok (.bipush (-2), 2) := by decide +kernel
theorem dX9_plainOf_62 : decode cX9_plainOf 62 = .ok (.ireturn, 1) := by decide +kernel
theorem dX9_carries_0 : decode cX9_carries 0 = .ok (.aload_n 0, 1) := by decide +kernel
theorem dX9_carries_1 : decode cX9_carries 1 = .ok (.getfield 24, 3) := by decide +kernel
theorem dX9_carries_4 : decode cX9_carries 4 = .ok (.iload_n 1, 1) := by decide +kernel
theorem dX9_carries_5 : decode cX9_carries 5 = .ok (.invokevirtual 120, 3) := by decide +kernel
theorem dX9_carries_8 : decode cX9_carries 8 = .ok (.ifCond .eq 18, 3) := by decide +kernel
theorem dX9_carries_11 : decode cX9_carries 11 = .ok (.aload_n 0, 1) := by decide +kernel
theorem dX9_carries_12 : decode cX9_carries 12 = .ok (.getfield 38, 3) := by decide +kernel
theorem dX9_carries_15 : decode cX9_carries 15 = .ok (.aload_n 0, 1) := by decide +kernel
theorem dX9_carries_16 : decode cX9_carries 16 = .ok (.getfield 24, 3) := by decide +kernel
theorem dX9_carries_19 : decode cX9_carries 19 = .ok (.iload_n 1, 1) := by decide +kernel
theorem dX9_carries_20 : decode cX9_carries 20 = .ok (.invokevirtual 249, 3) := by decide +kernel
theorem dX9_carries_23 : decode cX9_carries 23 = .ok (.goto 4, 3) := by decide +kernel
theorem dX9_carries_26 : decode cX9_carries 26 = .ok (.iconst (-1), 1) := by decide +kernel
theorem dX9_carries_27 : decode cX9_carries 27 = .ok (.ireturn, 1) := by decide +kernel
theorem dX9_can_0 : decode cX9_can 0 = .ok (.aload_n 0, 1) := by decide +kernel
theorem dX9_can_1 : decode cX9_can 1 = .ok (.getfield 24, 3) := by decide +kernel
theorem dX9_can_4 : decode cX9_can 4 = .ok (.aload_n 0, 1) := by decide +kernel
theorem dX9_can_5 : decode cX9_can 5 = .ok (.getfield 66, 3) := by decide +kernel
theorem dX9_can_8 : decode cX9_can 8 = .ok (.iload_n 1, 1) := by decide +kernel
theorem dX9_can_9 : decode cX9_can 9 = .ok (.iload_n 2, 1) := by decide +kernel
theorem dX9_can_10 : decode cX9_can 10 = .ok (.iload_n 3, 1) := by decide +kernel
theorem dX9_can_11 : decode cX9_can 11 = .ok (.iload 4, 2) := by decide +kernel
theorem dX9_can_13 : decode cX9_can 13 = .ok (.iload 5, 2) := by decide +kernel
theorem dX9_can_15 : decode cX9_can 15 = .ok (.invokevirtual 252, 3) := by decide +kernel
theorem dX9_can_18 : decode cX9_can 18 = .ok (.ifCond .eq 7, 3) := by decide +kernel
theorem dX9_can_21 : decode cX9_can 21 = .ok (.iconst 1, 1) := by decide +kernel
theorem dX9_can_22 : decode cX9_can 22 = .ok (.goto 4, 3) := by decide +kernel
theorem dX9_can_25 : decode cX9_can 25 = .ok (.iconst 0, 1) := by decide +kernel
theorem dX9_can_26 : decode cX9_can 26 = .ok (.ireturn, 1) := by decide +kernel
theorem dX9_compare_0 : decode cX9_compare 0 = .ok (.aload_n 0, 1) := by decide +kernel
theorem dX9_compare_1 : decode cX9_compare 1 = .ok (.getfield 24, 3) := by decide +kernel
theorem dX9_compare_4 : decode cX9_compare 4 = .ok (.iload_n 1, 1) := by decide +kernel
theorem dX9_compare_5 : decode cX9_compare 5 = .ok (.invokevirtual 120, 3) := by decide +kernel
theorem dX9_compare_8 : decode cX9_compare 8 = .ok (.ifCond .eq 14, 3) := by decide +kernel
theorem dX9_compare_11 : decode cX9_compare 11 = .ok (.aload_n 0, 1) := by decide +kernel
theorem dX9_compare_12 : decode cX9_compare 12 = .ok (.getfield 24, 3) := by decide +kernel
theorem dX9_compare_15 : decode cX9_compare 15 = .ok (.iload_n 2, 1) := by decide +kernel
theorem dX9_compare_16 : decode cX9_compare 16 = .ok (.invokevirtual 120, 3) := by decide +kernel
theorem dX9_compare_19 : decode cX9_compare 19 = .ok (.ifCond .ne 6, 3) := by decide +kernel
theorem dX9_compare_22 : decode cX9_compare 22 = .ok (.bipush (-2), 2) := by decide +kernel
theorem dX9_compare_24 : decode cX9_compare 24 = .ok (.ireturn, 1) := by decide +kernel
theorem dX9_compare_25 : decode cX9_compare 25 = .ok (.aload_n 0, 1) := by decide +kernel
theorem dX9_compare_26 : decode cX9_compare 26 = .ok (.getfield 24, 3) := by decide +kernel
theorem dX9_compare_29 : decode cX9_compare 29 = .ok (.iload_n 1, 1) := by decide +kernel
theorem dX9_compare_30 : decode cX9_compare 30 = .ok (.invokevirtual 123, 3) := by decide +kernel
theorem dX9_compare_33 : decode cX9_compare 33 = .ok (.istore_n 3, 1) := by decide +kernel
theorem dX9_compare_34 : decode cX9_compare 34 = .ok (.aload_n 0, 1) := by decide +kernel
theorem dX9_compare_35 : decode cX9_compare 35 = .ok (.getfield 24, 3) := by decide +kernel
theorem dX9_compare_38 : decode cX9_compare 38 = .ok (.iload_n 2, 1) := by decide +kernel
theorem dX9_compare_39 : decode cX9_compare 39 = .ok (.invokevirtual 123, 3) := by decide +kernel
theorem dX9_compare_42 : decode cX9_compare 42 = .ok (.istore 4, 2) := by decide +kernel
theorem dX9_compare_44 : decode cX9_compare 44 = .ok (.iload_n 3, 1) := by decide +kernel
theorem dX9_compare_45 : decode cX9_compare 45 = .ok (.iload 4, 2) := by decide +kernel
theorem dX9_compare_47 : decode cX9_compare 47 = .ok (.if_icmp .le 7, 3) := by decide +kernel
theorem dX9_compare_50 : decode cX9_compare 50 = .ok (.iconst 1, 1) := by decide +kernel
theorem dX9_compare_51 : decode cX9_compare 51 = .ok (.goto 14, 3) := by decide +kernel
theorem dX9_compare_54 : decode cX9_compare 54 = .ok (.iload_n 3, 1) := by decide +kernel
theorem dX9_compare_55 : decode cX9_compare 55 = .ok (.iload 4, 2) := by decide +kernel
theorem dX9_compare_57 : decode cX9_compare 57 = .ok (.if_icmp .ne 7, 3) := by decide +kernel
theorem dX9_compare_60 : decode cX9_compare 60 = .ok (.iconst 0, 1) := by decide +kernel
theorem dX9_compare_61 : decode cX9_compare 61 = .ok (.goto 4, 3) := by decide +kernel
theorem dX9_compare_64 : decode cX9_compare 64 = .ok (.iconst (-1), 1) := by decide +kernel
theorem dX9_compare_65 : decode cX9_compare 65 = .ok (.ireturn, 1) := by decide +kernel
theorem dX9_apart_0 : decode cX9_apart 0 = .ok (.aload_n 0, 1) := by decide +kernel
theorem dX9_apart_1 : decode cX9_apart 1 = .ok (.getfield 24, 3) := by decide +kernel
theorem dX9_apart_4 : decode cX9_apart 4 = .ok (.iload_n 1, 1) := by decide +kernel
theorem dX9_apart_5 : decode cX9_apart 5 = .ok (.invokevirtual 120, 3) := by decide +kernel
theorem dX9_apart_8 : decode cX9_apart 8 = .ok (.ifCond .eq 14, 3) := by decide +kernel
theorem dX9_apart_11 : decode cX9_apart 11 = .ok (.aload_n 0, 1) := by decide +kernel
theorem dX9_apart_12 : decode cX9_apart 12 = .ok (.getfield 24, 3) := by decide +kernel
theorem dX9_apart_15 : decode cX9_apart 15 = .ok (.iload_n 2, 1) := by decide +kernel
theorem dX9_apart_16 : decode cX9_apart 16 = .ok (.invokevirtual 120, 3) := by decide +kernel
theorem dX9_apart_19 : decode cX9_apart 19 = .ok (.ifCond .ne 5, 3) := by decide +kernel
theorem dX9_apart_22 : decode cX9_apart 22 = .ok (.iconst (-1), 1) := by decide +kernel
theorem dX9_apart_23 : decode cX9_apart 23 = .ok (.ireturn, 1) := by decide +kernel
theorem dX9_apart_24 : decode cX9_apart 24 = .ok (.aload_n 0, 1) := by decide +kernel
theorem dX9_apart_25 : decode cX9_apart 25 = .ok (.getfield 24, 3) := by decide +kernel
theorem dX9_apart_28 : decode cX9_apart 28 = .ok (.iload_n 1, 1) := by decide +kernel
theorem dX9_apart_29 : decode cX9_apart 29 = .ok (.invokevirtual 123, 3) := by decide +kernel
theorem dX9_apart_32 : decode cX9_apart 32 = .ok (.aload_n 0, 1) := by decide +kernel
theorem dX9_apart_33 : decode cX9_apart 33 = .ok (.getfield 24, 3) := by decide +kernel
theorem dX9_apart_36 : decode cX9_apart 36 = .ok (.iload_n 2, 1) := by decide +kernel
theorem dX9_apart_37 : decode cX9_apart 37 = .ok (.invokevirtual 123, 3) := by decide +kernel
theorem dX9_apart_40 : decode cX9_apart 40 = .ok (.if_icmp .eq 6, 3) := by decide +kernel
theorem dX9_apart_43 : decode cX9_apart 43 = .ok (.bipush (-2), 2) := by decide +kernel
theorem dX9_apart_45 : decode cX9_apart 45 = .ok (.ireturn, 1) := by decide +kernel
theorem dX9_apart_46 : decode cX9_apart 46 = .ok (.aload_n 0, 1) := by decide +kernel
theorem dX9_apart_47 : decode cX9_apart 47 = .ok (.getfield 38, 3) := by decide +kernel
theorem dX9_apart_50 : decode cX9_apart 50 = .ok (.aload_n 0, 1) := by decide +kernel
theorem dX9_apart_51 : decode cX9_apart 51 = .ok (.getfield 24, 3) := by decide +kernel
theorem dX9_apart_54 : decode cX9_apart 54 = .ok (.iload_n 1, 1) := by decide +kernel
theorem dX9_apart_55 : decode cX9_apart 55 = .ok (.iload_n 2, 1) := by decide +kernel
theorem dX9_apart_56 : decode cX9_apart 56 = .ok (.invokevirtual 256, 3) := by decide +kernel
theorem dX9_apart_59 : decode cX9_apart 59 = .ok (.ireturn, 1) := by decide +kernel
theorem dX9_fullest_0 : decode cX9_fullest 0 = .ok (.iconst (-1), 1) := by decide +kernel
theorem dX9_fullest_1 : decode cX9_fullest 1 = .ok (.istore_n 1, 1) := by decide +kernel
theorem dX9_fullest_2 : decode cX9_fullest 2 = .ok (.iconst (-1), 1) := by decide +kernel
theorem dX9_fullest_3 : decode cX9_fullest 3 = .ok (.istore_n 2, 1) := by decide +kernel
theorem dX9_fullest_4 : decode cX9_fullest 4 = .ok (.iconst 0, 1) := by decide +kernel
theorem dX9_fullest_5 : decode cX9_fullest 5 = .ok (.istore_n 3, 1) := by decide +kernel
theorem dX9_fullest_6 : decode cX9_fullest 6 = .ok (.iload_n 3, 1) := by decide +kernel
theorem dX9_fullest_7 : decode cX9_fullest 7 = .ok (.aload_n 0, 1) := by decide +kernel
theorem dX9_fullest_8 : decode cX9_fullest 8 = .ok (.getfield 24, 3) := by decide +kernel
theorem dX9_fullest_11 : decode cX9_fullest 11 = .ok (.getfield 97, 3) := by decide +kernel
theorem dX9_fullest_14 : decode cX9_fullest 14 = .ok (.if_icmp .ge 73, 3) := by decide +kernel
theorem dX9_fullest_17 : decode cX9_fullest 17 = .ok (.iconst 0, 1) := by decide +kernel
theorem dX9_fullest_18 : decode cX9_fullest 18 = .ok (.istore 4, 2) := by decide +kernel
theorem dX9_fullest_20 : decode cX9_fullest 20 = .ok (.iload 4, 2) := by decide +kernel
theorem dX9_fullest_22 : decode cX9_fullest 22 = .ok (.aload_n 0, 1) := by decide +kernel
theorem dX9_fullest_23 : decode cX9_fullest 23 = .ok (.getfield 24, 3) := by decide +kernel
theorem dX9_fullest_26 : decode cX9_fullest 26 = .ok (.getfield 113, 3) := by decide +kernel
theorem dX9_fullest_29 : decode cX9_fullest 29 = .ok (.if_icmp .ge 52, 3) := by decide +kernel
theorem dX9_fullest_32 : decode cX9_fullest 32 = .ok (.aload_n 0, 1) := by decide +kernel
theorem dX9_fullest_33 : decode cX9_fullest 33 = .ok (.getfield 24, 3) := by decide +kernel
theorem dX9_fullest_36 : decode cX9_fullest 36 = .ok (.getfield 198, 3) := by decide +kernel
theorem dX9_fullest_39 : decode cX9_fullest 39 = .ok (.iload_n 3, 1) := by decide +kernel
theorem dX9_fullest_40 : decode cX9_fullest 40 = .ok (.bipush 6, 2) := by decide +kernel
theorem dX9_fullest_42 : decode cX9_fullest 42 = .ok (.imul, 1) := by decide +kernel
theorem dX9_fullest_43 : decode cX9_fullest 43 = .ok (.iload 4, 2) := by decide +kernel
theorem dX9_fullest_45 : decode cX9_fullest 45 = .ok (.iadd, 1) := by decide +kernel
theorem dX9_fullest_46 : decode cX9_fullest 46 = .ok (.iaload, 1) := by decide +kernel
theorem dX9_fullest_47 : decode cX9_fullest 47 = .ok (.iload_n 2, 1) := by decide +kernel
theorem dX9_fullest_48 : decode cX9_fullest 48 = .ok (.if_icmp .le 27, 3) := by decide +kernel
theorem dX9_fullest_51 : decode cX9_fullest 51 = .ok (.aload_n 0, 1) := by decide +kernel
theorem dX9_fullest_52 : decode cX9_fullest 52 = .ok (.getfield 24, 3) := by decide +kernel
theorem dX9_fullest_55 : decode cX9_fullest 55 = .ok (.getfield 198, 3) := by decide +kernel
theorem dX9_fullest_58 : decode cX9_fullest 58 = .ok (.iload_n 3, 1) := by decide +kernel
theorem dX9_fullest_59 : decode cX9_fullest 59 = .ok (.bipush 6, 2) := by decide +kernel
theorem dX9_fullest_61 : decode cX9_fullest 61 = .ok (.imul, 1) := by decide +kernel
theorem dX9_fullest_62 : decode cX9_fullest 62 = .ok (.iload 4, 2) := by decide +kernel
theorem dX9_fullest_64 : decode cX9_fullest 64 = .ok (.iadd, 1) := by decide +kernel
theorem dX9_fullest_65 : decode cX9_fullest 65 = .ok (.iaload, 1) := by decide +kernel
theorem dX9_fullest_66 : decode cX9_fullest 66 = .ok (.istore_n 2, 1) := by decide +kernel
theorem dX9_fullest_67 : decode cX9_fullest 67 = .ok (.bipush 10, 2) := by decide +kernel
theorem dX9_fullest_69 : decode cX9_fullest 69 = .ok (.iload_n 3, 1) := by decide +kernel
theorem dX9_fullest_70 : decode cX9_fullest 70 = .ok (.imul, 1) := by decide +kernel
theorem dX9_fullest_71 : decode cX9_fullest 71 = .ok (.iload 4, 2) := by decide +kernel
theorem dX9_fullest_73 : decode cX9_fullest 73 = .ok (.iadd, 1) := by decide +kernel
theorem dX9_fullest_74 : decode cX9_fullest 74 = .ok (.istore_n 1, 1) := by decide +kernel
theorem dX9_fullest_75 : decode cX9_fullest 75 = .ok (.iinc 4 1, 3) := by decide +kernel
theorem dX9_fullest_78 : decode cX9_fullest 78 = .ok (.goto (-58), 3) := by decide +kernel
theorem dX9_fullest_81 : decode cX9_fullest 81 = .ok (.iinc 3 1, 3) := by decide +kernel
theorem dX9_fullest_84 : decode cX9_fullest 84 = .ok (.goto (-78), 3) := by decide +kernel
theorem dX9_fullest_87 : decode cX9_fullest 87 = .ok (.iload_n 1, 1) := by decide +kernel
theorem dX9_fullest_88 : decode cX9_fullest 88 = .ok (.ireturn, 1) := by decide +kernel
theorem dX9_ways_0 : decode cX9_ways 0 = .ok (.aload_n 0, 1) := by decide +kernel
theorem dX9_ways_1 : decode cX9_ways 1 = .ok (.getfield 24, 3) := by decide +kernel
theorem dX9_ways_4 : decode cX9_ways 4 = .ok (.iload_n 1, 1) := by decide +kernel
theorem dX9_ways_5 : decode cX9_ways 5 = .ok (.invokevirtual 120, 3) := by decide +kernel
theorem dX9_ways_8 : decode cX9_ways 8 = .ok (.ifCond .eq 23, 3) := by decide +kernel
theorem dX9_ways_11 : decode cX9_ways 11 = .ok (.iload_n 2, 1) := by decide +kernel
theorem dX9_ways_12 : decode cX9_ways 12 = .ok (.ifCond .lt 19, 3) := by decide +kernel
theorem dX9_ways_15 : decode cX9_ways 15 = .ok (.aload_n 0, 1) := by decide +kernel
theorem dX9_ways_16 : decode cX9_ways 16 = .ok (.getfield 38, 3) := by decide +kernel
theorem dX9_ways_19 : decode cX9_ways 19 = .ok (.aload_n 0, 1) := by decide +kernel
theorem dX9_ways_20 : decode cX9_ways 20 = .ok (.getfield 24, 3) := by decide +kernel
theorem dX9_ways_23 : decode cX9_ways 23 = .ok (.iload_n 1, 1) := by decide +kernel
theorem dX9_ways_24 : decode cX9_ways 24 = .ok (.iload_n 2, 1) := by decide +kernel
theorem dX9_ways_25 : decode cX9_ways 25 = .ok (.invokevirtual 260, 3) := by decide +kernel
theorem dX9_ways_28 : decode cX9_ways 28 = .ok (.goto 6, 3) := by decide +kernel
theorem dX9_ways_31 : decode cX9_ways 31 = .ok (.ldc2_w 264, 3) := by decide +kernel
theorem dX9_ways_34 : decode cX9_ways 34 = .ok (.lreturn, 1) := by decide +kernel
theorem dX9_taken_0 : decode cX9_taken 0 = .ok (.iload_n 3, 1) := by decide +kernel
theorem dX9_taken_1 : decode cX9_taken 1 = .ok (.iconst (-1), 1) := by decide +kernel
theorem dX9_taken_2 : decode cX9_taken 2 = .ok (.if_icmp .eq 14, 3) := by decide +kernel
theorem dX9_taken_5 : decode cX9_taken 5 = .ok (.aload_n 0, 1) := by decide +kernel
theorem dX9_taken_6 : decode cX9_taken 6 = .ok (.getfield 24, 3) := by decide +kernel
theorem dX9_taken_9 : decode cX9_taken 9 = .ok (.iload_n 3, 1) := by decide +kernel
theorem dX9_taken_10 : decode cX9_taken 10 = .ok (.invokevirtual 163, 3) := by decide +kernel
theorem dX9_taken_13 : decode cX9_taken 13 = .ok (.ifCond .eq 7, 3) := by decide +kernel
theorem dX9_taken_16 : decode cX9_taken 16 = .ok (.iconst 1, 1) := by decide +kernel
theorem dX9_taken_17 : decode cX9_taken 17 = .ok (.goto 4, 3) := by decide +kernel
theorem dX9_taken_20 : decode cX9_taken 20 = .ok (.iconst 0, 1) := by decide +kernel
theorem dX9_taken_21 : decode cX9_taken 21 = .ok (.istore 4, 2) := by decide +kernel
theorem dX9_taken_23 : decode cX9_taken 23 = .ok (.aload_n 0, 1) := by decide +kernel
theorem dX9_taken_24 : decode cX9_taken 24 = .ok (.getfield 24, 3) := by decide +kernel
theorem dX9_taken_27 : decode cX9_taken 27 = .ok (.iload_n 1, 1) := by decide +kernel
theorem dX9_taken_28 : decode cX9_taken 28 = .ok (.invokevirtual 120, 3) := by decide +kernel
theorem dX9_taken_31 : decode cX9_taken 31 = .ok (.ifCond .eq 12, 3) := by decide +kernel
theorem dX9_taken_34 : decode cX9_taken 34 = .ok (.iload 4, 2) := by decide +kernel
theorem dX9_taken_36 : decode cX9_taken 36 = .ok (.ifCond .eq 7, 3) := by decide +kernel
theorem dX9_taken_39 : decode cX9_taken 39 = .ok (.iload_n 2, 1) := by decide +kernel
theorem dX9_taken_40 : decode cX9_taken 40 = .ok (.ifCond .ge 6, 3) := by decide +kernel
theorem dX9_taken_43 : decode cX9_taken 43 = .ok (.bipush (-3), 2) := by decide +kernel
theorem dX9_taken_45 : decode cX9_taken 45 = .ok (.ireturn, 1) := by decide +kernel
theorem dX9_taken_46 : decode cX9_taken 46 = .ok (.aload_n 0, 1) := by decide +kernel
theorem dX9_taken_47 : decode cX9_taken 47 = .ok (.getfield 38, 3) := by decide +kernel
theorem dX9_taken_50 : decode cX9_taken 50 = .ok (.aload_n 0, 1) := by decide +kernel
theorem dX9_taken_51 : decode cX9_taken 51 = .ok (.getfield 24, 3) := by decide +kernel
theorem dX9_taken_54 : decode cX9_taken 54 = .ok (.iload_n 1, 1) := by decide +kernel
theorem dX9_taken_55 : decode cX9_taken 55 = .ok (.invokevirtual 266, 3) := by decide +kernel
theorem dX9_taken_58 : decode cX9_taken 58 = .ok (.aload_n 0, 1) := by decide +kernel
theorem dX9_taken_59 : decode cX9_taken 59 = .ok (.getfield 38, 3) := by decide +kernel
theorem dX9_taken_62 : decode cX9_taken 62 = .ok (.aload_n 0, 1) := by decide +kernel
theorem dX9_taken_63 : decode cX9_taken 63 = .ok (.getfield 24, 3) := by decide +kernel
theorem dX9_taken_66 : decode cX9_taken 66 = .ok (.iload_n 2, 1) := by decide +kernel
theorem dX9_taken_67 : decode cX9_taken 67 = .ok (.invokevirtual 270, 3) := by decide +kernel
theorem dX9_taken_70 : decode cX9_taken 70 = .ok (.ifCond .ne 6, 3) := by decide +kernel
theorem dX9_taken_73 : decode cX9_taken 73 = .ok (.bipush (-2), 2) := by decide +kernel
theorem dX9_taken_75 : decode cX9_taken 75 = .ok (.ireturn, 1) := by decide +kernel
theorem dX9_taken_76 : decode cX9_taken 76 = .ok (.iload_n 3, 1) := by decide +kernel
theorem dX9_taken_77 : decode cX9_taken 77 = .ok (.iconst (-1), 1) := by decide +kernel
theorem dX9_taken_78 : decode cX9_taken 78 = .ok (.if_icmp .ne 17, 3) := by decide +kernel
theorem dX9_taken_81 : decode cX9_taken 81 = .ok (.aload_n 0, 1) := by decide +kernel
theorem dX9_taken_82 : decode cX9_taken 82 = .ok (.getfield 38, 3) := by decide +kernel
theorem dX9_taken_85 : decode cX9_taken 85 = .ok (.aload_n 0, 1) := by decide +kernel
theorem dX9_taken_86 : decode cX9_taken 86 = .ok (.getfield 24, 3) := by decide +kernel
theorem dX9_taken_89 : decode cX9_taken 89 = .ok (.invokevirtual 273, 3) := by decide +kernel
theorem dX9_taken_92 : decode cX9_taken 92 = .ok (.goto 12, 3) := by decide +kernel
theorem dX9_taken_95 : decode cX9_taken 95 = .ok (.aload_n 0, 1) := by decide +kernel
theorem dX9_taken_96 : decode cX9_taken 96 = .ok (.getfield 38, 3) := by decide +kernel
theorem dX9_taken_99 : decode cX9_taken 99 = .ok (.getfield 246, 3) := by decide +kernel
theorem dX9_taken_102 : decode cX9_taken 102 = .ok (.iload_n 3, 1) := by decide +kernel
theorem dX9_taken_103 : decode cX9_taken 103 = .ok (.iaload, 1) := by decide +kernel
theorem dX9_taken_104 : decode cX9_taken 104 = .ok (.ireturn, 1) := by decide +kernel
theorem dX9_breaks_0 : decode cX9_breaks 0 = .ok (.aload_n 0, 1) := by decide +kernel
theorem dX9_breaks_1 : decode cX9_breaks 1 = .ok (.getfield 24, 3) := by decide +kernel
theorem dX9_breaks_4 : decode cX9_breaks 4 = .ok (.iload_n 1, 1) := by decide +kernel
theorem dX9_breaks_5 : decode cX9_breaks 5 = .ok (.invokevirtual 120, 3) := by decide +kernel
theorem dX9_breaks_8 : decode cX9_breaks 8 = .ok (.ifCond .eq 23, 3) := by decide +kernel
theorem dX9_breaks_11 : decode cX9_breaks 11 = .ok (.iload_n 2, 1) := by decide +kernel
theorem dX9_breaks_12 : decode cX9_breaks 12 = .ok (.ifCond .lt 19, 3) := by decide +kernel
theorem dX9_breaks_15 : decode cX9_breaks 15 = .ok (.aload_n 0, 1) := by decide +kernel
theorem dX9_breaks_16 : decode cX9_breaks 16 = .ok (.getfield 38, 3) := by decide +kernel
theorem dX9_breaks_19 : decode cX9_breaks 19 = .ok (.aload_n 0, 1) := by decide +kernel
theorem dX9_breaks_20 : decode cX9_breaks 20 = .ok (.getfield 24, 3) := by decide +kernel
theorem dX9_breaks_23 : decode cX9_breaks 23 = .ok (.iload_n 1, 1) := by decide +kernel
theorem dX9_breaks_24 : decode cX9_breaks 24 = .ok (.iload_n 2, 1) := by decide +kernel
theorem dX9_breaks_25 : decode cX9_breaks 25 = .ok (.invokevirtual 276, 3) := by decide +kernel
theorem dX9_breaks_28 : decode cX9_breaks 28 = .ok (.goto 4, 3) := by decide +kernel
theorem dX9_breaks_31 : decode cX9_breaks 31 = .ok (.iconst (-1), 1) := by decide +kernel
theorem dX9_breaks_32 : decode cX9_breaks 32 = .ok (.ireturn, 1) := by decide +kernel
theorem dX9_missing_0 : decode cX9_missing 0 = .ok (.aload_n 0, 1) := by decide +kernel
theorem dX9_missing_1 : decode cX9_missing 1 = .ok (.getfield 24, 3) := by decide +kernel
theorem dX9_missing_4 : decode cX9_missing 4 = .ok (.iload_n 1, 1) := by decide +kernel
theorem dX9_missing_5 : decode cX9_missing 5 = .ok (.invokevirtual 120, 3) := by decide +kernel
theorem dX9_missing_8 : decode cX9_missing 8 = .ok (.ifCond .eq 18, 3) := by decide +kernel
theorem dX9_missing_11 : decode cX9_missing 11 = .ok (.aload_n 0, 1) := by decide +kernel
theorem dX9_missing_12 : decode cX9_missing 12 = .ok (.getfield 38, 3) := by decide +kernel
theorem dX9_missing_15 : decode cX9_missing 15 = .ok (.aload_n 0, 1) := by decide +kernel
theorem dX9_missing_16 : decode cX9_missing 16 = .ok (.getfield 24, 3) := by decide +kernel
theorem dX9_missing_19 : decode cX9_missing 19 = .ok (.iload_n 1, 1) := by decide +kernel
theorem dX9_missing_20 : decode cX9_missing 20 = .ok (.invokevirtual 279, 3) := by decide +kernel
theorem dX9_missing_23 : decode cX9_missing 23 = .ok (.goto 4, 3) := by decide +kernel
theorem dX9_missing_26 : decode cX9_missing 26 = .ok (.iconst (-1), 1) := by decide +kernel
theorem dX9_missing_27 : decode cX9_missing 27 = .ok (.ireturn, 1) := by decide +kernel
theorem dX9_pays_0 : decode cX9_pays 0 = .ok (.aload_n 0, 1) := by decide +kernel
theorem dX9_pays_1 : decode cX9_pays 1 = .ok (.iload_n 1, 1) := by decide +kernel
theorem dX9_pays_2 : decode cX9_pays 2 = .ok (.iload_n 2, 1) := by decide +kernel
theorem dX9_pays_3 : decode cX9_pays 3 = .ok (.invokevirtual 192, 3) := by decide +kernel
theorem dX9_pays_6 : decode cX9_pays 6 = .ok (.ifCond .eq 8, 3) := by decide +kernel
theorem dX9_pays_9 : decode cX9_pays 9 = .ok (.iload_n 3, 1) := by decide +kernel
theorem dX9_pays_10 : decode cX9_pays 10 = .ok (.iconst 1, 1) := by decide +kernel
theorem dX9_pays_11 : decode cX9_pays 11 = .ok (.if_icmp .ge 5, 3) := by decide +kernel
theorem dX9_pays_14 : decode cX9_pays 14 = .ok (.iconst (-1), 1) := by decide +kernel
theorem dX9_pays_15 : decode cX9_pays 15 = .ok (.ireturn, 1) := by decide +kernel
theorem dX9_pays_16 : decode cX9_pays 16 = .ok (.aload_n 0, 1) := by decide +kernel
theorem dX9_pays_17 : decode cX9_pays 17 = .ok (.getfield 45, 3) := by decide +kernel
theorem dX9_pays_20 : decode cX9_pays 20 = .ok (.aload_n 0, 1) := by decide +kernel
theorem dX9_pays_21 : decode cX9_pays 21 = .ok (.getfield 24, 3) := by decide +kernel
theorem dX9_pays_24 : decode cX9_pays 24 = .ok (.iload_n 1, 1) := by decide +kernel
theorem dX9_pays_25 : decode cX9_pays 25 = .ok (.iload_n 2, 1) := by decide +kernel
theorem dX9_pays_26 : decode cX9_pays 26 = .ok (.iload_n 3, 1) := by decide +kernel
theorem dX9_pays_27 : decode cX9_pays 27 = .ok (.invokevirtual 201, 3) := by decide +kernel
theorem dX9_pays_30 : decode cX9_pays 30 = .ok (.ireturn, 1) := by decide +kernel
theorem dX9_paysOf_0 : decode cX9_paysOf 0 = .ok (.aload_n 0, 1) := by decide +kernel
theorem dX9_paysOf_1 : decode cX9_paysOf 1 = .ok (.iload_n 1, 1) := by decide +kernel
theorem dX9_paysOf_2 : decode cX9_paysOf 2 = .ok (.iload_n 2, 1) := by decide +kernel
theorem dX9_paysOf_3 : decode cX9_paysOf 3 = .ok (.invokevirtual 192, 3) := by decide +kernel
theorem dX9_paysOf_6 : decode cX9_paysOf 6 = .ok (.ifCond .eq 20, 3) := by decide +kernel
theorem dX9_paysOf_9 : decode cX9_paysOf 9 = .ok (.iload_n 3, 1) := by decide +kernel
theorem dX9_paysOf_10 : decode cX9_paysOf 10 = .ok (.iconst 1, 1) := by decide +kernel
theorem dX9_paysOf_11 : decode cX9_paysOf 11 = .ok (.if_icmp .lt 15, 3) := by decide +kernel
theorem dX9_paysOf_14 : decode cX9_paysOf 14 = .ok (.aload_n 0, 1) := by decide +kernel
theorem dX9_paysOf_15 : decode cX9_paysOf 15 = .ok (.getfield 24, 3) := by decide +kernel
theorem dX9_paysOf_18 : decode cX9_paysOf 18 = .ok (.iload 4, 2) := by decide +kernel
theorem dX9_paysOf_20 : decode cX9_paysOf 20 = .ok (.invokevirtual 163, 3) := by decide +kernel
theorem dX9_paysOf_23 : decode cX9_paysOf 23 = .ok (.ifCond .ne 7, 3) := by decide +kernel
theorem dX9_paysOf_26 : decode cX9_paysOf 26 = .ok (.sipush (-1000), 3) := by decide +kernel
theorem dX9_paysOf_29 : decode cX9_paysOf 29 = .ok (.ireturn, 1) := by decide +kernel
theorem dX9_paysOf_30 : decode cX9_paysOf 30 = .ok (.aload_n 0, 1) := by decide +kernel
theorem dX9_paysOf_31 : decode cX9_paysOf 31 = .ok (.getfield 45, 3) := by decide +kernel
theorem dX9_paysOf_34 : decode cX9_paysOf 34 = .ok (.aload_n 0, 1) := by decide +kernel
theorem dX9_paysOf_35 : decode cX9_paysOf 35 = .ok (.getfield 24, 3) := by decide +kernel
theorem dX9_paysOf_38 : decode cX9_paysOf 38 = .ok (.iload_n 1, 1) := by decide +kernel
theorem dX9_paysOf_39 : decode cX9_paysOf 39 = .ok (.iload_n 2, 1) := by decide +kernel
theorem dX9_paysOf_40 : decode cX9_paysOf 40 = .ok (.iload_n 3, 1) := by decide +kernel
theorem dX9_paysOf_41 : decode cX9_paysOf 41 = .ok (.invokevirtual 201, 3) := by decide +kernel
theorem dX9_paysOf_44 : decode cX9_paysOf 44 = .ok (.bipush (-2), 2) := by decide +kernel
theorem dX9_paysOf_46 : decode cX9_paysOf 46 = .ok (.if_icmp .ne 9, 3) := by decide +kernel
theorem dX9_paysOf_49 : decode cX9_paysOf 49 = .ok (.sipush (-1000), 3) := by decide +kernel
theorem dX9_paysOf_52 : decode cX9_paysOf 52 = .ok (.goto 13, 3) := by decide +kernel
theorem dX9_paysOf_55 : decode cX9_paysOf 55 = .ok (.aload_n 0, 1) := by decide +kernel
theorem dX9_paysOf_56 : decode cX9_paysOf 56 = .ok (.getfield 45, 3) := by decide +kernel
theorem dX9_paysOf_59 : decode cX9_paysOf 59 = .ok (.getfield 205, 3) := by decide +kernel
theorem dX9_paysOf_62 : decode cX9_paysOf 62 = .ok (.iload 4, 2) := by decide +kernel
theorem dX9_paysOf_64 : decode cX9_paysOf 64 = .ok (.iaload, 1) := by decide +kernel
theorem dX9_paysOf_65 : decode cX9_paysOf 65 = .ok (.ireturn, 1) := by decide +kernel
theorem dX9_move_0 : decode cX9_move 0 = .ok (.iload_n 1, 1) := by decide +kernel
theorem dX9_move_1 : decode cX9_move 1 = .ok (.ifCond .lt 23, 3) := by decide +kernel
theorem dX9_move_4 : decode cX9_move 4 = .ok (.iload_n 1, 1) := by decide +kernel
theorem dX9_move_5 : decode cX9_move 5 = .ok (.aload_n 0, 1) := by decide +kernel
theorem dX9_move_6 : decode cX9_move 6 = .ok (.getfield 24, 3) := by decide +kernel
theorem dX9_move_9 : decode cX9_move 9 = .ok (.getfield 138, 3) := by decide +kernel
theorem dX9_move_12 : decode cX9_move 12 = .ok (.if_icmp .ge 12, 3) := by decide +kernel
theorem dX9_move_15 : decode cX9_move 15 = .ok (.iload_n 2, 1) := by decide +kernel
theorem dX9_move_16 : decode cX9_move 16 = .ok (.ifCond .lt 8, 3) := by decide +kernel
theorem dX9_move_19 : decode cX9_move 19 = .ok (.iload_n 2, 1) := by decide +kernel
theorem dX9_move_20 : decode cX9_move 20 = .ok (.iconst 5, 1) := by decide +kernel
theorem dX9_move_21 : decode cX9_move 21 = .ok (.if_icmp .lt 5, 3) := by decide +kernel
theorem dX9_move_24 : decode cX9_move 24 = .ok (.iconst (-1), 1) := by decide +kernel
theorem dX9_move_25 : decode cX9_move 25 = .ok (.ireturn, 1) := by decide +kernel
theorem dX9_move_26 : decode cX9_move 26 = .ok (.aload_n 0, 1) := by decide +kernel
theorem dX9_move_27 : decode cX9_move 27 = .ok (.getfield 24, 3) := by decide +kernel
theorem dX9_move_30 : decode cX9_move 30 = .ok (.getfield 282, 3) := by decide +kernel
theorem dX9_move_33 : decode cX9_move 33 = .ok (.iload_n 1, 1) := by decide +kernel
theorem dX9_move_34 : decode cX9_move 34 = .ok (.iconst 5, 1) := by decide +kernel
theorem dX9_move_35 : decode cX9_move 35 = .ok (.imul, 1) := by decide +kernel
theorem dX9_move_36 : decode cX9_move 36 = .ok (.iload_n 2, 1) := by decide +kernel
theorem dX9_move_37 : decode cX9_move 37 = .ok (.iadd, 1) := by decide +kernel
theorem dX9_move_38 : decode cX9_move 38 = .ok (.iaload, 1) := by decide +kernel
theorem dX9_move_39 : decode cX9_move 39 = .ok (.ireturn, 1) := by decide +kernel
theorem dX9_at_0 : decode cX9_at 0 = .ok (.iload_n 1, 1) := by decide +kernel
theorem dX9_at_1 : decode cX9_at 1 = .ok (.ifCond .lt 26, 3) := by decide +kernel
theorem dX9_at_4 : decode cX9_at 4 = .ok (.iload_n 1, 1) := by decide +kernel
theorem dX9_at_5 : decode cX9_at 5 = .ok (.aload_n 0, 1) := by decide +kernel
theorem dX9_at_6 : decode cX9_at 6 = .ok (.getfield 24, 3) := by decide +kernel
theorem dX9_at_9 : decode cX9_at 9 = .ok (.getfield 138, 3) := by decide +kernel
theorem dX9_at_12 : decode cX9_at 12 = .ok (.if_icmp .gt 15, 3) := by decide +kernel
theorem dX9_at_15 : decode cX9_at 15 = .ok (.aload_n 0, 1) := by decide +kernel
theorem dX9_at_16 : decode cX9_at 16 = .ok (.getfield 24, 3) := by decide +kernel
theorem dX9_at_19 : decode cX9_at 19 = .ok (.iload_n 2, 1) := by decide +kernel
theorem dX9_at_20 : decode cX9_at 20 = .ok (.iload_n 3, 1) := by decide +kernel
theorem dX9_at_21 : decode cX9_at 21 = .ok (.invokevirtual 159, 3) := by decide +kernel
theorem dX9_at_24 : decode cX9_at 24 = .ok (.ifCond .ne 7, 3) := by decide +kernel
theorem dX9_at_27 : decode cX9_at 27 = .ok (.sipush (-1000), 3) := by decide +kernel
theorem dX9_at_30 : decode cX9_at 30 = .ok (.ireturn, 1) := by decide +kernel
theorem dX9_at_31 : decode cX9_at 31 = .ok (.aload_n 0, 1) := by decide +kernel
theorem dX9_at_32 : decode cX9_at 32 = .ok (.getfield 52, 3) := by decide +kernel
theorem dX9_at_35 : decode cX9_at 35 = .ok (.aload_n 0, 1) := by decide +kernel
theorem dX9_at_36 : decode cX9_at 36 = .ok (.getfield 24, 3) := by decide +kernel
theorem dX9_at_39 : decode cX9_at 39 = .ok (.invokevirtual 285, 3) := by decide +kernel
theorem dX9_at_42 : decode cX9_at 42 = .ok (.aload_n 0, 1) := by decide +kernel
theorem dX9_at_43 : decode cX9_at 43 = .ok (.getfield 52, 3) := by decide +kernel
theorem dX9_at_46 : decode cX9_at 46 = .ok (.getfield 288, 3) := by decide +kernel
theorem dX9_at_49 : decode cX9_at 49 = .ok (.iload_n 1, 1) := by decide +kernel
theorem dX9_at_50 : decode cX9_at 50 = .ok (.bipush 24, 2) := by decide +kernel
theorem dX9_at_52 : decode cX9_at 52 = .ok (.imul, 1) := by decide +kernel
theorem dX9_at_53 : decode cX9_at 53 = .ok (.iload_n 2, 1) := by decide +kernel
theorem dX9_at_54 : decode cX9_at 54 = .ok (.bipush 6, 2) := by decide +kernel
theorem dX9_at_56 : decode cX9_at 56 = .ok (.imul, 1) := by decide +kernel
theorem dX9_at_57 : decode cX9_at 57 = .ok (.iadd, 1) := by decide +kernel
theorem dX9_at_58 : decode cX9_at 58 = .ok (.iload_n 3, 1) := by decide +kernel
theorem dX9_at_59 : decode cX9_at 59 = .ok (.iadd, 1) := by decide +kernel
theorem dX9_at_60 : decode cX9_at 60 = .ok (.iaload, 1) := by decide +kernel
theorem dX9_at_61 : decode cX9_at 61 = .ok (.ireturn, 1) := by decide +kernel
theorem dX9_sumAt_0 : decode cX9_sumAt 0 = .ok (.iload_n 1, 1) := by decide +kernel
theorem dX9_sumAt_1 : decode cX9_sumAt 1 = .ok (.ifCond .lt 14, 3) := by decide +kernel
theorem dX9_sumAt_4 : decode cX9_sumAt 4 = .ok (.iload_n 1, 1) := by decide +kernel
theorem dX9_sumAt_5 : decode cX9_sumAt 5 = .ok (.aload_n 0, 1) := by decide +kernel
theorem dX9_sumAt_6 : decode cX9_sumAt 6 = .ok (.getfield 24, 3) := by decide +kernel
theorem dX9_sumAt_9 : decode cX9_sumAt 9 = .ok (.getfield 138, 3) := by decide +kernel
theorem dX9_sumAt_12 : decode cX9_sumAt 12 = .ok (.if_icmp .le 7, 3) := by decide +kernel
theorem dX9_sumAt_15 : decode cX9_sumAt 15 = .ok (.ldc_w 293, 3) := by decide +kernel
theorem dX9_sumAt_18 : decode cX9_sumAt 18 = .ok (.ireturn, 1) := by decide +kernel
theorem dX9_sumAt_19 : decode cX9_sumAt 19 = .ok (.aload_n 0, 1) := by decide +kernel
theorem dX9_sumAt_20 : decode cX9_sumAt 20 = .ok (.getfield 52, 3) := by decide +kernel
theorem dX9_sumAt_23 : decode cX9_sumAt 23 = .ok (.aload_n 0, 1) := by decide +kernel
theorem dX9_sumAt_24 : decode cX9_sumAt 24 = .ok (.getfield 24, 3) := by decide +kernel
theorem dX9_sumAt_27 : decode cX9_sumAt 27 = .ok (.iload_n 1, 1) := by decide +kernel
theorem dX9_sumAt_28 : decode cX9_sumAt 28 = .ok (.invokevirtual 294, 3) := by decide +kernel
theorem dX9_sumAt_31 : decode cX9_sumAt 31 = .ok (.ireturn, 1) := by decide +kernel
theorem dX9_differs_0 : decode cX9_differs 0 = .ok (.aload_n 0, 1) := by decide +kernel
theorem dX9_differs_1 : decode cX9_differs 1 = .ok (.getfield 52, 3) := by decide +kernel
theorem dX9_differs_4 : decode cX9_differs 4 = .ok (.aload_n 0, 1) := by decide +kernel
theorem dX9_differs_5 : decode cX9_differs 5 = .ok (.getfield 24, 3) := by decide +kernel
theorem dX9_differs_8 : decode cX9_differs 8 = .ok (.invokevirtual 214, 3) := by decide +kernel
theorem dX9_differs_11 : decode cX9_differs 11 = .ok (.ireturn, 1) := by decide +kernel
theorem dX9_seen_0 : decode cX9_seen 0 = .ok (.iload_n 1, 1) := by decide +kernel
theorem dX9_seen_1 : decode cX9_seen 1 = .ok (.ifCond .lt 23, 3) := by decide +kernel
theorem dX9_seen_4 : decode cX9_seen 4 = .ok (.iload_n 1, 1) := by decide +kernel
theorem dX9_seen_5 : decode cX9_seen 5 = .ok (.aload_n 0, 1) := by decide +kernel
theorem dX9_seen_6 : decode cX9_seen 6 = .ok (.getfield 24, 3) := by decide +kernel
theorem dX9_seen_9 : decode cX9_seen 9 = .ok (.getfield 211, 3) := by decide +kernel
theorem dX9_seen_12 : decode cX9_seen 12 = .ok (.if_icmp .ge 12, 3) := by decide +kernel
theorem dX9_seen_15 : decode cX9_seen 15 = .ok (.iload_n 2, 1) := by decide +kernel
theorem dX9_seen_16 : decode cX9_seen 16 = .ok (.ifCond .lt 8, 3) := by decide +kernel
theorem dX9_seen_19 : decode cX9_seen 19 = .ok (.iload_n 2, 1) := by decide +kernel
theorem dX9_seen_20 : decode cX9_seen 20 = .ok (.iconst 4, 1) := by decide +kernel
theorem dX9_seen_21 : decode cX9_seen 21 = .ok (.if_icmp .le 5, 3) := by decide +kernel
theorem dX9_seen_24 : decode cX9_seen 24 = .ok (.iconst (-1), 1) := by decide +kernel
theorem dX9_seen_25 : decode cX9_seen 25 = .ok (.ireturn, 1) := by decide +kernel
theorem dX9_seen_26 : decode cX9_seen 26 = .ok (.iload_n 2, 1) := by decide +kernel
theorem dX9_seen_27 : decode cX9_seen 27 = .ok (.iconst 4, 1) := by decide +kernel
theorem dX9_seen_28 : decode cX9_seen 28 = .ok (.if_icmp .ge 17, 3) := by decide +kernel
theorem dX9_seen_31 : decode cX9_seen 31 = .ok (.aload_n 0, 1) := by decide +kernel
theorem dX9_seen_32 : decode cX9_seen 32 = .ok (.getfield 24, 3) := by decide +kernel
theorem dX9_seen_35 : decode cX9_seen 35 = .ok (.getfield 297, 3) := by decide +kernel
theorem dX9_seen_38 : decode cX9_seen 38 = .ok (.iload_n 1, 1) := by decide +kernel
theorem dX9_seen_39 : decode cX9_seen 39 = .ok (.iconst 4, 1) := by decide +kernel
theorem dX9_seen_40 : decode cX9_seen 40 = .ok (.imul, 1) := by decide +kernel
theorem dX9_seen_41 : decode cX9_seen 41 = .ok (.iload_n 2, 1) := by decide +kernel
theorem dX9_seen_42 : decode cX9_seen 42 = .ok (.iadd, 1) := by decide +kernel
theorem dX9_seen_43 : decode cX9_seen 43 = .ok (.iaload, 1) := by decide +kernel
theorem dX9_seen_44 : decode cX9_seen 44 = .ok (.ireturn, 1) := by decide +kernel
theorem dX9_seen_45 : decode cX9_seen 45 = .ok (.aload_n 0, 1) := by decide +kernel
theorem dX9_seen_46 : decode cX9_seen 46 = .ok (.getfield 52, 3) := by decide +kernel
theorem dX9_seen_49 : decode cX9_seen 49 = .ok (.aload_n 0, 1) := by decide +kernel
theorem dX9_seen_50 : decode cX9_seen 50 = .ok (.getfield 24, 3) := by decide +kernel
theorem dX9_seen_53 : decode cX9_seen 53 = .ok (.invokevirtual 285, 3) := by decide +kernel
theorem dX9_seen_56 : decode cX9_seen 56 = .ok (.aload_n 0, 1) := by decide +kernel
theorem dX9_seen_57 : decode cX9_seen 57 = .ok (.getfield 52, 3) := by decide +kernel
theorem dX9_seen_60 : decode cX9_seen 60 = .ok (.getfield 228, 3) := by decide +kernel
theorem dX9_seen_63 : decode cX9_seen 63 = .ok (.iload_n 1, 1) := by decide +kernel
theorem dX9_seen_64 : decode cX9_seen 64 = .ok (.iaload, 1) := by decide +kernel
theorem dX9_seen_65 : decode cX9_seen 65 = .ok (.ifCond .ne 7, 3) := by decide +kernel
theorem dX9_seen_68 : decode cX9_seen 68 = .ok (.iconst 1, 1) := by decide +kernel
theorem dX9_seen_69 : decode cX9_seen 69 = .ok (.goto 4, 3) := by decide +kernel
theorem dX9_seen_72 : decode cX9_seen 72 = .ok (.iconst 0, 1) := by decide +kernel
theorem dX9_seen_73 : decode cX9_seen 73 = .ok (.ireturn, 1) := by decide +kernel
theorem dX9_wrong_0 : decode cX9_wrong 0 = .ok (.aload_n 0, 1) := by decide +kernel
theorem dX9_wrong_1 : decode cX9_wrong 1 = .ok (.getfield 52, 3) := by decide +kernel
theorem dX9_wrong_4 : decode cX9_wrong 4 = .ok (.aload_n 0, 1) := by decide +kernel
theorem dX9_wrong_5 : decode cX9_wrong 5 = .ok (.getfield 24, 3) := by decide +kernel
theorem dX9_wrong_8 : decode cX9_wrong 8 = .ok (.invokevirtual 225, 3) := by decide +kernel
theorem dX9_wrong_11 : decode cX9_wrong 11 = .ok (.ireturn, 1) := by decide +kernel
theorem dX9_slides_0 : decode cX9_slides 0 = .ok (.aload_n 0, 1) := by decide +kernel
theorem dX9_slides_1 : decode cX9_slides 1 = .ok (.getfield 52, 3) := by decide +kernel
theorem dX9_slides_4 : decode cX9_slides 4 = .ok (.aload_n 0, 1) := by decide +kernel
theorem dX9_slides_5 : decode cX9_slides 5 = .ok (.getfield 24, 3) := by decide +kernel
theorem dX9_slides_8 : decode cX9_slides 8 = .ok (.invokevirtual 300, 3) := by decide +kernel
theorem dX9_slides_11 : decode cX9_slides 11 = .ok (.aload_n 0, 1) := by decide +kernel
theorem dX9_slides_12 : decode cX9_slides 12 = .ok (.getfield 52, 3) := by decide +kernel
theorem dX9_slides_15 : decode cX9_slides 15 = .ok (.getfield 303, 3) := by decide +kernel
theorem dX9_slides_18 : decode cX9_slides 18 = .ok (.ireturn, 1) := by decide +kernel
theorem dX9_slideAt_0 : decode cX9_slideAt 0 = .ok (.aload_n 0, 1) := by decide +kernel
theorem dX9_slideAt_1 : decode cX9_slideAt 1 = .ok (.getfield 52, 3) := by decide +kernel
theorem dX9_slideAt_4 : decode cX9_slideAt 4 = .ok (.aload_n 0, 1) := by decide +kernel
theorem dX9_slideAt_5 : decode cX9_slideAt 5 = .ok (.getfield 24, 3) := by decide +kernel
theorem dX9_slideAt_8 : decode cX9_slideAt 8 = .ok (.invokevirtual 300, 3) := by decide +kernel
theorem dX9_slideAt_11 : decode cX9_slideAt 11 = .ok (.iload_n 1, 1) := by decide +kernel
theorem dX9_slideAt_12 : decode cX9_slideAt 12 = .ok (.ifCond .lt 23, 3) := by decide +kernel
theorem dX9_slideAt_15 : decode cX9_slideAt 15 = .ok (.iload_n 1, 1) := by decide +kernel
theorem dX9_slideAt_16 : decode cX9_slideAt 16 = .ok (.aload_n 0, 1) := by decide +kernel
theorem dX9_slideAt_17 : decode cX9_slideAt 17 = .ok (.getfield 52, 3) := by decide +kernel
theorem dX9_slideAt_20 : decode cX9_slideAt 20 = .ok (.getfield 303, 3) := by decide +kernel
theorem dX9_slideAt_23 : decode cX9_slideAt 23 = .ok (.if_icmp .ge 12, 3) := by decide +kernel
theorem dX9_slideAt_26 : decode cX9_slideAt 26 = .ok (.iload_n 2, 1) := by decide +kernel
theorem dX9_slideAt_27 : decode cX9_slideAt 27 = .ok (.ifCond .lt 8, 3) := by decide +kernel
theorem dX9_slideAt_30 : decode cX9_slideAt 30 = .ok (.iload_n 2, 1) := by decide +kernel
theorem dX9_slideAt_31 : decode cX9_slideAt 31 = .ok (.iconst 4, 1) := by decide +kernel
theorem dX9_slideAt_32 : decode cX9_slideAt 32 = .ok (.if_icmp .le 6, 3) := by decide +kernel
theorem dX9_slideAt_35 : decode cX9_slideAt 35 = .ok (.bipush (-2), 2) := by decide +kernel
theorem dX9_slideAt_37 : decode cX9_slideAt 37 = .ok (.ireturn, 1) := by decide +kernel
theorem dX9_slideAt_38 : decode cX9_slideAt 38 = .ok (.aload_n 0, 1) := by decide +kernel
theorem dX9_slideAt_39 : decode cX9_slideAt 39 = .ok (.getfield 52, 3) := by decide +kernel
theorem dX9_slideAt_42 : decode cX9_slideAt 42 = .ok (.aload_n 0, 1) := by decide +kernel
theorem dX9_slideAt_43 : decode cX9_slideAt 43 = .ok (.getfield 24, 3) := by decide +kernel
theorem dX9_slideAt_46 : decode cX9_slideAt 46 = .ok (.iload_n 1, 1) := by decide +kernel
theorem dX9_slideAt_47 : decode cX9_slideAt 47 = .ok (.iload_n 2, 1) := by decide +kernel
theorem dX9_slideAt_48 : decode cX9_slideAt 48 = .ok (.invokevirtual 306, 3) := by decide +kernel
theorem dX9_slideAt_51 : decode cX9_slideAt 51 = .ok (.ireturn, 1) := by decide +kernel
theorem dX9_leftOut_0 : decode cX9_leftOut 0 = .ok (.aload_n 0, 1) := by decide +kernel
theorem dX9_leftOut_1 : decode cX9_leftOut 1 = .ok (.getfield 52, 3) := by decide +kernel
theorem dX9_leftOut_4 : decode cX9_leftOut 4 = .ok (.aload_n 0, 1) := by decide +kernel
theorem dX9_leftOut_5 : decode cX9_leftOut 5 = .ok (.getfield 24, 3) := by decide +kernel
theorem dX9_leftOut_8 : decode cX9_leftOut 8 = .ok (.invokevirtual 308, 3) := by decide +kernel
theorem dX9_leftOut_11 : decode cX9_leftOut 11 = .ok (.ireturn, 1) := by decide +kernel
theorem dX9_leftOutAt_0 : decode cX9_leftOutAt 0 = .ok (.iload_n 1, 1) := by decide +kernel
theorem dX9_leftOutAt_1 : decode cX9_leftOutAt 1 = .ok (.ifCond .ge 7, 3) := by decide +kernel
theorem dX9_leftOutAt_4 : decode cX9_leftOutAt 4 = .ok (.iconst (-1), 1) := by decide +kernel
theorem dX9_leftOutAt_5 : decode cX9_leftOutAt 5 = .ok (.goto 15, 3) := by decide +kernel
theorem dX9_leftOutAt_8 : decode cX9_leftOutAt 8 = .ok (.aload_n 0, 1) := by decide +kernel
theorem dX9_leftOutAt_9 : decode cX9_leftOutAt 9 = .ok (.getfield 52, 3) := by decide +kernel
theorem dX9_leftOutAt_12 : decode cX9_leftOutAt 12 = .ok (.aload_n 0, 1) := by decide +kernel
theorem dX9_leftOutAt_13 : decode cX9_leftOutAt 13 = .ok (.getfield 24, 3) := by decide +kernel
theorem dX9_leftOutAt_16 : decode cX9_leftOutAt 16 = .ok (.iload_n 1, 1) := by decide +kernel
theorem dX9_leftOutAt_17 : decode cX9_leftOutAt 17 = .ok (.invokevirtual 311, 3) := by decide +kernel
theorem dX9_leftOutAt_20 : decode cX9_leftOutAt 20 = .ok (.ireturn, 1) := by decide +kernel
theorem dX9_times_0 : decode cX9_times 0 = .ok (.aload_n 0, 1) := by decide +kernel
theorem dX9_times_1 : decode cX9_times 1 = .ok (.getfield 52, 3) := by decide +kernel
theorem dX9_times_4 : decode cX9_times 4 = .ok (.aload_n 0, 1) := by decide +kernel
theorem dX9_times_5 : decode cX9_times 5 = .ok (.getfield 24, 3) := by decide +kernel
theorem dX9_times_8 : decode cX9_times 8 = .ok (.invokevirtual 300, 3) := by decide +kernel
theorem dX9_times_11 : decode cX9_times 11 = .ok (.aload_n 0, 1) := by decide +kernel
theorem dX9_times_12 : decode cX9_times 12 = .ok (.getfield 52, 3) := by decide +kernel
theorem dX9_times_15 : decode cX9_times 15 = .ok (.invokevirtual 314, 3) := by decide +kernel
theorem dX9_times_18 : decode cX9_times 18 = .ok (.ireturn, 1) := by decide +kernel
theorem dX9_look_0 : decode cX9_look 0 = .ok (.aload_n 0, 1) := by decide +kernel
theorem dX9_look_1 : decode cX9_look 1 = .ok (.getfield 52, 3) := by decide +kernel
theorem dX9_look_4 : decode cX9_look 4 = .ok (.aload_n 0, 1) := by decide +kernel
theorem dX9_look_5 : decode cX9_look 5 = .ok (.getfield 24, 3) := by decide +kernel
theorem dX9_look_8 : decode cX9_look 8 = .ok (.invokevirtual 300, 3) := by decide +kernel
theorem dX9_look_11 : decode cX9_look 11 = .ok (.aload_n 0, 1) := by decide +kernel
theorem dX9_look_12 : decode cX9_look 12 = .ok (.getfield 52, 3) := by decide +kernel
theorem dX9_look_15 : decode cX9_look 15 = .ok (.getfield 303, 3) := by decide +kernel
theorem dX9_look_18 : decode cX9_look 18 = .ok (.ifCond .eq 12, 3) := by decide +kernel
theorem dX9_look_21 : decode cX9_look 21 = .ok (.iload_n 1, 1) := by decide +kernel
theorem dX9_look_22 : decode cX9_look 22 = .ok (.ifCond .lt 8, 3) := by decide +kernel
theorem dX9_look_25 : decode cX9_look 25 = .ok (.iload_n 1, 1) := by decide +kernel
theorem dX9_look_26 : decode cX9_look 26 = .ok (.iconst 3, 1) := by decide +kernel
theorem dX9_look_27 : decode cX9_look 27 = .ok (.if_icmp .le 5, 3) := by decide +kernel
theorem dX9_look_30 : decode cX9_look 30 = .ok (.iconst (-1), 1) := by decide +kernel
theorem dX9_look_31 : decode cX9_look 31 = .ok (.ireturn, 1) := by decide +kernel
theorem dX9_look_32 : decode cX9_look 32 = .ok (.aload_n 0, 1) := by decide +kernel
theorem dX9_look_33 : decode cX9_look 33 = .ok (.getfield 52, 3) := by decide +kernel
theorem dX9_look_36 : decode cX9_look 36 = .ok (.aload_n 0, 1) := by decide +kernel
theorem dX9_look_37 : decode cX9_look 37 = .ok (.getfield 24, 3) := by decide +kernel
theorem dX9_look_40 : decode cX9_look 40 = .ok (.invokevirtual 317, 3) := by decide +kernel
theorem dX9_look_43 : decode cX9_look 43 = .ok (.aload_n 0, 1) := by decide +kernel
theorem dX9_look_44 : decode cX9_look 44 = .ok (.getfield 52, 3) := by decide +kernel
theorem dX9_look_47 : decode cX9_look 47 = .ok (.getfield 320, 3) := by decide +kernel
theorem dX9_look_50 : decode cX9_look 50 = .ok (.iload_n 1, 1) := by decide +kernel
theorem dX9_look_51 : decode cX9_look 51 = .ok (.iaload, 1) := by decide +kernel
theorem dX9_look_52 : decode cX9_look 52 = .ok (.ireturn, 1) := by decide +kernel
theorem dX9_spell_0 : decode cX9_spell 0 = .ok (.iload_n 1, 1) := by decide +kernel
theorem dX9_spell_1 : decode cX9_spell 1 = .ok (.iconst (-1), 1) := by decide +kernel
theorem dX9_spell_2 : decode cX9_spell 2 = .ok (.if_icmp .ge 5, 3) := by decide +kernel
theorem dX9_spell_5 : decode cX9_spell 5 = .ok (.iconst (-1), 1) := by decide +kernel
theorem dX9_spell_6 : decode cX9_spell 6 = .ok (.ireturn, 1) := by decide +kernel
theorem dX9_spell_7 : decode cX9_spell 7 = .ok (.aload_n 0, 1) := by decide +kernel
theorem dX9_spell_8 : decode cX9_spell 8 = .ok (.getfield 59, 3) := by decide +kernel
theorem dX9_spell_11 : decode cX9_spell 11 = .ok (.aload_n 0, 1) := by decide +kernel
theorem dX9_spell_12 : decode cX9_spell 12 = .ok (.getfield 24, 3) := by decide +kernel
theorem dX9_spell_15 : decode cX9_spell 15 = .ok (.invokevirtual 323, 3) := by decide +kernel
theorem dX9_spell_18 : decode cX9_spell 18 = .ok (.aload_n 0, 1) := by decide +kernel
theorem dX9_spell_19 : decode cX9_spell 19 = .ok (.getfield 59, 3) := by decide +kernel
theorem dX9_spell_22 : decode cX9_spell 22 = .ok (.iload_n 1, 1) := by decide +kernel
theorem dX9_spell_23 : decode cX9_spell 23 = .ok (.invokevirtual 326, 3) := by decide +kernel
theorem dX9_spell_26 : decode cX9_spell 26 = .ok (.ireturn, 1) := by decide +kernel
theorem dX9_report_0 : decode cX9_report 0 = .ok (.aload_n 0, 1) := by decide +kernel
theorem dX9_report_1 : decode cX9_report 1 = .ok (.getfield 24, 3) := by decide +kernel
theorem dX9_report_4 : decode cX9_report 4 = .ok (.iload_n 1, 1) := by decide +kernel
theorem dX9_report_5 : decode cX9_report 5 = .ok (.invokevirtual 120, 3) := by decide +kernel
theorem dX9_report_8 : decode cX9_report 8 = .ok (.ifCond .eq 8, 3) := by decide +kernel
theorem dX9_report_11 : decode cX9_report 11 = .ok (.iload_n 2, 1) := by decide +kernel
theorem dX9_report_12 : decode cX9_report 12 = .ok (.iconst (-1), 1) := by decide +kernel
theorem dX9_report_13 : decode cX9_report 13 = .ok (.if_icmp .ge 5, 3) := by decide +kernel
theorem dX9_report_16 : decode cX9_report 16 = .ok (.iconst (-1), 1) := by decide +kernel
theorem dX9_report_17 : decode cX9_report 17 = .ok (.ireturn, 1) := by decide +kernel
theorem dX9_report_18 : decode cX9_report 18 = .ok (.aload_n 0, 1) := by decide +kernel
theorem dX9_report_19 : decode cX9_report 19 = .ok (.getfield 59, 3) := by decide +kernel
theorem dX9_report_22 : decode cX9_report 22 = .ok (.aload_n 0, 1) := by decide +kernel
theorem dX9_report_23 : decode cX9_report 23 = .ok (.getfield 24, 3) := by decide +kernel
theorem dX9_report_26 : decode cX9_report 26 = .ok (.iload_n 1, 1) := by decide +kernel
theorem dX9_report_27 : decode cX9_report 27 = .ok (.invokevirtual 329, 3) := by decide +kernel
theorem dX9_report_30 : decode cX9_report 30 = .ok (.aload_n 0, 1) := by decide +kernel
theorem dX9_report_31 : decode cX9_report 31 = .ok (.getfield 59, 3) := by decide +kernel
theorem dX9_report_34 : decode cX9_report 34 = .ok (.iload_n 2, 1) := by decide +kernel
theorem dX9_report_35 : decode cX9_report 35 = .ok (.invokevirtual 326, 3) := by decide +kernel
theorem dX9_report_38 : decode cX9_report 38 = .ok (.ireturn, 1) := by decide +kernel
theorem dX9_count_0 : decode cX9_count 0 = .ok (.iload_n 1, 1) := by decide +kernel
theorem dX9_count_1 : decode cX9_count 1 = .ok (.tableswitch 115 0 7 #[47, 55, 63, 71, 79, 87, 95, 107], 47) := by decide +kernel
theorem dX9_count_48 : decode cX9_count 48 = .ok (.aload_n 0, 1) := by decide +kernel
theorem dX9_count_49 : decode cX9_count 49 = .ok (.getfield 24, 3) := by decide +kernel
theorem dX9_count_52 : decode cX9_count 52 = .ok (.getfield 113, 3) := by decide +kernel
theorem dX9_count_55 : decode cX9_count 55 = .ok (.ireturn, 1) := by decide +kernel
theorem dX9_count_56 : decode cX9_count 56 = .ok (.aload_n 0, 1) := by decide +kernel
theorem dX9_count_57 : decode cX9_count 57 = .ok (.getfield 24, 3) := by decide +kernel
theorem dX9_count_60 : decode cX9_count 60 = .ok (.getfield 97, 3) := by decide +kernel
theorem dX9_count_63 : decode cX9_count 63 = .ok (.ireturn, 1) := by decide +kernel
theorem dX9_count_64 : decode cX9_count 64 = .ok (.aload_n 0, 1) := by decide +kernel
theorem dX9_count_65 : decode cX9_count 65 = .ok (.getfield 24, 3) := by decide +kernel
theorem dX9_count_68 : decode cX9_count 68 = .ok (.getfield 138, 3) := by decide +kernel
theorem dX9_count_71 : decode cX9_count 71 = .ok (.ireturn, 1) := by decide +kernel
theorem dX9_count_72 : decode cX9_count 72 = .ok (.aload_n 0, 1) := by decide +kernel
