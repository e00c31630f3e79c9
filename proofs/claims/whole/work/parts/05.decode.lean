theorem dX0_init_0 : decode cX0_init 0 = .ok (.aload_n 0, 1) := by decide +kernel
theorem dX0_init_1 : decode cX0_init 1 = .ok (.invokespecial 1, 3) := by decide +kernel
theorem dX0_init_4 : decode cX0_init 4 = .ok (.aload_n 0, 1) := by decide +kernel
theorem dX0_init_5 : decode cX0_init 5 = .ok (.iconst 0, 1) := by decide +kernel
theorem dX0_init_6 : decode cX0_init 6 = .ok (.putfield 7, 3) := by decide +kernel
theorem dX0_init_9 : decode cX0_init 9 = .ok (.aload_n 0, 1) := by decide +kernel
theorem dX0_init_10 : decode cX0_init 10 = .ok (.iconst 0, 1) := by decide +kernel
theorem dX0_init_11 : decode cX0_init 11 = .ok (.putfield 13, 3) := by decide +kernel
theorem dX0_init_14 : decode cX0_init 14 = .ok (.aload_n 0, 1) := by decide +kernel
theorem dX0_init_15 : decode cX0_init 15 = .ok (.iconst 0, 1) := by decide +kernel
theorem dX0_init_16 : decode cX0_init 16 = .ok (.putfield 16, 3) := by decide +kernel
theorem dX0_init_19 : decode cX0_init 19 = .ok (.aload_n 0, 1) := by decide +kernel
theorem dX0_init_20 : decode cX0_init 20 = .ok (.iconst 0, 1) := by decide +kernel
theorem dX0_init_21 : decode cX0_init 21 = .ok (.putfield 20, 3) := by decide +kernel
theorem dX0_init_24 : decode cX0_init 24 = .ok (.aload_n 0, 1) := by decide +kernel
theorem dX0_init_25 : decode cX0_init 25 = .ok (.iconst 0, 1) := by decide +kernel
theorem dX0_init_26 : decode cX0_init 26 = .ok (.putfield 23, 3) := by decide +kernel
theorem dX0_init_29 : decode cX0_init 29 = .ok (.aload_n 0, 1) := by decide +kernel
theorem dX0_init_30 : decode cX0_init 30 = .ok (.iconst 0, 1) := by decide +kernel
theorem dX0_init_31 : decode cX0_init 31 = .ok (.putfield 26, 3) := by decide +kernel
theorem dX0_init_34 : decode cX0_init 34 = .ok (.return_, 1) := by decide +kernel
theorem dX0_start_0 : decode cX0_start 0 = .ok (.aload_n 0, 1) := by decide +kernel
theorem dX0_start_1 : decode cX0_start 1 = .ok (.iload_n 1, 1) := by decide +kernel
theorem dX0_start_2 : decode cX0_start 2 = .ok (.putfield 23, 3) := by decide +kernel
theorem dX0_start_5 : decode cX0_start 5 = .ok (.aload_n 0, 1) := by decide +kernel
theorem dX0_start_6 : decode cX0_start 6 = .ok (.iconst 0, 1) := by decide +kernel
theorem dX0_start_7 : decode cX0_start 7 = .ok (.putfield 26, 3) := by decide +kernel
theorem dX0_start_10 : decode cX0_start 10 = .ok (.return_, 1) := by decide +kernel
theorem dX0_follow_0 : decode cX0_follow 0 = .ok (.aload_n 0, 1) := by decide +kernel
theorem dX0_follow_1 : decode cX0_follow 1 = .ok (.iload_n 1, 1) := by decide +kernel
theorem dX0_follow_2 : decode cX0_follow 2 = .ok (.iload_n 2, 1) := by decide +kernel
theorem dX0_follow_3 : decode cX0_follow 3 = .ok (.invokevirtual 29, 3) := by decide +kernel
theorem dX0_follow_6 : decode cX0_follow 6 = .ok (.istore 4, 2) := by decide +kernel
theorem dX0_follow_8 : decode cX0_follow 8 = .ok (.aload_n 0, 1) := by decide +kernel
theorem dX0_follow_9 : decode cX0_follow 9 = .ok (.dup, 1) := by decide +kernel
theorem dX0_follow_10 : decode cX0_follow 10 = .ok (.getfield 7, 3) := by decide +kernel
theorem dX0_follow_13 : decode cX0_follow 13 = .ok (.iload 4, 2) := by decide +kernel
theorem dX0_follow_15 : decode cX0_follow 15 = .ok (.aload_n 0, 1) := by decide +kernel
theorem dX0_follow_16 : decode cX0_follow 16 = .ok (.getfield 26, 3) := by decide +kernel
theorem dX0_follow_19 : decode cX0_follow 19 = .ok (.isub, 1) := by decide +kernel
theorem dX0_follow_20 : decode cX0_follow 20 = .ok (.iadd, 1) := by decide +kernel
theorem dX0_follow_21 : decode cX0_follow 21 = .ok (.putfield 7, 3) := by decide +kernel
theorem dX0_follow_24 : decode cX0_follow 24 = .ok (.iload_n 3, 1) := by decide +kernel
theorem dX0_follow_25 : decode cX0_follow 25 = .ok (.ifCond .eq 19, 3) := by decide +kernel
theorem dX0_follow_28 : decode cX0_follow 28 = .ok (.aload_n 0, 1) := by decide +kernel
theorem dX0_follow_29 : decode cX0_follow 29 = .ok (.dup, 1) := by decide +kernel
theorem dX0_follow_30 : decode cX0_follow 30 = .ok (.getfield 13, 3) := by decide +kernel
theorem dX0_follow_33 : decode cX0_follow 33 = .ok (.iload 4, 2) := by decide +kernel
theorem dX0_follow_35 : decode cX0_follow 35 = .ok (.aload_n 0, 1) := by decide +kernel
theorem dX0_follow_36 : decode cX0_follow 36 = .ok (.getfield 26, 3) := by decide +kernel
theorem dX0_follow_39 : decode cX0_follow 39 = .ok (.isub, 1) := by decide +kernel
theorem dX0_follow_40 : decode cX0_follow 40 = .ok (.iadd, 1) := by decide +kernel
theorem dX0_follow_41 : decode cX0_follow 41 = .ok (.putfield 13, 3) := by decide +kernel
theorem dX0_follow_44 : decode cX0_follow 44 = .ok (.aload_n 0, 1) := by decide +kernel
theorem dX0_follow_45 : decode cX0_follow 45 = .ok (.iload 4, 2) := by decide +kernel
theorem dX0_follow_47 : decode cX0_follow 47 = .ok (.putfield 26, 3) := by decide +kernel
theorem dX0_follow_50 : decode cX0_follow 50 = .ok (.return_, 1) := by decide +kernel
theorem dX0_goneBehind_0 : decode cX0_goneBehind 0 = .ok (.iload_n 1, 1) := by decide +kernel
theorem dX0_goneBehind_1 : decode cX0_goneBehind 1 = .ok (.iconst 1, 1) := by decide +kernel
theorem dX0_goneBehind_2 : decode cX0_goneBehind 2 = .ok (.if_icmp .ge 5, 3) := by decide +kernel
theorem dX0_goneBehind_5 : decode cX0_goneBehind 5 = .ok (.iconst 0, 1) := by decide +kernel
theorem dX0_goneBehind_6 : decode cX0_goneBehind 6 = .ok (.ireturn, 1) := by decide +kernel
theorem dX0_goneBehind_7 : decode cX0_goneBehind 7 = .ok (.iconst 2, 1) := by decide +kernel
theorem dX0_goneBehind_8 : decode cX0_goneBehind 8 = .ok (.iload_n 2, 1) := by decide +kernel
theorem dX0_goneBehind_9 : decode cX0_goneBehind 9 = .ok (.imul, 1) := by decide +kernel
theorem dX0_goneBehind_10 : decode cX0_goneBehind 10 = .ok (.aload_n 0, 1) := by decide +kernel
theorem dX0_goneBehind_11 : decode cX0_goneBehind 11 = .ok (.getfield 23, 3) := by decide +kernel
theorem dX0_goneBehind_14 : decode cX0_goneBehind 14 = .ok (.invokestatic 33, 3) := by decide +kernel
theorem dX0_goneBehind_17 : decode cX0_goneBehind 17 = .ok (.imul, 1) := by decide +kernel
theorem dX0_goneBehind_18 : decode cX0_goneBehind 18 = .ok (.iload_n 1, 1) := by decide +kernel
theorem dX0_goneBehind_19 : decode cX0_goneBehind 19 = .ok (.iadd, 1) := by decide +kernel
theorem dX0_goneBehind_20 : decode cX0_goneBehind 20 = .ok (.iconst 2, 1) := by decide +kernel
theorem dX0_goneBehind_21 : decode cX0_goneBehind 21 = .ok (.iload_n 1, 1) := by decide +kernel
theorem dX0_goneBehind_22 : decode cX0_goneBehind 22 = .ok (.imul, 1) := by decide +kernel
theorem dX0_goneBehind_23 : decode cX0_goneBehind 23 = .ok (.idiv, 1) := by decide +kernel
theorem dX0_goneBehind_24 : decode cX0_goneBehind 24 = .ok (.istore_n 3, 1) := by decide +kernel
theorem dX0_goneBehind_25 : decode cX0_goneBehind 25 = .ok (.aload_n 0, 1) := by decide +kernel
theorem dX0_goneBehind_26 : decode cX0_goneBehind 26 = .ok (.getfield 23, 3) := by decide +kernel
theorem dX0_goneBehind_29 : decode cX0_goneBehind 29 = .ok (.ifCond .ge 8, 3) := by decide +kernel
theorem dX0_goneBehind_32 : decode cX0_goneBehind 32 = .ok (.iload_n 3, 1) := by decide +kernel
theorem dX0_goneBehind_33 : decode cX0_goneBehind 33 = .ok (.ineg, 1) := by decide +kernel
theorem dX0_goneBehind_34 : decode cX0_goneBehind 34 = .ok (.goto 4, 3) := by decide +kernel
theorem dX0_goneBehind_37 : decode cX0_goneBehind 37 = .ok (.iload_n 3, 1) := by decide +kernel
theorem dX0_goneBehind_38 : decode cX0_goneBehind 38 = .ok (.ireturn, 1) := by decide +kernel
theorem dX0_putSwitch_0 : decode cX0_putSwitch 0 = .ok (.aload_n 0, 1) := by decide +kernel
theorem dX0_putSwitch_1 : decode cX0_putSwitch 1 = .ok (.iload_n 1, 1) := by decide +kernel
theorem dX0_putSwitch_2 : decode cX0_putSwitch 2 = .ok (.putfield 20, 3) := by decide +kernel
theorem dX0_putSwitch_5 : decode cX0_putSwitch 5 = .ok (.aload_n 0, 1) := by decide +kernel
theorem dX0_putSwitch_6 : decode cX0_putSwitch 6 = .ok (.iconst 1, 1) := by decide +kernel
theorem dX0_putSwitch_7 : decode cX0_putSwitch 7 = .ok (.putfield 16, 3) := by decide +kernel
theorem dX0_putSwitch_10 : decode cX0_putSwitch 10 = .ok (.return_, 1) := by decide +kernel
theorem dX0_isOn_0 : decode cX0_isOn 0 = .ok (.aload_n 0, 1) := by decide +kernel
theorem dX0_isOn_1 : decode cX0_isOn 1 = .ok (.getfield 13, 3) := by decide +kernel
theorem dX0_isOn_4 : decode cX0_isOn 4 = .ok (.aload_n 0, 1) := by decide +kernel
theorem dX0_isOn_5 : decode cX0_isOn 5 = .ok (.getfield 20, 3) := by decide +kernel
theorem dX0_isOn_8 : decode cX0_isOn 8 = .ok (.if_icmp .lt 7, 3) := by decide +kernel
theorem dX0_isOn_11 : decode cX0_isOn 11 = .ok (.iconst 1, 1) := by decide +kernel
theorem dX0_isOn_12 : decode cX0_isOn 12 = .ok (.goto 4, 3) := by decide +kernel
theorem dX0_isOn_15 : decode cX0_isOn 15 = .ok (.iconst 0, 1) := by decide +kernel
theorem dX0_isOn_16 : decode cX0_isOn 16 = .ok (.ireturn, 1) := by decide +kernel
theorem dX0_findSwitch_0 : decode cX0_findSwitch 0 = .ok (.aload_n 0, 1) := by decide +kernel
theorem dX0_findSwitch_1 : decode cX0_findSwitch 1 = .ok (.invokevirtual 39, 3) := by decide +kernel
theorem dX0_findSwitch_4 : decode cX0_findSwitch 4 = .ok (.ifCond .eq 19, 3) := by decide +kernel
theorem dX0_findSwitch_7 : decode cX0_findSwitch 7 = .ok (.aload_n 0, 1) := by decide +kernel
theorem dX0_findSwitch_8 : decode cX0_findSwitch 8 = .ok (.getfield 13, 3) := by decide +kernel
theorem dX0_findSwitch_11 : decode cX0_findSwitch 11 = .ok (.aload_n 0, 1) := by decide +kernel
theorem dX0_findSwitch_12 : decode cX0_findSwitch 12 = .ok (.getfield 20, 3) := by decide +kernel
theorem dX0_findSwitch_15 : decode cX0_findSwitch 15 = .ok (.iconst 1, 1) := by decide +kernel
theorem dX0_findSwitch_16 : decode cX0_findSwitch 16 = .ok (.isub, 1) := by decide +kernel
theorem dX0_findSwitch_17 : decode cX0_findSwitch 17 = .ok (.isub, 1) := by decide +kernel
theorem dX0_findSwitch_18 : decode cX0_findSwitch 18 = .ok (.iconst 1, 1) := by decide +kernel
theorem dX0_findSwitch_19 : decode cX0_findSwitch 19 = .ok (.iadd, 1) := by decide +kernel
theorem dX0_findSwitch_20 : decode cX0_findSwitch 20 = .ok (.goto 12, 3) := by decide +kernel
theorem dX0_findSwitch_23 : decode cX0_findSwitch 23 = .ok (.aload_n 0, 1) := by decide +kernel
theorem dX0_findSwitch_24 : decode cX0_findSwitch 24 = .ok (.getfield 20, 3) := by decide +kernel
theorem dX0_findSwitch_27 : decode cX0_findSwitch 27 = .ok (.aload_n 0, 1) := by decide +kernel
theorem dX0_findSwitch_28 : decode cX0_findSwitch 28 = .ok (.getfield 13, 3) := by decide +kernel
theorem dX0_findSwitch_31 : decode cX0_findSwitch 31 = .ok (.isub, 1) := by decide +kernel
theorem dX0_findSwitch_32 : decode cX0_findSwitch 32 = .ok (.istore_n 1, 1) := by decide +kernel
theorem dX0_findSwitch_33 : decode cX0_findSwitch 33 = .ok (.aload_n 0, 1) := by decide +kernel
theorem dX0_findSwitch_34 : decode cX0_findSwitch 34 = .ok (.aload_n 0, 1) := by decide +kernel
theorem dX0_findSwitch_35 : decode cX0_findSwitch 35 = .ok (.getfield 20, 3) := by decide +kernel
theorem dX0_findSwitch_38 : decode cX0_findSwitch 38 = .ok (.putfield 13, 3) := by decide +kernel
theorem dX0_findSwitch_41 : decode cX0_findSwitch 41 = .ok (.aload_n 0, 1) := by decide +kernel
theorem dX0_findSwitch_42 : decode cX0_findSwitch 42 = .ok (.iconst 0, 1) := by decide +kernel
theorem dX0_findSwitch_43 : decode cX0_findSwitch 43 = .ok (.putfield 7, 3) := by decide +kernel
theorem dX0_findSwitch_46 : decode cX0_findSwitch 46 = .ok (.iload_n 1, 1) := by decide +kernel
theorem dX0_findSwitch_47 : decode cX0_findSwitch 47 = .ok (.ireturn, 1) := by decide +kernel
theorem dX1_init_0 : decode cX1_init 0 = .ok (.aload_n 0, 1) := by decide +kernel
theorem dX1_init_1 : decode cX1_init 1 = .ok (.invokespecial 3, 3) := by decide +kernel
theorem dX1_init_4 : decode cX1_init 4 = .ok (.aload_n 0, 1) := by decide +kernel
theorem dX1_init_5 : decode cX1_init 5 = .ok (.iconst 4, 1) := by decide +kernel
theorem dX1_init_6 : decode cX1_init 6 = .ok (.putfield 9, 3) := by decide +kernel
theorem dX1_init_9 : decode cX1_init 9 = .ok (.aload_n 0, 1) := by decide +kernel
theorem dX1_init_10 : decode cX1_init 10 = .ok (.bipush 10, 2) := by decide +kernel
theorem dX1_init_12 : decode cX1_init 12 = .ok (.putfield 15, 3) := by decide +kernel
theorem dX1_init_15 : decode cX1_init 15 = .ok (.aload_n 0, 1) := by decide +kernel
theorem dX1_init_16 : decode cX1_init 16 = .ok (.bipush 9, 2) := by decide +kernel
theorem dX1_init_18 : decode cX1_init 18 = .ok (.newarray .int, 2) := by decide +kernel
theorem dX1_init_20 : decode cX1_init 20 = .ok (.putfield 18, 3) := by decide +kernel
theorem dX1_init_23 : decode cX1_init 23 = .ok (.aload_n 0, 1) := by decide +kernel
theorem dX1_init_24 : decode cX1_init 24 = .ok (.iconst 4, 1) := by decide +kernel
theorem dX1_init_25 : decode cX1_init 25 = .ok (.bipush 10, 2) := by decide +kernel
theorem dX1_init_27 : decode cX1_init 27 = .ok (.invokevirtual 22, 3) := by decide +kernel
theorem dX1_init_30 : decode cX1_init 30 = .ok (.return_, 1) := by decide +kernel
theorem dX1_lay_0 : decode cX1_lay 0 = .ok (.aload_n 0, 1) := by decide +kernel
theorem dX1_lay_1 : decode cX1_lay 1 = .ok (.iload_n 1, 1) := by decide +kernel
theorem dX1_lay_2 : decode cX1_lay 2 = .ok (.putfield 9, 3) := by decide +kernel
theorem dX1_lay_5 : decode cX1_lay 5 = .ok (.aload_n 0, 1) := by decide +kernel
theorem dX1_lay_6 : decode cX1_lay 6 = .ok (.iload_n 2, 1) := by decide +kernel
theorem dX1_lay_7 : decode cX1_lay 7 = .ok (.putfield 15, 3) := by decide +kernel
theorem dX1_lay_10 : decode cX1_lay 10 = .ok (.iconst 0, 1) := by decide +kernel
theorem dX1_lay_11 : decode cX1_lay 11 = .ok (.istore_n 3, 1) := by decide +kernel
theorem dX1_lay_12 : decode cX1_lay 12 = .ok (.iload_n 3, 1) := by decide +kernel
theorem dX1_lay_13 : decode cX1_lay 13 = .ok (.iload_n 1, 1) := by decide +kernel
theorem dX1_lay_14 : decode cX1_lay 14 = .ok (.if_icmp .gt 35, 3) := by decide +kernel
theorem dX1_lay_17 : decode cX1_lay 17 = .ok (.iload_n 3, 1) := by decide +kernel
theorem dX1_lay_18 : decode cX1_lay 18 = .ok (.aload_n 0, 1) := by decide +kernel
theorem dX1_lay_19 : decode cX1_lay 19 = .ok (.getfield 18, 3) := by decide +kernel
theorem dX1_lay_22 : decode cX1_lay 22 = .ok (.arraylength, 1) := by decide +kernel
theorem dX1_lay_23 : decode cX1_lay 23 = .ok (.if_icmp .ge 26, 3) := by decide +kernel
theorem dX1_lay_26 : decode cX1_lay 26 = .ok (.iload_n 1, 1) := by decide +kernel
theorem dX1_lay_27 : decode cX1_lay 27 = .ok (.ifCond .le 22, 3) := by decide +kernel
theorem dX1_lay_30 : decode cX1_lay 30 = .ok (.aload_n 0, 1) := by decide +kernel
theorem dX1_lay_31 : decode cX1_lay 31 = .ok (.getfield 18, 3) := by decide +kernel
theorem dX1_lay_34 : decode cX1_lay 34 = .ok (.iload_n 3, 1) := by decide +kernel
theorem dX1_lay_35 : decode cX1_lay 35 = .ok (.iload_n 2, 1) := by decide +kernel
theorem dX1_lay_36 : decode cX1_lay 36 = .ok (.iload_n 1, 1) := by decide +kernel
theorem dX1_lay_37 : decode cX1_lay 37 = .ok (.iload_n 3, 1) := by decide +kernel
theorem dX1_lay_38 : decode cX1_lay 38 = .ok (.isub, 1) := by decide +kernel
theorem dX1_lay_39 : decode cX1_lay 39 = .ok (.imul, 1) := by decide +kernel
theorem dX1_lay_40 : decode cX1_lay 40 = .ok (.iload_n 1, 1) := by decide +kernel
theorem dX1_lay_41 : decode cX1_lay 41 = .ok (.idiv, 1) := by decide +kernel
theorem dX1_lay_42 : decode cX1_lay 42 = .ok (.iastore, 1) := by decide +kernel
theorem dX1_lay_43 : decode cX1_lay 43 = .ok (.iinc 3 1, 3) := by decide +kernel
theorem dX1_lay_46 : decode cX1_lay 46 = .ok (.goto (-34), 3) := by decide +kernel
theorem dX1_lay_49 : decode cX1_lay 49 = .ok (.return_, 1) := by decide +kernel
theorem dX1_put_0 : decode cX1_put 0 = .ok (.iload_n 1, 1) := by decide +kernel
theorem dX1_put_1 : decode cX1_put 1 = .ok (.iconst 0, 1) := by decide +kernel
theorem dX1_put_2 : decode cX1_put 2 = .ok (.bipush 8, 2) := by decide +kernel
theorem dX1_put_4 : decode cX1_put 4 = .ok (.invokestatic 26, 3) := by decide +kernel
theorem dX1_put_7 : decode cX1_put 7 = .ok (.ifCond .eq 10, 3) := by decide +kernel
theorem dX1_put_10 : decode cX1_put 10 = .ok (.aload_n 0, 1) := by decide +kernel
theorem dX1_put_11 : decode cX1_put 11 = .ok (.getfield 18, 3) := by decide +kernel
theorem dX1_put_14 : decode cX1_put 14 = .ok (.iload_n 1, 1) := by decide +kernel
theorem dX1_put_15 : decode cX1_put 15 = .ok (.iload_n 2, 1) := by decide +kernel
theorem dX1_put_16 : decode cX1_put 16 = .ok (.iastore, 1) := by decide +kernel
theorem dX1_put_17 : decode cX1_put 17 = .ok (.return_, 1) := by decide +kernel
theorem dX1_numberAt_0 : decode cX1_numberAt 0 = .ok (.iload_n 1, 1) := by decide +kernel
theorem dX1_numberAt_1 : decode cX1_numberAt 1 = .ok (.iconst 0, 1) := by decide +kernel
theorem dX1_numberAt_2 : decode cX1_numberAt 2 = .ok (.bipush 8, 2) := by decide +kernel
theorem dX1_numberAt_4 : decode cX1_numberAt 4 = .ok (.invokestatic 26, 3) := by decide +kernel
theorem dX1_numberAt_7 : decode cX1_numberAt 7 = .ok (.ifCond .eq 12, 3) := by decide +kernel
theorem dX1_numberAt_10 : decode cX1_numberAt 10 = .ok (.aload_n 0, 1) := by decide +kernel
theorem dX1_numberAt_11 : decode cX1_numberAt 11 = .ok (.getfield 18, 3) := by decide +kernel
theorem dX1_numberAt_14 : decode cX1_numberAt 14 = .ok (.iload_n 1, 1) := by decide +kernel
theorem dX1_numberAt_15 : decode cX1_numberAt 15 = .ok (.iaload, 1) := by decide +kernel
theorem dX1_numberAt_16 : decode cX1_numberAt 16 = .ok (.goto 4, 3) := by decide +kernel
theorem dX1_numberAt_19 : decode cX1_numberAt 19 = .ok (.iconst 0, 1) := by decide +kernel
theorem dX1_numberAt_20 : decode cX1_numberAt 20 = .ok (.ireturn, 1) := by decide +kernel
theorem dX1_quarterOf_0 : decode cX1_quarterOf 0 = .ok (.aload_n 0, 1) := by decide +kernel
theorem dX1_quarterOf_1 : decode cX1_quarterOf 1 = .ok (.getfield 9, 3) := by decide +kernel
theorem dX1_quarterOf_4 : decode cX1_quarterOf 4 = .ok (.iconst 1, 1) := by decide +kernel
theorem dX1_quarterOf_5 : decode cX1_quarterOf 5 = .ok (.if_icmp .ge 7, 3) := by decide +kernel
theorem dX1_quarterOf_8 : decode cX1_quarterOf 8 = .ok (.iconst 0, 1) := by decide +kernel
theorem dX1_quarterOf_9 : decode cX1_quarterOf 9 = .ok (.goto 11, 3) := by decide +kernel
theorem dX1_quarterOf_12 : decode cX1_quarterOf 12 = .ok (.iload_n 1, 1) := by decide +kernel
theorem dX1_quarterOf_13 : decode cX1_quarterOf 13 = .ok (.aload_n 0, 1) := by decide +kernel
theorem dX1_quarterOf_14 : decode cX1_quarterOf 14 = .ok (.getfield 9, 3) := by decide +kernel
theorem dX1_quarterOf_17 : decode cX1_quarterOf 17 = .ok (.idiv, 1) := by decide +kernel
theorem dX1_quarterOf_18 : decode cX1_quarterOf 18 = .ok (.iconst 4, 1) := by decide +kernel
theorem dX1_quarterOf_19 : decode cX1_quarterOf 19 = .ok (.irem, 1) := by decide +kernel
theorem dX1_quarterOf_20 : decode cX1_quarterOf 20 = .ok (.ireturn, 1) := by decide +kernel
theorem dX1_restOf_0 : decode cX1_restOf 0 = .ok (.aload_n 0, 1) := by decide +kernel
theorem dX1_restOf_1 : decode cX1_restOf 1 = .ok (.getfield 9, 3) := by decide +kernel
theorem dX1_restOf_4 : decode cX1_restOf 4 = .ok (.iconst 1, 1) := by decide +kernel
theorem dX1_restOf_5 : decode cX1_restOf 5 = .ok (.if_icmp .ge 7, 3) := by decide +kernel
theorem dX1_restOf_8 : decode cX1_restOf 8 = .ok (.iconst 0, 1) := by decide +kernel
theorem dX1_restOf_9 : decode cX1_restOf 9 = .ok (.goto 9, 3) := by decide +kernel
theorem dX1_restOf_12 : decode cX1_restOf 12 = .ok (.iload_n 1, 1) := by decide +kernel
theorem dX1_restOf_13 : decode cX1_restOf 13 = .ok (.aload_n 0, 1) := by decide +kernel
theorem dX1_restOf_14 : decode cX1_restOf 14 = .ok (.getfield 9, 3) := by decide +kernel
theorem dX1_restOf_17 : decode cX1_restOf 17 = .ok (.irem, 1) := by decide +kernel
theorem dX1_restOf_18 : decode cX1_restOf 18 = .ok (.ireturn, 1) := by decide +kernel
theorem dX1_firstAt_0 : decode cX1_firstAt 0 = .ok (.aload_n 0, 1) := by decide +kernel
theorem dX1_firstAt_1 : decode cX1_firstAt 1 = .ok (.iload_n 1, 1) := by decide +kernel
theorem dX1_firstAt_2 : decode cX1_firstAt 2 = .ok (.invokevirtual 30, 3) := by decide +kernel
theorem dX1_firstAt_5 : decode cX1_firstAt 5 = .ok (.istore_n 2, 1) := by decide +kernel
theorem dX1_firstAt_6 : decode cX1_firstAt 6 = .ok (.aload_n 0, 1) := by decide +kernel
theorem dX1_firstAt_7 : decode cX1_firstAt 7 = .ok (.iload_n 1, 1) := by decide +kernel
theorem dX1_firstAt_8 : decode cX1_firstAt 8 = .ok (.invokevirtual 34, 3) := by decide +kernel
theorem dX1_firstAt_11 : decode cX1_firstAt 11 = .ok (.tableswitch 50 0 2 #[25, 31, 43], 25) := by decide +kernel
theorem dX1_firstAt_36 : decode cX1_firstAt 36 = .ok (.aload_n 0, 1) := by decide +kernel
theorem dX1_firstAt_37 : decode cX1_firstAt 37 = .ok (.iload_n 2, 1) := by decide +kernel
theorem dX1_firstAt_38 : decode cX1_firstAt 38 = .ok (.invokevirtual 37, 3) := by decide +kernel
theorem dX1_firstAt_41 : decode cX1_firstAt 41 = .ok (.ireturn, 1) := by decide +kernel
theorem dX1_firstAt_42 : decode cX1_firstAt 42 = .ok (.aload_n 0, 1) := by decide +kernel
theorem dX1_firstAt_43 : decode cX1_firstAt 43 = .ok (.aload_n 0, 1) := by decide +kernel
theorem dX1_firstAt_44 : decode cX1_firstAt 44 = .ok (.getfield 9, 3) := by decide +kernel
theorem dX1_firstAt_47 : decode cX1_firstAt 47 = .ok (.iload_n 2, 1) := by decide +kernel
theorem dX1_firstAt_48 : decode cX1_firstAt 48 = .ok (.isub, 1) := by decide +kernel
theorem dX1_firstAt_49 : decode cX1_firstAt 49 = .ok (.invokevirtual 37, 3) := by decide +kernel
theorem dX1_firstAt_52 : decode cX1_firstAt 52 = .ok (.ineg, 1) := by decide +kernel
theorem dX1_firstAt_53 : decode cX1_firstAt 53 = .ok (.ireturn, 1) := by decide +kernel
theorem dX1_firstAt_54 : decode cX1_firstAt 54 = .ok (.aload_n 0, 1) := by decide +kernel
theorem dX1_firstAt_55 : decode cX1_firstAt 55 = .ok (.iload_n 2, 1) := by decide +kernel
theorem dX1_firstAt_56 : decode cX1_firstAt 56 = .ok (.invokevirtual 37, 3) := by decide +kernel
theorem dX1_firstAt_59 : decode cX1_firstAt 59 = .ok (.ineg, 1) := by decide +kernel
theorem dX1_firstAt_60 : decode cX1_firstAt 60 = .ok (.ireturn, 1) := by decide +kernel
theorem dX1_firstAt_61 : decode cX1_firstAt 61 = .ok (.aload_n 0, 1) := by decide +kernel
theorem dX1_firstAt_62 : decode cX1_firstAt 62 = .ok (.aload_n 0, 1) := by decide +kernel
theorem dX1_firstAt_63 : decode cX1_firstAt 63 = .ok (.getfield 9, 3) := by decide +kernel
theorem dX1_firstAt_66 : decode cX1_firstAt 66 = .ok (.iload_n 2, 1) := by decide +kernel
theorem dX1_firstAt_67 : decode cX1_firstAt 67 = .ok (.isub, 1) := by decide +kernel
theorem dX1_firstAt_68 : decode cX1_firstAt 68 = .ok (.invokevirtual 37, 3) := by decide +kernel
theorem dX1_firstAt_71 : decode cX1_firstAt 71 = .ok (.ireturn, 1) := by decide +kernel
theorem dX1_secondAt_0 : decode cX1_secondAt 0 = .ok (.aload_n 0, 1) := by decide +kernel
theorem dX1_secondAt_1 : decode cX1_secondAt 1 = .ok (.iload_n 1, 1) := by decide +kernel
theorem dX1_secondAt_2 : decode cX1_secondAt 2 = .ok (.invokevirtual 30, 3) := by decide +kernel
theorem dX1_secondAt_5 : decode cX1_secondAt 5 = .ok (.istore_n 2, 1) := by decide +kernel
theorem dX1_secondAt_6 : decode cX1_secondAt 6 = .ok (.aload_n 0, 1) := by decide +kernel
theorem dX1_secondAt_7 : decode cX1_secondAt 7 = .ok (.iload_n 1, 1) := by decide +kernel
theorem dX1_secondAt_8 : decode cX1_secondAt 8 = .ok (.invokevirtual 34, 3) := by decide +kernel
theorem dX1_secondAt_11 : decode cX1_secondAt 11 = .ok (.tableswitch 54 0 2 #[25, 36, 42], 25) := by decide +kernel
theorem dX1_secondAt_36 : decode cX1_secondAt 36 = .ok (.aload_n 0, 1) := by decide +kernel
theorem dX1_secondAt_37 : decode cX1_secondAt 37 = .ok (.aload_n 0, 1) := by decide +kernel
theorem dX1_secondAt_38 : decode cX1_secondAt 38 = .ok (.getfield 9, 3) := by decide +kernel
theorem dX1_secondAt_41 : decode cX1_secondAt 41 = .ok (.iload_n 2, 1) := by decide +kernel
theorem dX1_secondAt_42 : decode cX1_secondAt 42 = .ok (.isub, 1) := by decide +kernel
theorem dX1_secondAt_43 : decode cX1_secondAt 43 = .ok (.invokevirtual 37, 3) := by decide +kernel
theorem dX1_secondAt_46 : decode cX1_secondAt 46 = .ok (.ireturn, 1) := by decide +kernel
theorem dX1_secondAt_47 : decode cX1_secondAt 47 = .ok (.aload_n 0, 1) := by decide +kernel
theorem dX1_secondAt_48 : decode cX1_secondAt 48 = .ok (.iload_n 2, 1) := by decide +kernel
theorem dX1_secondAt_49 : decode cX1_secondAt 49 = .ok (.invokevirtual 37, 3) := by decide +kernel
theorem dX1_secondAt_52 : decode cX1_secondAt 52 = .ok (.ireturn, 1) := by decide +kernel
theorem dX1_secondAt_53 : decode cX1_secondAt 53 = .ok (.aload_n 0, 1) := by decide +kernel
theorem dX1_secondAt_54 : decode cX1_secondAt 54 = .ok (.aload_n 0, 1) := by decide +kernel
theorem dX1_secondAt_55 : decode cX1_secondAt 55 = .ok (.getfield 9, 3) := by decide +kernel
theorem dX1_secondAt_58 : decode cX1_secondAt 58 = .ok (.iload_n 2, 1) := by decide +kernel
theorem dX1_secondAt_59 : decode cX1_secondAt 59 = .ok (.isub, 1) := by decide +kernel
theorem dX1_secondAt_60 : decode cX1_secondAt 60 = .ok (.invokevirtual 37, 3) := by decide +kernel
theorem dX1_secondAt_63 : decode cX1_secondAt 63 = .ok (.ineg, 1) := by decide +kernel
theorem dX1_secondAt_64 : decode cX1_secondAt 64 = .ok (.ireturn, 1) := by decide +kernel
theorem dX1_secondAt_65 : decode cX1_secondAt 65 = .ok (.aload_n 0, 1) := by decide +kernel
theorem dX1_secondAt_66 : decode cX1_secondAt 66 = .ok (.iload_n 2, 1) := by decide +kernel
theorem dX1_secondAt_67 : decode cX1_secondAt 67 = .ok (.invokevirtual 37, 3) := by decide +kernel
theorem dX1_secondAt_70 : decode cX1_secondAt 70 = .ok (.ineg, 1) := by decide +kernel
theorem dX1_secondAt_71 : decode cX1_secondAt 71 = .ok (.ireturn, 1) := by decide +kernel
theorem dX1_missOfPair_0 : decode cX1_missOfPair 0 = .ok (.iload_n 1, 1) := by decide +kernel
theorem dX1_missOfPair_1 : decode cX1_missOfPair 1 = .ok (.iload_n 1, 1) := by decide +kernel
theorem dX1_missOfPair_2 : decode cX1_missOfPair 2 = .ok (.imul, 1) := by decide +kernel
theorem dX1_missOfPair_3 : decode cX1_missOfPair 3 = .ok (.iload_n 2, 1) := by decide +kernel
theorem dX1_missOfPair_4 : decode cX1_missOfPair 4 = .ok (.iload_n 2, 1) := by decide +kernel
theorem dX1_missOfPair_5 : decode cX1_missOfPair 5 = .ok (.imul, 1) := by decide +kernel
theorem dX1_missOfPair_6 : decode cX1_missOfPair 6 = .ok (.iadd, 1) := by decide +kernel
theorem dX1_missOfPair_7 : decode cX1_missOfPair 7 = .ok (.aload_n 0, 1) := by decide +kernel
theorem dX1_missOfPair_8 : decode cX1_missOfPair 8 = .ok (.getfield 15, 3) := by decide +kernel
theorem dX1_missOfPair_11 : decode cX1_missOfPair 11 = .ok (.aload_n 0, 1) := by decide +kernel
theorem dX1_missOfPair_12 : decode cX1_missOfPair 12 = .ok (.getfield 15, 3) := by decide +kernel
theorem dX1_missOfPair_15 : decode cX1_missOfPair 15 = .ok (.imul, 1) := by decide +kernel
theorem dX1_missOfPair_16 : decode cX1_missOfPair 16 = .ok (.isub, 1) := by decide +kernel
theorem dX1_missOfPair_17 : decode cX1_missOfPair 17 = .ok (.invokestatic 40, 3) := by decide +kernel
theorem dX1_missOfPair_20 : decode cX1_missOfPair 20 = .ok (.ireturn, 1) := by decide +kernel
theorem dX1_missOf_0 : decode cX1_missOf 0 = .ok (.aload_n 0, 1) := by decide +kernel
theorem dX1_missOf_1 : decode cX1_missOf 1 = .ok (.aload_n 0, 1) := by decide +kernel
theorem dX1_missOf_2 : decode cX1_missOf 2 = .ok (.iload_n 1, 1) := by decide +kernel
theorem dX1_missOf_3 : decode cX1_missOf 3 = .ok (.invokevirtual 37, 3) := by decide +kernel
theorem dX1_missOf_6 : decode cX1_missOf 6 = .ok (.aload_n 0, 1) := by decide +kernel
theorem dX1_missOf_7 : decode cX1_missOf 7 = .ok (.aload_n 0, 1) := by decide +kernel
theorem dX1_missOf_8 : decode cX1_missOf 8 = .ok (.getfield 9, 3) := by decide +kernel
theorem dX1_missOf_11 : decode cX1_missOf 11 = .ok (.iload_n 1, 1) := by decide +kernel
theorem dX1_missOf_12 : decode cX1_missOf 12 = .ok (.isub, 1) := by decide +kernel
theorem dX1_missOf_13 : decode cX1_missOf 13 = .ok (.invokevirtual 37, 3) := by decide +kernel
theorem dX1_missOf_16 : decode cX1_missOf 16 = .ok (.invokevirtual 45, 3) := by decide +kernel
theorem dX1_missOf_19 : decode cX1_missOf 19 = .ok (.ireturn, 1) := by decide +kernel
theorem dX1_greatestMiss_0 : decode cX1_greatestMiss 0 = .ok (.iconst 0, 1) := by decide +kernel
theorem dX1_greatestMiss_1 : decode cX1_greatestMiss 1 = .ok (.istore_n 1, 1) := by decide +kernel
theorem dX1_greatestMiss_2 : decode cX1_greatestMiss 2 = .ok (.iconst 0, 1) := by decide +kernel
theorem dX1_greatestMiss_3 : decode cX1_greatestMiss 3 = .ok (.istore_n 2, 1) := by decide +kernel
theorem dX1_greatestMiss_4 : decode cX1_greatestMiss 4 = .ok (.iload_n 2, 1) := by decide +kernel
theorem dX1_greatestMiss_5 : decode cX1_greatestMiss 5 = .ok (.aload_n 0, 1) := by decide +kernel
theorem dX1_greatestMiss_6 : decode cX1_greatestMiss 6 = .ok (.getfield 9, 3) := by decide +kernel
theorem dX1_greatestMiss_9 : decode cX1_greatestMiss 9 = .ok (.if_icmp .gt 19, 3) := by decide +kernel
theorem dX1_greatestMiss_12 : decode cX1_greatestMiss 12 = .ok (.iload_n 1, 1) := by decide +kernel
theorem dX1_greatestMiss_13 : decode cX1_greatestMiss 13 = .ok (.aload_n 0, 1) := by decide +kernel
theorem dX1_greatestMiss_14 : decode cX1_greatestMiss 14 = .ok (.iload_n 2, 1) := by decide +kernel
theorem dX1_greatestMiss_15 : decode cX1_greatestMiss 15 = .ok (.invokevirtual 49, 3) := by decide +kernel
theorem dX1_greatestMiss_18 : decode cX1_greatestMiss 18 = .ok (.invokestatic 52, 3) := by decide +kernel
theorem dX1_greatestMiss_21 : decode cX1_greatestMiss 21 = .ok (.istore_n 1, 1) := by decide +kernel
theorem dX1_greatestMiss_22 : decode cX1_greatestMiss 22 = .ok (.iinc 2 1, 3) := by decide +kernel
theorem dX1_greatestMiss_25 : decode cX1_greatestMiss 25 = .ok (.goto (-21), 3) := by decide +kernel
theorem dX1_greatestMiss_28 : decode cX1_greatestMiss 28 = .ok (.iload_n 1, 1) := by decide +kernel
theorem dX1_greatestMiss_29 : decode cX1_greatestMiss 29 = .ok (.ireturn, 1) := by decide +kernel
theorem dX1_even_0 : decode cX1_even 0 = .ok (.iconst 0, 1) := by decide +kernel
theorem dX1_even_1 : decode cX1_even 1 = .ok (.istore_n 1, 1) := by decide +kernel
theorem dX1_even_2 : decode cX1_even 2 = .ok (.iconst 2, 1) := by decide +kernel
theorem dX1_even_3 : decode cX1_even 3 = .ok (.iload_n 1, 1) := by decide +kernel
theorem dX1_even_4 : decode cX1_even 4 = .ok (.imul, 1) := by decide +kernel
theorem dX1_even_5 : decode cX1_even 5 = .ok (.aload_n 0, 1) := by decide +kernel
theorem dX1_even_6 : decode cX1_even 6 = .ok (.getfield 9, 3) := by decide +kernel
theorem dX1_even_9 : decode cX1_even 9 = .ok (.if_icmp .gt 32, 3) := by decide +kernel
theorem dX1_even_12 : decode cX1_even 12 = .ok (.iconst 2, 1) := by decide +kernel
theorem dX1_even_13 : decode cX1_even 13 = .ok (.iload_n 1, 1) := by decide +kernel
theorem dX1_even_14 : decode cX1_even 14 = .ok (.imul, 1) := by decide +kernel
theorem dX1_even_15 : decode cX1_even 15 = .ok (.aload_n 0, 1) := by decide +kernel
theorem dX1_even_16 : decode cX1_even 16 = .ok (.getfield 9, 3) := by decide +kernel
theorem dX1_even_19 : decode cX1_even 19 = .ok (.if_icmp .ne 11, 3) := by decide +kernel
theorem dX1_even_22 : decode cX1_even 22 = .ok (.aload_n 0, 1) := by decide +kernel
theorem dX1_even_23 : decode cX1_even 23 = .ok (.iload_n 1, 1) := by decide +kernel
theorem dX1_even_24 : decode cX1_even 24 = .ok (.invokevirtual 55, 3) := by decide +kernel
theorem dX1_even_27 : decode cX1_even 27 = .ok (.goto 8, 3) := by decide +kernel
theorem dX1_even_30 : decode cX1_even 30 = .ok (.aload_n 0, 1) := by decide +kernel
theorem dX1_even_31 : decode cX1_even 31 = .ok (.iload_n 1, 1) := by decide +kernel
theorem dX1_even_32 : decode cX1_even 32 = .ok (.invokevirtual 59, 3) := by decide +kernel
theorem dX1_even_35 : decode cX1_even 35 = .ok (.iinc 1 1, 3) := by decide +kernel
theorem dX1_even_38 : decode cX1_even 38 = .ok (.goto (-36), 3) := by decide +kernel
theorem dX1_even_41 : decode cX1_even 41 = .ok (.return_, 1) := by decide +kernel
theorem dX1_evenMiddle_0 : decode cX1_evenMiddle 0 = .ok (.aload_n 0, 1) := by decide +kernel
theorem dX1_evenMiddle_1 : decode cX1_evenMiddle 1 = .ok (.getfield 15, 3) := by decide +kernel
theorem dX1_evenMiddle_4 : decode cX1_evenMiddle 4 = .ok (.istore_n 2, 1) := by decide +kernel
theorem dX1_evenMiddle_5 : decode cX1_evenMiddle 5 = .ok (.aload_n 0, 1) := by decide +kernel
theorem dX1_evenMiddle_6 : decode cX1_evenMiddle 6 = .ok (.getfield 15, 3) := by decide +kernel
theorem dX1_evenMiddle_9 : decode cX1_evenMiddle 9 = .ok (.iconst 1, 1) := by decide +kernel
theorem dX1_evenMiddle_10 : decode cX1_evenMiddle 10 = .ok (.isub, 1) := by decide +kernel
theorem dX1_evenMiddle_11 : decode cX1_evenMiddle 11 = .ok (.istore_n 3, 1) := by decide +kernel
theorem dX1_evenMiddle_12 : decode cX1_evenMiddle 12 = .ok (.iload_n 3, 1) := by decide +kernel
theorem dX1_evenMiddle_13 : decode cX1_evenMiddle 13 = .ok (.ifCond .lt 26, 3) := by decide +kernel
theorem dX1_evenMiddle_16 : decode cX1_evenMiddle 16 = .ok (.aload_n 0, 1) := by decide +kernel
theorem dX1_evenMiddle_17 : decode cX1_evenMiddle 17 = .ok (.iload_n 3, 1) := by decide +kernel
theorem dX1_evenMiddle_18 : decode cX1_evenMiddle 18 = .ok (.iload_n 3, 1) := by decide +kernel
theorem dX1_evenMiddle_19 : decode cX1_evenMiddle 19 = .ok (.invokevirtual 45, 3) := by decide +kernel
theorem dX1_evenMiddle_22 : decode cX1_evenMiddle 22 = .ok (.aload_n 0, 1) := by decide +kernel
theorem dX1_evenMiddle_23 : decode cX1_evenMiddle 23 = .ok (.iload_n 2, 1) := by decide +kernel
theorem dX1_evenMiddle_24 : decode cX1_evenMiddle 24 = .ok (.iload_n 2, 1) := by decide +kernel
theorem dX1_evenMiddle_25 : decode cX1_evenMiddle 25 = .ok (.invokevirtual 45, 3) := by decide +kernel
theorem dX1_evenMiddle_28 : decode cX1_evenMiddle 28 = .ok (.if_icmp .ge 5, 3) := by decide +kernel
theorem dX1_evenMiddle_31 : decode cX1_evenMiddle 31 = .ok (.iload_n 3, 1) := by decide +kernel
theorem dX1_evenMiddle_32 : decode cX1_evenMiddle 32 = .ok (.istore_n 2, 1) := by decide +kernel
theorem dX1_evenMiddle_33 : decode cX1_evenMiddle 33 = .ok (.iinc 3 (-1), 3) := by decide +kernel
theorem dX1_evenMiddle_36 : decode cX1_evenMiddle 36 = .ok (.goto (-24), 3) := by decide +kernel
theorem dX1_evenMiddle_39 : decode cX1_evenMiddle 39 = .ok (.aload_n 0, 1) := by decide +kernel
theorem dX1_evenMiddle_40 : decode cX1_evenMiddle 40 = .ok (.iload_n 1, 1) := by decide +kernel
theorem dX1_evenMiddle_41 : decode cX1_evenMiddle 41 = .ok (.iload_n 2, 1) := by decide +kernel
theorem dX1_evenMiddle_42 : decode cX1_evenMiddle 42 = .ok (.invokevirtual 62, 3) := by decide +kernel
theorem dX1_evenMiddle_45 : decode cX1_evenMiddle 45 = .ok (.return_, 1) := by decide +kernel
theorem dX1_evenPair_0 : decode cX1_evenPair 0 = .ok (.aload_n 0, 1) := by decide +kernel
theorem dX1_evenPair_1 : decode cX1_evenPair 1 = .ok (.getfield 15, 3) := by decide +kernel
theorem dX1_evenPair_4 : decode cX1_evenPair 4 = .ok (.istore_n 2, 1) := by decide +kernel
theorem dX1_evenPair_5 : decode cX1_evenPair 5 = .ok (.iconst 0, 1) := by decide +kernel
theorem dX1_evenPair_6 : decode cX1_evenPair 6 = .ok (.istore_n 3, 1) := by decide +kernel
theorem dX1_evenPair_7 : decode cX1_evenPair 7 = .ok (.iconst 0, 1) := by decide +kernel
theorem dX1_evenPair_8 : decode cX1_evenPair 8 = .ok (.istore 4, 2) := by decide +kernel
theorem dX1_evenPair_10 : decode cX1_evenPair 10 = .ok (.aload_n 0, 1) := by decide +kernel
theorem dX1_evenPair_11 : decode cX1_evenPair 11 = .ok (.getfield 15, 3) := by decide +kernel
theorem dX1_evenPair_14 : decode cX1_evenPair 14 = .ok (.istore 5, 2) := by decide +kernel
theorem dX1_evenPair_16 : decode cX1_evenPair 16 = .ok (.iload 5, 2) := by decide +kernel
theorem dX1_evenPair_18 : decode cX1_evenPair 18 = .ok (.ifCond .lt 104, 3) := by decide +kernel
theorem dX1_evenPair_21 : decode cX1_evenPair 21 = .ok (.iload 4, 2) := by decide +kernel
theorem dX1_evenPair_23 : decode cX1_evenPair 23 = .ok (.iload 5, 2) := by decide +kernel
theorem dX1_evenPair_25 : decode cX1_evenPair 25 = .ok (.invokestatic 65, 3) := by decide +kernel
theorem dX1_evenPair_28 : decode cX1_evenPair 28 = .ok (.istore 4, 2) := by decide +kernel
theorem dX1_evenPair_30 : decode cX1_evenPair 30 = .ok (.iload 4, 2) := by decide +kernel
theorem dX1_evenPair_32 : decode cX1_evenPair 32 = .ok (.iload 5, 2) := by decide +kernel
theorem dX1_evenPair_34 : decode cX1_evenPair 34 = .ok (.if_icmp .ge 30, 3) := by decide +kernel
theorem dX1_evenPair_37 : decode cX1_evenPair 37 = .ok (.aload_n 0, 1) := by decide +kernel
theorem dX1_evenPair_38 : decode cX1_evenPair 38 = .ok (.iload 5, 2) := by decide +kernel
theorem dX1_evenPair_40 : decode cX1_evenPair 40 = .ok (.iload 4, 2) := by decide +kernel
theorem dX1_evenPair_42 : decode cX1_evenPair 42 = .ok (.iconst 1, 1) := by decide +kernel
theorem dX1_evenPair_43 : decode cX1_evenPair 43 = .ok (.iadd, 1) := by decide +kernel
theorem dX1_evenPair_44 : decode cX1_evenPair 44 = .ok (.invokevirtual 45, 3) := by decide +kernel
theorem dX1_evenPair_47 : decode cX1_evenPair 47 = .ok (.aload_n 0, 1) := by decide +kernel
theorem dX1_evenPair_48 : decode cX1_evenPair 48 = .ok (.iload 5, 2) := by decide +kernel
theorem dX1_evenPair_50 : decode cX1_evenPair 50 = .ok (.iload 4, 2) := by decide +kernel
theorem dX1_evenPair_52 : decode cX1_evenPair 52 = .ok (.invokevirtual 45, 3) := by decide +kernel
theorem dX1_evenPair_55 : decode cX1_evenPair 55 = .ok (.if_icmp .ge 9, 3) := by decide +kernel
theorem dX1_evenPair_58 : decode cX1_evenPair 58 = .ok (.iinc 4 1, 3) := by decide +kernel
theorem dX1_evenPair_61 : decode cX1_evenPair 61 = .ok (.goto (-31), 3) := by decide +kernel
theorem dX1_evenPair_64 : decode cX1_evenPair 64 = .ok (.aload_n 0, 1) := by decide +kernel
theorem dX1_evenPair_65 : decode cX1_evenPair 65 = .ok (.iload 5, 2) := by decide +kernel
theorem dX1_evenPair_67 : decode cX1_evenPair 67 = .ok (.iload 4, 2) := by decide +kernel
theorem dX1_evenPair_69 : decode cX1_evenPair 69 = .ok (.invokevirtual 45, 3) := by decide +kernel
theorem dX1_evenPair_72 : decode cX1_evenPair 72 = .ok (.aload_n 0, 1) := by decide +kernel
theorem dX1_evenPair_73 : decode cX1_evenPair 73 = .ok (.iload_n 2, 1) := by decide +kernel
theorem dX1_evenPair_74 : decode cX1_evenPair 74 = .ok (.iload_n 3, 1) := by decide +kernel
theorem dX1_evenPair_75 : decode cX1_evenPair 75 = .ok (.invokevirtual 45, 3) := by decide +kernel
theorem dX1_evenPair_78 : decode cX1_evenPair 78 = .ok (.isub, 1) := by decide +kernel
theorem dX1_evenPair_79 : decode cX1_evenPair 79 = .ok (.istore 6, 2) := by decide +kernel
theorem dX1_evenPair_81 : decode cX1_evenPair 81 = .ok (.iload 6, 2) := by decide +kernel
theorem dX1_evenPair_83 : decode cX1_evenPair 83 = .ok (.ifCond .lt 27, 3) := by decide +kernel
theorem dX1_evenPair_86 : decode cX1_evenPair 86 = .ok (.iload 6, 2) := by decide +kernel
theorem dX1_evenPair_88 : decode cX1_evenPair 88 = .ok (.ifCond .ne 28, 3) := by decide +kernel
theorem dX1_evenPair_91 : decode cX1_evenPair 91 = .ok (.aload_n 0, 1) := by decide +kernel
theorem dX1_evenPair_92 : decode cX1_evenPair 92 = .ok (.iload_n 1, 1) := by decide +kernel
theorem dX1_evenPair_93 : decode cX1_evenPair 93 = .ok (.iload 5, 2) := by decide +kernel
theorem dX1_evenPair_95 : decode cX1_evenPair 95 = .ok (.iload 4, 2) := by decide +kernel
theorem dX1_evenPair_97 : decode cX1_evenPair 97 = .ok (.invokevirtual 68, 3) := by decide +kernel
theorem dX1_evenPair_100 : decode cX1_evenPair 100 = .ok (.aload_n 0, 1) := by decide +kernel
theorem dX1_evenPair_101 : decode cX1_evenPair 101 = .ok (.iload_n 1, 1) := by decide +kernel
theorem dX1_evenPair_102 : decode cX1_evenPair 102 = .ok (.iload_n 2, 1) := by decide +kernel
theorem dX1_evenPair_103 : decode cX1_evenPair 103 = .ok (.iload_n 3, 1) := by decide +kernel
theorem dX1_evenPair_104 : decode cX1_evenPair 104 = .ok (.invokevirtual 68, 3) := by decide +kernel
theorem dX1_evenPair_107 : decode cX1_evenPair 107 = .ok (.if_icmp .ge 9, 3) := by decide +kernel
theorem dX1_evenPair_110 : decode cX1_evenPair 110 = .ok (.iload 5, 2) := by decide +kernel
theorem dX1_evenPair_112 : decode cX1_evenPair 112 = .ok (.istore_n 2, 1) := by decide +kernel
theorem dX1_evenPair_113 : decode cX1_evenPair 113 = .ok (.iload 4, 2) := by decide +kernel
theorem dX1_evenPair_115 : decode cX1_evenPair 115 = .ok (.istore_n 3, 1) := by decide +kernel
theorem dX1_evenPair_116 : decode cX1_evenPair 116 = .ok (.iinc 5 (-1), 3) := by decide +kernel
theorem dX1_evenPair_119 : decode cX1_evenPair 119 = .ok (.goto (-103), 3) := by decide +kernel
theorem dX1_evenPair_122 : decode cX1_evenPair 122 = .ok (.aload_n 0, 1) := by decide +kernel
theorem dX1_evenPair_123 : decode cX1_evenPair 123 = .ok (.iload_n 1, 1) := by decide +kernel
theorem dX1_evenPair_124 : decode cX1_evenPair 124 = .ok (.iload_n 2, 1) := by decide +kernel
theorem dX1_evenPair_125 : decode cX1_evenPair 125 = .ok (.invokevirtual 62, 3) := by decide +kernel
theorem dX1_evenPair_128 : decode cX1_evenPair 128 = .ok (.aload_n 0, 1) := by decide +kernel
theorem dX1_evenPair_129 : decode cX1_evenPair 129 = .ok (.aload_n 0, 1) := by decide +kernel
theorem dX1_evenPair_130 : decode cX1_evenPair 130 = .ok (.getfield 9, 3) := by decide +kernel
theorem dX1_evenPair_133 : decode cX1_evenPair 133 = .ok (.iload_n 1, 1) := by decide +kernel
theorem dX1_evenPair_134 : decode cX1_evenPair 134 = .ok (.isub, 1) := by decide +kernel
theorem dX1_evenPair_135 : decode cX1_evenPair 135 = .ok (.iload_n 3, 1) := by decide +kernel
theorem dX1_evenPair_136 : decode cX1_evenPair 136 = .ok (.invokevirtual 62, 3) := by decide +kernel
theorem dX1_evenPair_139 : decode cX1_evenPair 139 = .ok (.return_, 1) := by decide +kernel
theorem dX1_apart_0 : decode cX1_apart 0 = .ok (.iload_n 2, 1) := by decide +kernel
theorem dX1_apart_1 : decode cX1_apart 1 = .ok (.iload_n 1, 1) := by decide +kernel
theorem dX1_apart_2 : decode cX1_apart 2 = .ok (.imul, 1) := by decide +kernel
theorem dX1_apart_3 : decode cX1_apart 3 = .ok (.iload_n 3, 1) := by decide +kernel
theorem dX1_apart_4 : decode cX1_apart 4 = .ok (.aload_n 0, 1) := by decide +kernel
theorem dX1_apart_5 : decode cX1_apart 5 = .ok (.getfield 9, 3) := by decide +kernel
theorem dX1_apart_8 : decode cX1_apart 8 = .ok (.iload_n 1, 1) := by decide +kernel
theorem dX1_apart_9 : decode cX1_apart 9 = .ok (.isub, 1) := by decide +kernel
theorem dX1_apart_10 : decode cX1_apart 10 = .ok (.imul, 1) := by decide +kernel
theorem dX1_apart_11 : decode cX1_apart 11 = .ok (.isub, 1) := by decide +kernel
theorem dX1_apart_12 : decode cX1_apart 12 = .ok (.invokestatic 40, 3) := by decide +kernel
theorem dX1_apart_15 : decode cX1_apart 15 = .ok (.ireturn, 1) := by decide +kernel
theorem dX2_init_0 : decode cX2_init 0 = .ok (.aload_n 0, 1) := by decide +kernel
theorem dX2_init_1 : decode cX2_init 1 = .ok (.invokespecial 3, 3) := by decide +kernel
theorem dX2_init_4 : decode cX2_init 4 = .ok (.aload_n 0, 1) := by decide +kernel
theorem dX2_init_5 : decode cX2_init 5 = .ok (.iconst 0, 1) := by decide +kernel
theorem dX2_init_6 : decode cX2_init 6 = .ok (.putfield 9, 3) := by decide +kernel
theorem dX2_init_9 : decode cX2_init 9 = .ok (.aload_n 0, 1) := by decide +kernel
theorem dX2_init_10 : decode cX2_init 10 = .ok (.iconst 0, 1) := by decide +kernel
theorem dX2_init_11 : decode cX2_init 11 = .ok (.putfield 15, 3) := by decide +kernel
theorem dX2_init_14 : decode cX2_init 14 = .ok (.aload_n 0, 1) := by decide +kernel
theorem dX2_init_15 : decode cX2_init 15 = .ok (.iconst 0, 1) := by decide +kernel
theorem dX2_init_16 : decode cX2_init 16 = .ok (.putfield 18, 3) := by decide +kernel
theorem dX2_init_19 : decode cX2_init 19 = .ok (.aload_n 0, 1) := by decide +kernel
theorem dX2_init_20 : decode cX2_init 20 = .ok (.iconst 0, 1) := by decide +kernel
theorem dX2_init_21 : decode cX2_init 21 = .ok (.putfield 21, 3) := by decide +kernel
theorem dX2_init_24 : decode cX2_init 24 = .ok (.aload_n 0, 1) := by decide +kernel
theorem dX2_init_25 : decode cX2_init 25 = .ok (.iconst 0, 1) := by decide +kernel
theorem dX2_init_26 : decode cX2_init 26 = .ok (.putfield 24, 3) := by decide +kernel
theorem dX2_init_29 : decode cX2_init 29 = .ok (.aload_n 0, 1) := by decide +kernel
theorem dX2_init_30 : decode cX2_init 30 = .ok (.iconst 0, 1) := by decide +kernel
theorem dX2_init_31 : decode cX2_init 31 = .ok (.putfield 27, 3) := by decide +kernel
theorem dX2_init_34 : decode cX2_init 34 = .ok (.aload_n 0, 1) := by decide +kernel
theorem dX2_init_35 : decode cX2_init 35 = .ok (.iconst (-1), 1) := by decide +kernel
theorem dX2_init_36 : decode cX2_init 36 = .ok (.putfield 30, 3) := by decide +kernel
theorem dX2_init_39 : decode cX2_init 39 = .ok (.aload_n 0, 1) := by decide +kernel
theorem dX2_init_40 : decode cX2_init 40 = .ok (.iconst 0, 1) := by decide +kernel
theorem dX2_init_41 : decode cX2_init 41 = .ok (.putfield 33, 3) := by decide +kernel
theorem dX2_init_44 : decode cX2_init 44 = .ok (.aload_n 0, 1) := by decide +kernel
theorem dX2_init_45 : decode cX2_init 45 = .ok (.iconst 0, 1) := by decide +kernel
theorem dX2_init_46 : decode cX2_init 46 = .ok (.putfield 37, 3) := by decide +kernel
theorem dX2_init_49 : decode cX2_init 49 = .ok (.aload_n 0, 1) := by decide +kernel
theorem dX2_init_50 : decode cX2_init 50 = .ok (.iconst 0, 1) := by decide +kernel
theorem dX2_init_51 : decode cX2_init 51 = .ok (.putfield 40, 3) := by decide +kernel
theorem dX2_init_54 : decode cX2_init 54 = .ok (.return_, 1) := by decide +kernel
theorem dX2_goesOn_0 : decode cX2_goesOn 0 = .ok (.aload_n 0, 1) := by decide +kernel
theorem dX2_goesOn_1 : decode cX2_goesOn 1 = .ok (.getfield 40, 3) := by decide +kernel
theorem dX2_goesOn_4 : decode cX2_goesOn 4 = .ok (.ifCond .le 7, 3) := by decide +kernel
theorem dX2_goesOn_7 : decode cX2_goesOn 7 = .ok (.iconst 1, 1) := by decide +kernel
theorem dX2_goesOn_8 : decode cX2_goesOn 8 = .ok (.goto 4, 3) := by decide +kernel
theorem dX2_goesOn_11 : decode cX2_goesOn 11 = .ok (.iconst 0, 1) := by decide +kernel
theorem dX2_goesOn_12 : decode cX2_goesOn 12 = .ok (.ireturn, 1) := by decide +kernel
theorem dX2_start_0 : decode cX2_start 0 = .ok (.aload_n 0, 1) := by decide +kernel
theorem dX2_start_1 : decode cX2_start 1 = .ok (.iload_n 1, 1) := by decide +kernel
theorem dX2_start_2 : decode cX2_start 2 = .ok (.putfield 9, 3) := by decide +kernel
theorem dX2_start_5 : decode cX2_start 5 = .ok (.aload_n 0, 1) := by decide +kernel
theorem dX2_start_6 : decode cX2_start 6 = .ok (.iconst 0, 1) := by decide +kernel
theorem dX2_start_7 : decode cX2_start 7 = .ok (.putfield 15, 3) := by decide +kernel
theorem dX2_start_10 : decode cX2_start 10 = .ok (.aload_n 0, 1) := by decide +kernel
theorem dX2_start_11 : decode cX2_start 11 = .ok (.iconst 0, 1) := by decide +kernel
theorem dX2_start_12 : decode cX2_start 12 = .ok (.putfield 18, 3) := by decide +kernel
theorem dX2_start_15 : decode cX2_start 15 = .ok (.aload_n 0, 1) := by decide +kernel
theorem dX2_start_16 : decode cX2_start 16 = .ok (.iconst 0, 1) := by decide +kernel
theorem dX2_start_17 : decode cX2_start 17 = .ok (.putfield 21, 3) := by decide +kernel
theorem dX2_start_20 : decode cX2_start 20 = .ok (.aload_n 0, 1) := by decide +kernel
theorem dX2_start_21 : decode cX2_start 21 = .ok (.iconst 0, 1) := by decide +kernel
theorem dX2_start_22 : decode cX2_start 22 = .ok (.putfield 24, 3) := by decide +kernel
theorem dX2_start_25 : decode cX2_start 25 = .ok (.aload_n 0, 1) := by decide +kernel
theorem dX2_start_26 : decode cX2_start 26 = .ok (.iconst 0, 1) := by decide +kernel
theorem dX2_start_27 : decode cX2_start 27 = .ok (.putfield 27, 3) := by decide +kernel
theorem dX2_start_30 : decode cX2_start 30 = .ok (.aload_n 0, 1) := by decide +kernel
theorem dX2_start_31 : decode cX2_start 31 = .ok (.iconst (-1), 1) := by decide +kernel
theorem dX2_start_32 : decode cX2_start 32 = .ok (.putfield 30, 3) := by decide +kernel
theorem dX2_start_35 : decode cX2_start 35 = .ok (.aload_n 0, 1) := by decide +kernel
theorem dX2_start_36 : decode cX2_start 36 = .ok (.iconst 0, 1) := by decide +kernel
theorem dX2_start_37 : decode cX2_start 37 = .ok (.putfield 33, 3) := by decide +kernel
theorem dX2_start_40 : decode cX2_start 40 = .ok (.aload_n 0, 1) := by decide +kernel
theorem dX2_start_41 : decode cX2_start 41 = .ok (.iconst 0, 1) := by decide +kernel
theorem dX2_start_42 : decode cX2_start 42 = .ok (.putfield 37, 3) := by decide +kernel
theorem dX2_start_45 : decode cX2_start 45 = .ok (.aload_n 0, 1) := by decide +kernel
theorem dX2_start_46 : decode cX2_start 46 = .ok (.iload_n 2, 1) := by decide +kernel
theorem dX2_start_47 : decode cX2_start 47 = .ok (.putfield 40, 3) := by decide +kernel
theorem dX2_start_50 : decode cX2_start 50 = .ok (.return_, 1) := by decide +kernel
theorem dX2_goBySlowing_0 : decode cX2_goBySlowing 0 = .ok (.aload_n 0, 1) := by decide +kernel
theorem dX2_goBySlowing_1 : decode cX2_goBySlowing 1 = .ok (.iconst 1, 1) := by decide +kernel
theorem dX2_goBySlowing_2 : decode cX2_goBySlowing 2 = .ok (.putfield 33, 3) := by decide +kernel
theorem dX2_goBySlowing_5 : decode cX2_goBySlowing 5 = .ok (.aload_n 0, 1) := by decide +kernel
theorem dX2_goBySlowing_6 : decode cX2_goBySlowing 6 = .ok (.iload_n 2, 1) := by decide +kernel
theorem dX2_goBySlowing_7 : decode cX2_goBySlowing 7 = .ok (.putfield 37, 3) := by decide +kernel
theorem dX2_goBySlowing_10 : decode cX2_goBySlowing 10 = .ok (.aload_n 0, 1) := by decide +kernel
theorem dX2_goBySlowing_11 : decode cX2_goBySlowing 11 = .ok (.iload_n 1, 1) := by decide +kernel
theorem dX2_goBySlowing_12 : decode cX2_goBySlowing 12 = .ok (.putfield 40, 3) := by decide +kernel
theorem dX2_goBySlowing_15 : decode cX2_goBySlowing 15 = .ok (.return_, 1) := by decide +kernel
theorem dX2_takeTick_0 : decode cX2_takeTick 0 = .ok (.iload_n 3, 1) := by decide +kernel
theorem dX2_takeTick_1 : decode cX2_takeTick 1 = .ok (.ifCond .ne 40, 3) := by decide +kernel
theorem dX2_takeTick_4 : decode cX2_takeTick 4 = .ok (.iload_n 1, 1) := by decide +kernel
theorem dX2_takeTick_5 : decode cX2_takeTick 5 = .ok (.ifCond .le 36, 3) := by decide +kernel
theorem dX2_takeTick_8 : decode cX2_takeTick 8 = .ok (.aload_n 0, 1) := by decide +kernel
theorem dX2_takeTick_9 : decode cX2_takeTick 9 = .ok (.dup, 1) := by decide +kernel
theorem dX2_takeTick_10 : decode cX2_takeTick 10 = .ok (.getfield 27, 3) := by decide +kernel
theorem dX2_takeTick_13 : decode cX2_takeTick 13 = .ok (.iload_n 1, 1) := by decide +kernel
theorem dX2_takeTick_14 : decode cX2_takeTick 14 = .ok (.iadd, 1) := by decide +kernel
theorem dX2_takeTick_15 : decode cX2_takeTick 15 = .ok (.putfield 27, 3) := by decide +kernel
theorem dX2_takeTick_18 : decode cX2_takeTick 18 = .ok (.aload_n 0, 1) := by decide +kernel
theorem dX2_takeTick_19 : decode cX2_takeTick 19 = .ok (.aload_n 0, 1) := by decide +kernel
theorem dX2_takeTick_20 : decode cX2_takeTick 20 = .ok (.getfield 30, 3) := by decide +kernel
theorem dX2_takeTick_23 : decode cX2_takeTick 23 = .ok (.iconst (-1), 1) := by decide +kernel
theorem dX2_takeTick_24 : decode cX2_takeTick 24 = .ok (.if_icmp .ne 10, 3) := by decide +kernel
theorem dX2_takeTick_27 : decode cX2_takeTick 27 = .ok (.aload_n 0, 1) := by decide +kernel
theorem dX2_takeTick_28 : decode cX2_takeTick 28 = .ok (.getfield 24, 3) := by decide +kernel
theorem dX2_takeTick_31 : decode cX2_takeTick 31 = .ok (.goto 7, 3) := by decide +kernel
theorem dX2_takeTick_34 : decode cX2_takeTick 34 = .ok (.aload_n 0, 1) := by decide +kernel
theorem dX2_takeTick_35 : decode cX2_takeTick 35 = .ok (.getfield 30, 3) := by decide +kernel
theorem dX2_takeTick_38 : decode cX2_takeTick 38 = .ok (.putfield 30, 3) := by decide +kernel
theorem dX2_takeTick_41 : decode cX2_takeTick 41 = .ok (.aload_n 0, 1) := by decide +kernel
theorem dX2_takeTick_42 : decode cX2_takeTick 42 = .ok (.iload_n 1, 1) := by decide +kernel
theorem dX2_takeTick_43 : decode cX2_takeTick 43 = .ok (.putfield 18, 3) := by decide +kernel
theorem dX2_takeTick_46 : decode cX2_takeTick 46 = .ok (.aload_n 0, 1) := by decide +kernel
theorem dX2_takeTick_47 : decode cX2_takeTick 47 = .ok (.iload_n 2, 1) := by decide +kernel
theorem dX2_takeTick_48 : decode cX2_takeTick 48 = .ok (.putfield 21, 3) := by decide +kernel
theorem dX2_takeTick_51 : decode cX2_takeTick 51 = .ok (.aload_n 0, 1) := by decide +kernel
theorem dX2_takeTick_52 : decode cX2_takeTick 52 = .ok (.dup, 1) := by decide +kernel
theorem dX2_takeTick_53 : decode cX2_takeTick 53 = .ok (.getfield 15, 3) := by decide +kernel
theorem dX2_takeTick_56 : decode cX2_takeTick 56 = .ok (.iload_n 1, 1) := by decide +kernel
theorem dX2_takeTick_57 : decode cX2_takeTick 57 = .ok (.iadd, 1) := by decide +kernel
theorem dX2_takeTick_58 : decode cX2_takeTick 58 = .ok (.putfield 15, 3) := by decide +kernel
theorem dX2_takeTick_61 : decode cX2_takeTick 61 = .ok (.aload_n 0, 1) := by decide +kernel
theorem dX2_takeTick_62 : decode cX2_takeTick 62 = .ok (.dup, 1) := by decide +kernel
theorem dX2_takeTick_63 : decode cX2_takeTick 63 = .ok (.getfield 24, 3) := by decide +kernel
theorem dX2_takeTick_66 : decode cX2_takeTick 66 = .ok (.iconst 1, 1) := by decide +kernel
theorem dX2_takeTick_67 : decode cX2_takeTick 67 = .ok (.iadd, 1) := by decide +kernel
theorem dX2_takeTick_68 : decode cX2_takeTick 68 = .ok (.putfield 24, 3) := by decide +kernel
theorem dX2_takeTick_71 : decode cX2_takeTick 71 = .ok (.aload_n 0, 1) := by decide +kernel
theorem dX2_takeTick_72 : decode cX2_takeTick 72 = .ok (.dup, 1) := by decide +kernel
theorem dX2_takeTick_73 : decode cX2_takeTick 73 = .ok (.getfield 40, 3) := by decide +kernel
theorem dX2_takeTick_76 : decode cX2_takeTick 76 = .ok (.iconst 1, 1) := by decide +kernel
theorem dX2_takeTick_77 : decode cX2_takeTick 77 = .ok (.isub, 1) := by decide +kernel
theorem dX2_takeTick_78 : decode cX2_takeTick 78 = .ok (.putfield 40, 3) := by decide +kernel
theorem dX2_takeTick_81 : decode cX2_takeTick 81 = .ok (.return_, 1) := by decide +kernel
theorem dX2_end_0 : decode cX2_end 0 = .ok (.aload_n 0, 1) := by decide +kernel
theorem dX2_end_1 : decode cX2_end 1 = .ok (.iconst 0, 1) := by decide +kernel
theorem dX2_end_2 : decode cX2_end 2 = .ok (.putfield 40, 3) := by decide +kernel
theorem dX2_end_5 : decode cX2_end 5 = .ok (.return_, 1) := by decide +kernel
theorem dX3_init_0 : decode cX3_init 0 = .ok (.aload_n 0, 1) := by decide +kernel
theorem dX3_init_1 : decode cX3_init 1 = .ok (.invokespecial 3, 3) := by decide +kernel
theorem dX3_init_4 : decode cX3_init 4 = .ok (.aload_n 0, 1) := by decide +kernel
theorem dX3_init_5 : decode cX3_init 5 = .ok (.sipush 23517, 3) := by decide +kernel
theorem dX3_init_8 : decode cX3_init 8 = .ok (.newarray .int, 2) := by decide +kernel
theorem dX3_init_10 : decode cX3_init 10 = .ok (.putfield 9, 3) := by decide +kernel
theorem dX3_init_13 : decode cX3_init 13 = .ok (.aload_n 0, 1) := by decide +kernel
theorem dX3_init_14 : decode cX3_init 14 = .ok (.sipush 23517, 3) := by decide +kernel
theorem dX3_init_17 : decode cX3_init 17 = .ok (.newarray .int, 2) := by decide +kernel
theorem dX3_init_19 : decode cX3_init 19 = .ok (.putfield 15, 3) := by decide +kernel
theorem dX3_init_22 : decode cX3_init 22 = .ok (.aload_n 0, 1) := by decide +kernel
theorem dX3_init_23 : decode cX3_init 23 = .ok (.iconst 0, 1) := by decide +kernel
theorem dX3_init_24 : decode cX3_init 24 = .ok (.putfield 18, 3) := by decide +kernel
theorem dX3_init_27 : decode cX3_init 27 = .ok (.aload_n 0, 1) := by decide +kernel
theorem dX3_init_28 : decode cX3_init 28 = .ok (.iconst 0, 1) := by decide +kernel
theorem dX3_init_29 : decode cX3_init 29 = .ok (.putfield 22, 3) := by decide +kernel
theorem dX3_init_32 : decode cX3_init 32 = .ok (.aload_n 0, 1) := by decide +kernel
theorem dX3_init_33 : decode cX3_init 33 = .ok (.iconst 0, 1) := by decide +kernel
theorem dX3_init_34 : decode cX3_init 34 = .ok (.putfield 25, 3) := by decide +kernel
theorem dX3_init_37 : decode cX3_init 37 = .ok (.return_, 1) := by decide +kernel
theorem dX3_ticksOf_0 : decode cX3_ticksOf 0 = .ok (.iload_n 2, 1) := by decide +kernel
theorem dX3_ticksOf_1 : decode cX3_ticksOf 1 = .ok (.iconst 0, 1) := by decide +kernel
theorem dX3_ticksOf_2 : decode cX3_ticksOf 2 = .ok (.sipush 200, 3) := by decide +kernel
theorem dX3_ticksOf_5 : decode cX3_ticksOf 5 = .ok (.invokestatic 28, 3) := by decide +kernel
theorem dX3_ticksOf_8 : decode cX3_ticksOf 8 = .ok (.ifCond .ne 5, 3) := by decide +kernel
theorem dX3_ticksOf_11 : decode cX3_ticksOf 11 = .ok (.iconst (-1), 1) := by decide +kernel
theorem dX3_ticksOf_12 : decode cX3_ticksOf 12 = .ok (.ireturn, 1) := by decide +kernel
theorem dX3_ticksOf_13 : decode cX3_ticksOf 13 = .ok (.aload_n 0, 1) := by decide +kernel
theorem dX3_ticksOf_14 : decode cX3_ticksOf 14 = .ok (.getfield 25, 3) := by decide +kernel
theorem dX3_ticksOf_17 : decode cX3_ticksOf 17 = .ok (.aload_n 1, 1) := by decide +kernel
theorem dX3_ticksOf_18 : decode cX3_ticksOf 18 = .ok (.getfield 32, 3) := by decide +kernel
theorem dX3_ticksOf_21 : decode cX3_ticksOf 21 = .ok (.if_icmp .eq 8, 3) := by decide +kernel
theorem dX3_ticksOf_24 : decode cX3_ticksOf 24 = .ok (.aload_n 0, 1) := by decide +kernel
theorem dX3_ticksOf_25 : decode cX3_ticksOf 25 = .ok (.aload_n 1, 1) := by decide +kernel
theorem dX3_ticksOf_26 : decode cX3_ticksOf 26 = .ok (.invokevirtual 35, 3) := by decide +kernel
theorem dX3_ticksOf_29 : decode cX3_ticksOf 29 = .ok (.aload_n 0, 1) := by decide +kernel
theorem dX3_ticksOf_30 : decode cX3_ticksOf 30 = .ok (.getfield 18, 3) := by decide +kernel
theorem dX3_ticksOf_33 : decode cX3_ticksOf 33 = .ok (.aload_n 0, 1) := by decide +kernel
theorem dX3_ticksOf_34 : decode cX3_ticksOf 34 = .ok (.getfield 22, 3) := by decide +kernel
theorem dX3_ticksOf_37 : decode cX3_ticksOf 37 = .ok (.if_icmp .ge 55, 3) := by decide +kernel
theorem dX3_ticksOf_40 : decode cX3_ticksOf 40 = .ok (.aload_n 0, 1) := by decide +kernel
theorem dX3_ticksOf_41 : decode cX3_ticksOf 41 = .ok (.getfield 15, 3) := by decide +kernel
theorem dX3_ticksOf_44 : decode cX3_ticksOf 44 = .ok (.aload_n 0, 1) := by decide +kernel
theorem dX3_ticksOf_45 : decode cX3_ticksOf 45 = .ok (.getfield 18, 3) := by decide +kernel
theorem dX3_ticksOf_48 : decode cX3_ticksOf 48 = .ok (.invokestatic 39, 3) := by decide +kernel
theorem dX3_ticksOf_51 : decode cX3_ticksOf 51 = .ok (.ifCond .eq 41, 3) := by decide +kernel
theorem dX3_ticksOf_54 : decode cX3_ticksOf 54 = .ok (.aload_n 0, 1) := by decide +kernel
theorem dX3_ticksOf_55 : decode cX3_ticksOf 55 = .ok (.iconst 0, 1) := by decide +kernel
theorem dX3_ticksOf_56 : decode cX3_ticksOf 56 = .ok (.iconst 0, 1) := by decide +kernel
theorem dX3_ticksOf_57 : decode cX3_ticksOf 57 = .ok (.iload_n 2, 1) := by decide +kernel
theorem dX3_ticksOf_58 : decode cX3_ticksOf 58 = .ok (.invokevirtual 43, 3) := by decide +kernel
theorem dX3_ticksOf_61 : decode cX3_ticksOf 61 = .ok (.iconst (-1), 1) := by decide +kernel
theorem dX3_ticksOf_62 : decode cX3_ticksOf 62 = .ok (.if_icmp .ne 30, 3) := by decide +kernel
theorem dX3_ticksOf_65 : decode cX3_ticksOf 65 = .ok (.aload_n 0, 1) := by decide +kernel
theorem dX3_ticksOf_66 : decode cX3_ticksOf 66 = .ok (.aload_n 1, 1) := by decide +kernel
theorem dX3_ticksOf_67 : decode cX3_ticksOf 67 = .ok (.aload_n 0, 1) := by decide +kernel
theorem dX3_ticksOf_68 : decode cX3_ticksOf 68 = .ok (.getfield 15, 3) := by decide +kernel
theorem dX3_ticksOf_71 : decode cX3_ticksOf 71 = .ok (.aload_n 0, 1) := by decide +kernel
theorem dX3_ticksOf_72 : decode cX3_ticksOf 72 = .ok (.getfield 18, 3) := by decide +kernel
theorem dX3_ticksOf_75 : decode cX3_ticksOf 75 = .ok (.iaload, 1) := by decide +kernel
theorem dX3_ticksOf_76 : decode cX3_ticksOf 76 = .ok (.invokevirtual 47, 3) := by decide +kernel
theorem dX3_ticksOf_79 : decode cX3_ticksOf 79 = .ok (.aload_n 0, 1) := by decide +kernel
theorem dX3_ticksOf_80 : decode cX3_ticksOf 80 = .ok (.dup, 1) := by decide +kernel
theorem dX3_ticksOf_81 : decode cX3_ticksOf 81 = .ok (.getfield 18, 3) := by decide +kernel
theorem dX3_ticksOf_84 : decode cX3_ticksOf 84 = .ok (.iconst 1, 1) := by decide +kernel
theorem dX3_ticksOf_85 : decode cX3_ticksOf 85 = .ok (.iadd, 1) := by decide +kernel
theorem dX3_ticksOf_86 : decode cX3_ticksOf 86 = .ok (.putfield 18, 3) := by decide +kernel
theorem dX3_ticksOf_89 : decode cX3_ticksOf 89 = .ok (.goto (-60), 3) := by decide +kernel
theorem dX3_ticksOf_92 : decode cX3_ticksOf 92 = .ok (.aload_n 0, 1) := by decide +kernel
theorem dX3_ticksOf_93 : decode cX3_ticksOf 93 = .ok (.iconst 0, 1) := by decide +kernel
theorem dX3_ticksOf_94 : decode cX3_ticksOf 94 = .ok (.iconst 0, 1) := by decide +kernel
theorem dX3_ticksOf_95 : decode cX3_ticksOf 95 = .ok (.iload_n 2, 1) := by decide +kernel
theorem dX3_ticksOf_96 : decode cX3_ticksOf 96 = .ok (.invokevirtual 43, 3) := by decide +kernel
theorem dX3_ticksOf_99 : decode cX3_ticksOf 99 = .ok (.ireturn, 1) := by decide +kernel
theorem dX3_speedIn_0 : decode cX3_speedIn 0 = .ok (.iconst 0, 1) := by decide +kernel
theorem dX3_speedIn_1 : decode cX3_speedIn 1 = .ok (.istore 4, 2) := by decide +kernel
theorem dX3_speedIn_3 : decode cX3_speedIn 3 = .ok (.iconst 0, 1) := by decide +kernel
theorem dX3_speedIn_4 : decode cX3_speedIn 4 = .ok (.istore 5, 2) := by decide +kernel
theorem dX3_speedIn_6 : decode cX3_speedIn 6 = .ok (.iload_n 2, 1) := by decide +kernel
theorem dX3_speedIn_7 : decode cX3_speedIn 7 = .ok (.istore 6, 2) := by decide +kernel
theorem dX3_speedIn_9 : decode cX3_speedIn 9 = .ok (.iconst 0, 1) := by decide +kernel
theorem dX3_speedIn_10 : decode cX3_speedIn 10 = .ok (.istore 7, 2) := by decide +kernel
theorem dX3_speedIn_12 : decode cX3_speedIn 12 = .ok (.iload 7, 2) := by decide +kernel
theorem dX3_speedIn_14 : decode cX3_speedIn 14 = .ok (.iload_n 3, 1) := by decide +kernel
theorem dX3_speedIn_15 : decode cX3_speedIn 15 = .ok (.if_icmp .gt 44, 3) := by decide +kernel
theorem dX3_speedIn_18 : decode cX3_speedIn 18 = .ok (.aload_n 0, 1) := by decide +kernel
theorem dX3_speedIn_19 : decode cX3_speedIn 19 = .ok (.aload_n 1, 1) := by decide +kernel
theorem dX3_speedIn_20 : decode cX3_speedIn 20 = .ok (.iload 4, 2) := by decide +kernel
theorem dX3_speedIn_22 : decode cX3_speedIn 22 = .ok (.iload 5, 2) := by decide +kernel
theorem dX3_speedIn_24 : decode cX3_speedIn 24 = .ok (.iload 6, 2) := by decide +kernel
theorem dX3_speedIn_26 : decode cX3_speedIn 26 = .ok (.invokevirtual 51, 3) := by decide +kernel
theorem dX3_speedIn_29 : decode cX3_speedIn 29 = .ok (.istore 5, 2) := by decide +kernel
theorem dX3_speedIn_31 : decode cX3_speedIn 31 = .ok (.iload 5, 2) := by decide +kernel
theorem dX3_speedIn_33 : decode cX3_speedIn 33 = .ok (.iconst 5, 1) := by decide +kernel
theorem dX3_speedIn_34 : decode cX3_speedIn 34 = .ok (.if_icmp .ne 5, 3) := by decide +kernel
theorem dX3_speedIn_37 : decode cX3_speedIn 37 = .ok (.iconst (-1), 1) := by decide +kernel
theorem dX3_speedIn_38 : decode cX3_speedIn 38 = .ok (.ireturn, 1) := by decide +kernel
theorem dX3_speedIn_39 : decode cX3_speedIn 39 = .ok (.iload 4, 2) := by decide +kernel
theorem dX3_speedIn_41 : decode cX3_speedIn 41 = .ok (.iload 5, 2) := by decide +kernel
theorem dX3_speedIn_43 : decode cX3_speedIn 43 = .ok (.iadd, 1) := by decide +kernel
theorem dX3_speedIn_44 : decode cX3_speedIn 44 = .ok (.istore 4, 2) := by decide +kernel
theorem dX3_speedIn_46 : decode cX3_speedIn 46 = .ok (.iload 6, 2) := by decide +kernel
theorem dX3_speedIn_48 : decode cX3_speedIn 48 = .ok (.iload 4, 2) := by decide +kernel
theorem dX3_speedIn_50 : decode cX3_speedIn 50 = .ok (.isub, 1) := by decide +kernel
theorem dX3_speedIn_51 : decode cX3_speedIn 51 = .ok (.istore 6, 2) := by decide +kernel
theorem dX3_speedIn_53 : decode cX3_speedIn 53 = .ok (.iinc 7 1, 3) := by decide +kernel
theorem dX3_speedIn_56 : decode cX3_speedIn 56 = .ok (.goto (-44), 3) := by decide +kernel
theorem dX3_speedIn_59 : decode cX3_speedIn 59 = .ok (.iload 4, 2) := by decide +kernel
theorem dX3_speedIn_61 : decode cX3_speedIn 61 = .ok (.ireturn, 1) := by decide +kernel
theorem dX3_nextChange_0 : decode cX3_nextChange 0 = .ok (.aload_n 0, 1) := by decide +kernel
theorem dX3_nextChange_1 : decode cX3_nextChange 1 = .ok (.iload_n 2, 1) := by decide +kernel
theorem dX3_nextChange_2 : decode cX3_nextChange 2 = .ok (.iload_n 3, 1) := by decide +kernel
theorem dX3_nextChange_3 : decode cX3_nextChange 3 = .ok (.iload 4, 2) := by decide +kernel
theorem dX3_nextChange_5 : decode cX3_nextChange 5 = .ok (.invokevirtual 43, 3) := by decide +kernel
theorem dX3_nextChange_8 : decode cX3_nextChange 8 = .ok (.istore 5, 2) := by decide +kernel
theorem dX3_nextChange_10 : decode cX3_nextChange 10 = .ok (.iload 5, 2) := by decide +kernel
theorem dX3_nextChange_12 : decode cX3_nextChange 12 = .ok (.iconst 1, 1) := by decide +kernel
theorem dX3_nextChange_13 : decode cX3_nextChange 13 = .ok (.if_icmp .ge 5, 3) := by decide +kernel
theorem dX3_nextChange_16 : decode cX3_nextChange 16 = .ok (.iconst 5, 1) := by decide +kernel
theorem dX3_nextChange_17 : decode cX3_nextChange 17 = .ok (.ireturn, 1) := by decide +kernel
theorem dX3_nextChange_18 : decode cX3_nextChange 18 = .ok (.aload_n 1, 1) := by decide +kernel
theorem dX3_nextChange_19 : decode cX3_nextChange 19 = .ok (.iload_n 3, 1) := by decide +kernel
theorem dX3_nextChange_20 : decode cX3_nextChange 20 = .ok (.invokevirtual 55, 3) := by decide +kernel
theorem dX3_nextChange_23 : decode cX3_nextChange 23 = .ok (.istore 6, 2) := by decide +kernel
theorem dX3_nextChange_25 : decode cX3_nextChange 25 = .ok (.aload_n 1, 1) := by decide +kernel
theorem dX3_nextChange_26 : decode cX3_nextChange 26 = .ok (.iload_n 3, 1) := by decide +kernel
theorem dX3_nextChange_27 : decode cX3_nextChange 27 = .ok (.invokevirtual 59, 3) := by decide +kernel
theorem dX3_nextChange_30 : decode cX3_nextChange 30 = .ok (.istore 7, 2) := by decide +kernel
theorem dX3_nextChange_32 : decode cX3_nextChange 32 = .ok (.iload 7, 2) := by decide +kernel
theorem dX3_nextChange_34 : decode cX3_nextChange 34 = .ok (.iload 6, 2) := by decide +kernel
theorem dX3_nextChange_36 : decode cX3_nextChange 36 = .ok (.if_icmp .lt 53, 3) := by decide +kernel
theorem dX3_nextChange_39 : decode cX3_nextChange 39 = .ok (.iload_n 2, 1) := by decide +kernel
theorem dX3_nextChange_40 : decode cX3_nextChange 40 = .ok (.iload 7, 2) := by decide +kernel
theorem dX3_nextChange_42 : decode cX3_nextChange 42 = .ok (.iadd, 1) := by decide +kernel
theorem dX3_nextChange_43 : decode cX3_nextChange 43 = .ok (.istore 8, 2) := by decide +kernel
theorem dX3_nextChange_45 : decode cX3_nextChange 45 = .ok (.aload_n 1, 1) := by decide +kernel
theorem dX3_nextChange_46 : decode cX3_nextChange 46 = .ok (.iload 8, 2) := by decide +kernel
theorem dX3_nextChange_48 : decode cX3_nextChange 48 = .ok (.iload 7, 2) := by decide +kernel
theorem dX3_nextChange_50 : decode cX3_nextChange 50 = .ok (.aload_n 1, 1) := by decide +kernel
theorem dX3_nextChange_51 : decode cX3_nextChange 51 = .ok (.getfield 62, 3) := by decide +kernel
theorem dX3_nextChange_54 : decode cX3_nextChange 54 = .ok (.invokevirtual 66, 3) := by decide +kernel
theorem dX3_nextChange_57 : decode cX3_nextChange 57 = .ok (.ifCond .eq 26, 3) := by decide +kernel
theorem dX3_nextChange_60 : decode cX3_nextChange 60 = .ok (.aload_n 0, 1) := by decide +kernel
theorem dX3_nextChange_61 : decode cX3_nextChange 61 = .ok (.iload 8, 2) := by decide +kernel
theorem dX3_nextChange_63 : decode cX3_nextChange 63 = .ok (.iload 7, 2) := by decide +kernel
theorem dX3_nextChange_65 : decode cX3_nextChange 65 = .ok (.iload 4, 2) := by decide +kernel
theorem dX3_nextChange_67 : decode cX3_nextChange 67 = .ok (.iload 8, 2) := by decide +kernel
theorem dX3_nextChange_69 : decode cX3_nextChange 69 = .ok (.isub, 1) := by decide +kernel
theorem dX3_nextChange_70 : decode cX3_nextChange 70 = .ok (.invokevirtual 43, 3) := by decide +kernel
theorem dX3_nextChange_73 : decode cX3_nextChange 73 = .ok (.iload 5, 2) := by decide +kernel
theorem dX3_nextChange_75 : decode cX3_nextChange 75 = .ok (.iconst 1, 1) := by decide +kernel
theorem dX3_nextChange_76 : decode cX3_nextChange 76 = .ok (.isub, 1) := by decide +kernel
theorem dX3_nextChange_77 : decode cX3_nextChange 77 = .ok (.if_icmp .ne 6, 3) := by decide +kernel
theorem dX3_nextChange_80 : decode cX3_nextChange 80 = .ok (.iload 7, 2) := by decide +kernel
theorem dX3_nextChange_82 : decode cX3_nextChange 82 = .ok (.ireturn, 1) := by decide +kernel
theorem dX3_nextChange_83 : decode cX3_nextChange 83 = .ok (.iinc 7 (-1), 3) := by decide +kernel
theorem dX3_nextChange_86 : decode cX3_nextChange 86 = .ok (.goto (-54), 3) := by decide +kernel
theorem dX3_nextChange_89 : decode cX3_nextChange 89 = .ok (.iconst 5, 1) := by decide +kernel
theorem dX3_nextChange_90 : decode cX3_nextChange 90 = .ok (.ireturn, 1) := by decide +kernel
theorem dX3_begin_0 : decode cX3_begin 0 = .ok (.aload_n 0, 1) := by decide +kernel
theorem dX3_begin_1 : decode cX3_begin 1 = .ok (.aload_n 1, 1) := by decide +kernel
theorem dX3_begin_2 : decode cX3_begin 2 = .ok (.getfield 32, 3) := by decide +kernel
theorem dX3_begin_5 : decode cX3_begin 5 = .ok (.putfield 25, 3) := by decide +kernel
theorem dX3_begin_8 : decode cX3_begin 8 = .ok (.aload_n 0, 1) := by decide +kernel
theorem dX3_begin_9 : decode cX3_begin 9 = .ok (.getfield 9, 3) := by decide +kernel
theorem dX3_begin_12 : decode cX3_begin 12 = .ok (.iconst (-1), 1) := by decide +kernel
theorem dX3_begin_13 : decode cX3_begin 13 = .ok (.invokestatic 70, 3) := by decide +kernel
theorem dX3_begin_16 : decode cX3_begin 16 = .ok (.aload_n 0, 1) := by decide +kernel
theorem dX3_begin_17 : decode cX3_begin 17 = .ok (.iconst 0, 1) := by decide +kernel
theorem dX3_begin_18 : decode cX3_begin 18 = .ok (.putfield 18, 3) := by decide +kernel
theorem dX3_begin_21 : decode cX3_begin 21 = .ok (.aload_n 0, 1) := by decide +kernel
theorem dX3_begin_22 : decode cX3_begin 22 = .ok (.iconst 0, 1) := by decide +kernel
theorem dX3_begin_23 : decode cX3_begin 23 = .ok (.putfield 22, 3) := by decide +kernel
theorem dX3_begin_26 : decode cX3_begin 26 = .ok (.bipush (-4), 2) := by decide +kernel
theorem dX3_begin_28 : decode cX3_begin 28 = .ok (.istore_n 2, 1) := by decide +kernel
theorem dX3_begin_29 : decode cX3_begin 29 = .ok (.iload_n 2, 1) := by decide +kernel
theorem dX3_begin_30 : decode cX3_begin 30 = .ok (.iconst 4, 1) := by decide +kernel
theorem dX3_begin_31 : decode cX3_begin 31 = .ok (.if_icmp .gt 29, 3) := by decide +kernel
theorem dX3_begin_34 : decode cX3_begin 34 = .ok (.aload_n 1, 1) := by decide +kernel
theorem dX3_begin_35 : decode cX3_begin 35 = .ok (.iconst 0, 1) := by decide +kernel
theorem dX3_begin_36 : decode cX3_begin 36 = .ok (.iload_n 2, 1) := by decide +kernel
theorem dX3_begin_37 : decode cX3_begin 37 = .ok (.invokevirtual 76, 3) := by decide +kernel
theorem dX3_begin_40 : decode cX3_begin 40 = .ok (.ifCond .eq 14, 3) := by decide +kernel
theorem dX3_begin_43 : decode cX3_begin 43 = .ok (.aload_n 0, 1) := by decide +kernel
theorem dX3_begin_44 : decode cX3_begin 44 = .ok (.iconst 0, 1) := by decide +kernel
theorem dX3_begin_45 : decode cX3_begin 45 = .ok (.iload_n 2, 1) := by decide +kernel
theorem dX3_begin_46 : decode cX3_begin 46 = .ok (.iconst 0, 1) := by decide +kernel
theorem dX3_begin_47 : decode cX3_begin 47 = .ok (.invokestatic 80, 3) := by decide +kernel
theorem dX3_begin_50 : decode cX3_begin 50 = .ok (.iconst 0, 1) := by decide +kernel
theorem dX3_begin_51 : decode cX3_begin 51 = .ok (.invokevirtual 83, 3) := by decide +kernel
theorem dX3_begin_54 : decode cX3_begin 54 = .ok (.iinc 2 1, 3) := by decide +kernel
theorem dX3_begin_57 : decode cX3_begin 57 = .ok (.goto (-28), 3) := by decide +kernel
theorem dX3_begin_60 : decode cX3_begin 60 = .ok (.return_, 1) := by decide +kernel
theorem dX3_lookBehind_0 : decode cX3_lookBehind 0 = .ok (.iload_n 2, 1) := by decide +kernel
theorem dX3_lookBehind_1 : decode cX3_lookBehind 1 = .ok (.sipush 201, 3) := by decide +kernel
theorem dX3_lookBehind_4 : decode cX3_lookBehind 4 = .ok (.idiv, 1) := by decide +kernel
theorem dX3_lookBehind_5 : decode cX3_lookBehind 5 = .ok (.istore_n 3, 1) := by decide +kernel
theorem dX3_lookBehind_6 : decode cX3_lookBehind 6 = .ok (.iload_n 3, 1) := by decide +kernel
theorem dX3_lookBehind_7 : decode cX3_lookBehind 7 = .ok (.bipush 9, 2) := by decide +kernel
theorem dX3_lookBehind_9 : decode cX3_lookBehind 9 = .ok (.idiv, 1) := by decide +kernel
theorem dX3_lookBehind_10 : decode cX3_lookBehind 10 = .ok (.istore 4, 2) := by decide +kernel
theorem dX3_lookBehind_12 : decode cX3_lookBehind 12 = .ok (.iload_n 3, 1) := by decide +kernel
theorem dX3_lookBehind_13 : decode cX3_lookBehind 13 = .ok (.bipush 9, 2) := by decide +kernel
theorem dX3_lookBehind_15 : decode cX3_lookBehind 15 = .ok (.irem, 1) := by decide +kernel
theorem dX3_lookBehind_16 : decode cX3_lookBehind 16 = .ok (.iconst 4, 1) := by decide +kernel
theorem dX3_lookBehind_17 : decode cX3_lookBehind 17 = .ok (.isub, 1) := by decide +kernel
theorem dX3_lookBehind_18 : decode cX3_lookBehind 18 = .ok (.istore 5, 2) := by decide +kernel
theorem dX3_lookBehind_20 : decode cX3_lookBehind 20 = .ok (.iload 4, 2) := by decide +kernel
theorem dX3_lookBehind_22 : decode cX3_lookBehind 22 = .ok (.iload 5, 2) := by decide +kernel
theorem dX3_lookBehind_24 : decode cX3_lookBehind 24 = .ok (.isub, 1) := by decide +kernel
theorem dX3_lookBehind_25 : decode cX3_lookBehind 25 = .ok (.istore 6, 2) := by decide +kernel
theorem dX3_lookBehind_27 : decode cX3_lookBehind 27 = .ok (.iload_n 2, 1) := by decide +kernel
theorem dX3_lookBehind_28 : decode cX3_lookBehind 28 = .ok (.sipush 201, 3) := by decide +kernel
theorem dX3_lookBehind_31 : decode cX3_lookBehind 31 = .ok (.irem, 1) := by decide +kernel
theorem dX3_lookBehind_32 : decode cX3_lookBehind 32 = .ok (.istore 7, 2) := by decide +kernel
theorem dX3_lookBehind_34 : decode cX3_lookBehind 34 = .ok (.iload 7, 2) := by decide +kernel
theorem dX3_lookBehind_36 : decode cX3_lookBehind 36 = .ok (.iload 4, 2) := by decide +kernel
theorem dX3_lookBehind_38 : decode cX3_lookBehind 38 = .ok (.iadd, 1) := by decide +kernel
theorem dX3_lookBehind_39 : decode cX3_lookBehind 39 = .ok (.istore 8, 2) := by decide +kernel
theorem dX3_lookBehind_41 : decode cX3_lookBehind 41 = .ok (.iload 8, 2) := by decide +kernel
theorem dX3_lookBehind_43 : decode cX3_lookBehind 43 = .ok (.sipush 200, 3) := by decide +kernel
theorem dX3_lookBehind_46 : decode cX3_lookBehind 46 = .ok (.if_icmp .gt 27, 3) := by decide +kernel
theorem dX3_lookBehind_49 : decode cX3_lookBehind 49 = .ok (.aload_n 1, 1) := by decide +kernel
theorem dX3_lookBehind_50 : decode cX3_lookBehind 50 = .ok (.iload 6, 2) := by decide +kernel
theorem dX3_lookBehind_52 : decode cX3_lookBehind 52 = .ok (.invokevirtual 87, 3) := by decide +kernel
theorem dX3_lookBehind_55 : decode cX3_lookBehind 55 = .ok (.ifCond .eq 18, 3) := by decide +kernel
theorem dX3_lookBehind_58 : decode cX3_lookBehind 58 = .ok (.aload_n 1, 1) := by decide +kernel
theorem dX3_lookBehind_59 : decode cX3_lookBehind 59 = .ok (.iload 4, 2) := by decide +kernel
theorem dX3_lookBehind_61 : decode cX3_lookBehind 61 = .ok (.iload 5, 2) := by decide +kernel
theorem dX3_lookBehind_63 : decode cX3_lookBehind 63 = .ok (.aload_n 1, 1) := by decide +kernel
theorem dX3_lookBehind_64 : decode cX3_lookBehind 64 = .ok (.getfield 62, 3) := by decide +kernel
theorem dX3_lookBehind_67 : decode cX3_lookBehind 67 = .ok (.invokevirtual 66, 3) := by decide +kernel
theorem dX3_lookBehind_70 : decode cX3_lookBehind 70 = .ok (.ifCond .ne 4, 3) := by decide +kernel
theorem dX3_lookBehind_73 : decode cX3_lookBehind 73 = .ok (.return_, 1) := by decide +kernel
theorem dX3_lookBehind_74 : decode cX3_lookBehind 74 = .ok (.aload_n 0, 1) := by decide +kernel
theorem dX3_lookBehind_75 : decode cX3_lookBehind 75 = .ok (.iload 4, 2) := by decide +kernel
theorem dX3_lookBehind_77 : decode cX3_lookBehind 77 = .ok (.iload 5, 2) := by decide +kernel
theorem dX3_lookBehind_79 : decode cX3_lookBehind 79 = .ok (.iload 7, 2) := by decide +kernel
theorem dX3_lookBehind_81 : decode cX3_lookBehind 81 = .ok (.invokevirtual 43, 3) := by decide +kernel
theorem dX3_lookBehind_84 : decode cX3_lookBehind 84 = .ok (.iconst 1, 1) := by decide +kernel
theorem dX3_lookBehind_85 : decode cX3_lookBehind 85 = .ok (.iadd, 1) := by decide +kernel
theorem dX3_lookBehind_86 : decode cX3_lookBehind 86 = .ok (.istore 9, 2) := by decide +kernel
theorem dX3_lookBehind_88 : decode cX3_lookBehind 88 = .ok (.aload_n 1, 1) := by decide +kernel
theorem dX3_lookBehind_89 : decode cX3_lookBehind 89 = .ok (.iload 5, 2) := by decide +kernel
theorem dX3_lookBehind_91 : decode cX3_lookBehind 91 = .ok (.invokevirtual 59, 3) := by decide +kernel
theorem dX3_lookBehind_94 : decode cX3_lookBehind 94 = .ok (.istore 10, 2) := by decide +kernel
theorem dX3_lookBehind_96 : decode cX3_lookBehind 96 = .ok (.aload_n 1, 1) := by decide +kernel
theorem dX3_lookBehind_97 : decode cX3_lookBehind 97 = .ok (.iload 5, 2) := by decide +kernel
theorem dX3_lookBehind_99 : decode cX3_lookBehind 99 = .ok (.invokevirtual 55, 3) := by decide +kernel
theorem dX3_lookBehind_102 : decode cX3_lookBehind 102 = .ok (.istore 11, 2) := by decide +kernel
theorem dX3_lookBehind_104 : decode cX3_lookBehind 104 = .ok (.iload 11, 2) := by decide +kernel
theorem dX3_lookBehind_106 : decode cX3_lookBehind 106 = .ok (.iload 10, 2) := by decide +kernel
theorem dX3_lookBehind_108 : decode cX3_lookBehind 108 = .ok (.if_icmp .gt 24, 3) := by decide +kernel
theorem dX3_lookBehind_111 : decode cX3_lookBehind 111 = .ok (.aload_n 0, 1) := by decide +kernel
theorem dX3_lookBehind_112 : decode cX3_lookBehind 112 = .ok (.iload 6, 2) := by decide +kernel
theorem dX3_lookBehind_114 : decode cX3_lookBehind 114 = .ok (.iload 11, 2) := by decide +kernel
theorem dX3_lookBehind_116 : decode cX3_lookBehind 116 = .ok (.iload 8, 2) := by decide +kernel
theorem dX3_lookBehind_118 : decode cX3_lookBehind 118 = .ok (.invokestatic 80, 3) := by decide +kernel
theorem dX3_lookBehind_121 : decode cX3_lookBehind 121 = .ok (.iload 9, 2) := by decide +kernel
theorem dX3_lookBehind_123 : decode cX3_lookBehind 123 = .ok (.invokevirtual 83, 3) := by decide +kernel
theorem dX3_lookBehind_126 : decode cX3_lookBehind 126 = .ok (.iinc 11 1, 3) := by decide +kernel
theorem dX3_lookBehind_129 : decode cX3_lookBehind 129 = .ok (.goto (-25), 3) := by decide +kernel
theorem dX3_lookBehind_132 : decode cX3_lookBehind 132 = .ok (.return_, 1) := by decide +kernel
theorem dX3_find_0 : decode cX3_find 0 = .ok (.aload_n 0, 1) := by decide +kernel
theorem dX3_find_1 : decode cX3_find 1 = .ok (.getfield 9, 3) := by decide +kernel
theorem dX3_find_4 : decode cX3_find 4 = .ok (.iload_n 1, 1) := by decide +kernel
theorem dX3_find_5 : decode cX3_find 5 = .ok (.invokestatic 39, 3) := by decide +kernel
theorem dX3_find_8 : decode cX3_find 8 = .ok (.ifCond .eq 54, 3) := by decide +kernel
theorem dX3_find_11 : decode cX3_find 11 = .ok (.aload_n 0, 1) := by decide +kernel
theorem dX3_find_12 : decode cX3_find 12 = .ok (.getfield 9, 3) := by decide +kernel
theorem dX3_find_15 : decode cX3_find 15 = .ok (.iload_n 1, 1) := by decide +kernel
theorem dX3_find_16 : decode cX3_find 16 = .ok (.iaload, 1) := by decide +kernel
theorem dX3_find_17 : decode cX3_find 17 = .ok (.iconst (-1), 1) := by decide +kernel
theorem dX3_find_18 : decode cX3_find 18 = .ok (.if_icmp .ne 44, 3) := by decide +kernel
theorem dX3_find_21 : decode cX3_find 21 = .ok (.aload_n 0, 1) := by decide +kernel
theorem dX3_find_22 : decode cX3_find 22 = .ok (.getfield 15, 3) := by decide +kernel
theorem dX3_find_25 : decode cX3_find 25 = .ok (.aload_n 0, 1) := by decide +kernel
theorem dX3_find_26 : decode cX3_find 26 = .ok (.getfield 22, 3) := by decide +kernel
theorem dX3_find_29 : decode cX3_find 29 = .ok (.invokestatic 39, 3) := by decide +kernel
theorem dX3_find_32 : decode cX3_find 32 = .ok (.ifCond .eq 30, 3) := by decide +kernel
theorem dX3_find_35 : decode cX3_find 35 = .ok (.aload_n 0, 1) := by decide +kernel
theorem dX3_find_36 : decode cX3_find 36 = .ok (.getfield 9, 3) := by decide +kernel
theorem dX3_find_39 : decode cX3_find 39 = .ok (.iload_n 1, 1) := by decide +kernel
theorem dX3_find_40 : decode cX3_find 40 = .ok (.iload_n 2, 1) := by decide +kernel
theorem dX3_find_41 : decode cX3_find 41 = .ok (.iastore, 1) := by decide +kernel
theorem dX3_find_42 : decode cX3_find 42 = .ok (.aload_n 0, 1) := by decide +kernel
theorem dX3_find_43 : decode cX3_find 43 = .ok (.getfield 15, 3) := by decide +kernel
theorem dX3_find_46 : decode cX3_find 46 = .ok (.aload_n 0, 1) := by decide +kernel
theorem dX3_find_47 : decode cX3_find 47 = .ok (.getfield 22, 3) := by decide +kernel
theorem dX3_find_50 : decode cX3_find 50 = .ok (.iload_n 1, 1) := by decide +kernel
theorem dX3_find_51 : decode cX3_find 51 = .ok (.iastore, 1) := by decide +kernel
theorem dX3_find_52 : decode cX3_find 52 = .ok (.aload_n 0, 1) := by decide +kernel
theorem dX3_find_53 : decode cX3_find 53 = .ok (.dup, 1) := by decide +kernel
theorem dX3_find_54 : decode cX3_find 54 = .ok (.getfield 22, 3) := by decide +kernel
theorem dX3_find_57 : decode cX3_find 57 = .ok (.iconst 1, 1) := by decide +kernel
theorem dX3_find_58 : decode cX3_find 58 = .ok (.iadd, 1) := by decide +kernel
theorem dX3_find_59 : decode cX3_find 59 = .ok (.putfield 22, 3) := by decide +kernel
theorem dX3_find_62 : decode cX3_find 62 = .ok (.return_, 1) := by decide +kernel
theorem dX3_ticksAt_0 : decode cX3_ticksAt 0 = .ok (.iload_n 1, 1) := by decide +kernel
theorem dX3_ticksAt_1 : decode cX3_ticksAt 1 = .ok (.iload_n 2, 1) := by decide +kernel
theorem dX3_ticksAt_2 : decode cX3_ticksAt 2 = .ok (.iload_n 3, 1) := by decide +kernel
theorem dX3_ticksAt_3 : decode cX3_ticksAt 3 = .ok (.invokestatic 80, 3) := by decide +kernel
theorem dX3_ticksAt_6 : decode cX3_ticksAt 6 = .ok (.istore 4, 2) := by decide +kernel
theorem dX3_ticksAt_8 : decode cX3_ticksAt 8 = .ok (.iload_n 3, 1) := by decide +kernel
theorem dX3_ticksAt_9 : decode cX3_ticksAt 9 = .ok (.iconst 0, 1) := by decide +kernel
theorem dX3_ticksAt_10 : decode cX3_ticksAt 10 = .ok (.sipush 200, 3) := by decide +kernel
theorem dX3_ticksAt_13 : decode cX3_ticksAt 13 = .ok (.invokestatic 28, 3) := by decide +kernel
theorem dX3_ticksAt_16 : decode cX3_ticksAt 16 = .ok (.ifCond .eq 25, 3) := by decide +kernel
theorem dX3_ticksAt_19 : decode cX3_ticksAt 19 = .ok (.aload_n 0, 1) := by decide +kernel
theorem dX3_ticksAt_20 : decode cX3_ticksAt 20 = .ok (.getfield 9, 3) := by decide +kernel
theorem dX3_ticksAt_23 : decode cX3_ticksAt 23 = .ok (.iload 4, 2) := by decide +kernel
theorem dX3_ticksAt_25 : decode cX3_ticksAt 25 = .ok (.invokestatic 39, 3) := by decide +kernel
theorem dX3_ticksAt_28 : decode cX3_ticksAt 28 = .ok (.ifCond .eq 13, 3) := by decide +kernel
theorem dX3_ticksAt_31 : decode cX3_ticksAt 31 = .ok (.aload_n 0, 1) := by decide +kernel
theorem dX3_ticksAt_32 : decode cX3_ticksAt 32 = .ok (.getfield 9, 3) := by decide +kernel
theorem dX3_ticksAt_35 : decode cX3_ticksAt 35 = .ok (.iload 4, 2) := by decide +kernel
theorem dX3_ticksAt_37 : decode cX3_ticksAt 37 = .ok (.iaload, 1) := by decide +kernel
theorem dX3_ticksAt_38 : decode cX3_ticksAt 38 = .ok (.goto 4, 3) := by decide +kernel
theorem dX3_ticksAt_41 : decode cX3_ticksAt 41 = .ok (.iconst (-1), 1) := by decide +kernel
theorem dX3_ticksAt_42 : decode cX3_ticksAt 42 = .ok (.ireturn, 1) := by decide +kernel
theorem dX3_nodeOf_0 : decode cX3_nodeOf 0 = .ok (.iload_n 0, 1) := by decide +kernel
theorem dX3_nodeOf_1 : decode cX3_nodeOf 1 = .ok (.iload_n 1, 1) := by decide +kernel
theorem dX3_nodeOf_2 : decode cX3_nodeOf 2 = .ok (.invokestatic 91, 3) := by decide +kernel
theorem dX3_nodeOf_5 : decode cX3_nodeOf 5 = .ok (.sipush 201, 3) := by decide +kernel
theorem dX3_nodeOf_8 : decode cX3_nodeOf 8 = .ok (.imul, 1) := by decide +kernel
theorem dX3_nodeOf_9 : decode cX3_nodeOf 9 = .ok (.iload_n 2, 1) := by decide +kernel
theorem dX3_nodeOf_10 : decode cX3_nodeOf 10 = .ok (.iadd, 1) := by decide +kernel
theorem dX3_nodeOf_11 : decode cX3_nodeOf 11 = .ok (.ireturn, 1) := by decide +kernel
theorem dX4_init_0 : decode cX4_init 0 = .ok (.aload_n 0, 1) := by decide +kernel
theorem dX4_init_1 : decode cX4_init 1 = .ok (.invokespecial 3, 3) := by decide +kernel
theorem dX4_init_4 : decode cX4_init 4 = .ok (.aload_n 0, 1) := by decide +kernel
theorem dX4_init_5 : decode cX4_init 5 = .ok (.bipush 6, 2) := by decide +kernel
theorem dX4_init_7 : decode cX4_init 7 = .ok (.putfield 9, 3) := by decide +kernel
theorem dX4_init_10 : decode cX4_init 10 = .ok (.aload_n 0, 1) := by decide +kernel
theorem dX4_init_11 : decode cX4_init 11 = .ok (.iconst 2, 1) := by decide +kernel
theorem dX4_init_12 : decode cX4_init 12 = .ok (.putfield 15, 3) := by decide +kernel
theorem dX4_init_15 : decode cX4_init 15 = .ok (.aload_n 0, 1) := by decide +kernel
theorem dX4_init_16 : decode cX4_init 16 = .ok (.iconst 1, 1) := by decide +kernel
theorem dX4_init_17 : decode cX4_init 17 = .ok (.putfield 18, 3) := by decide +kernel
theorem dX4_init_20 : decode cX4_init 20 = .ok (.aload_n 0, 1) := by decide +kernel
theorem dX4_init_21 : decode cX4_init 21 = .ok (.iconst 0, 1) := by decide +kernel
theorem dX4_init_22 : decode cX4_init 22 = .ok (.putfield 21, 3) := by decide +kernel
theorem dX4_init_25 : decode cX4_init 25 = .ok (.aload_n 0, 1) := by decide +kernel
theorem dX4_init_26 : decode cX4_init 26 = .ok (.iconst 0, 1) := by decide +kernel
theorem dX4_init_27 : decode cX4_init 27 = .ok (.putfield 24, 3) := by decide +kernel
theorem dX4_init_30 : decode cX4_init 30 = .ok (.aload_n 0, 1) := by decide +kernel
theorem dX4_init_31 : decode cX4_init 31 = .ok (.bipush 13, 2) := by decide +kernel
theorem dX4_init_33 : decode cX4_init 33 = .ok (.newarray .boolean, 2) := by decide +kernel
theorem dX4_init_35 : decode cX4_init 35 = .ok (.putfield 27, 3) := by decide +kernel
theorem dX4_init_38 : decode cX4_init 38 = .ok (.aload_n 0, 1) := by decide +kernel
theorem dX4_init_39 : decode cX4_init 39 = .ok (.bipush 13, 2) := by decide +kernel
theorem dX4_init_41 : decode cX4_init 41 = .ok (.newarray .int, 2) := by decide +kernel
theorem dX4_init_43 : decode cX4_init 43 = .ok (.putfield 31, 3) := by decide +kernel
theorem dX4_init_46 : decode cX4_init 46 = .ok (.aload_n 0, 1) := by decide +kernel
theorem dX4_init_47 : decode cX4_init 47 = .ok (.iconst 0, 1) := by decide +kernel
theorem dX4_init_48 : decode cX4_init 48 = .ok (.putfield 35, 3) := by decide +kernel
theorem dX4_init_51 : decode cX4_init 51 = .ok (.aload_n 0, 1) := by decide +kernel
theorem dX4_init_52 : decode cX4_init 52 = .ok (.iconst 1, 1) := by decide +kernel
theorem dX4_init_53 : decode cX4_init 53 = .ok (.putfield 39, 3) := by decide +kernel
theorem dX4_init_56 : decode cX4_init 56 = .ok (.aload_n 0, 1) := by decide +kernel
theorem dX4_init_57 : decode cX4_init 57 = .ok (.getfield 31, 3) := by decide +kernel
theorem dX4_init_60 : decode cX4_init 60 = .ok (.bipush 100, 2) := by decide +kernel
theorem dX4_init_62 : decode cX4_init 62 = .ok (.invokestatic 42, 3) := by decide +kernel
theorem dX4_init_65 : decode cX4_init 65 = .ok (.return_, 1) := by decide +kernel
theorem dX4_tellLimits_0 : decode cX4_tellLimits 0 = .ok (.aload_n 0, 1) := by decide +kernel
theorem dX4_tellLimits_1 : decode cX4_tellLimits 1 = .ok (.iload_n 1, 1) := by decide +kernel
theorem dX4_tellLimits_2 : decode cX4_tellLimits 2 = .ok (.putfield 9, 3) := by decide +kernel
theorem dX4_tellLimits_5 : decode cX4_tellLimits 5 = .ok (.aload_n 0, 1) := by decide +kernel
theorem dX4_tellLimits_6 : decode cX4_tellLimits 6 = .ok (.iload_n 2, 1) := by decide +kernel
theorem dX4_tellLimits_7 : decode cX4_tellLimits 7 = .ok (.putfield 15, 3) := by decide +kernel
theorem dX4_tellLimits_10 : decode cX4_tellLimits 10 = .ok (.aload_n 0, 1) := by decide +kernel
theorem dX4_tellLimits_11 : decode cX4_tellLimits 11 = .ok (.iload_n 3, 1) := by decide +kernel
theorem dX4_tellLimits_12 : decode cX4_tellLimits 12 = .ok (.putfield 18, 3) := by decide +kernel
theorem dX4_tellLimits_15 : decode cX4_tellLimits 15 = .ok (.aload_n 0, 1) := by decide +kernel
theorem dX4_tellLimits_16 : decode cX4_tellLimits 16 = .ok (.dup, 1) := by decide +kernel
theorem dX4_tellLimits_17 : decode cX4_tellLimits 17 = .ok (.getfield 39, 3) := by decide +kernel
theorem dX4_tellLimits_20 : decode cX4_tellLimits 20 = .ok (.iconst 1, 1) := by decide +kernel
theorem dX4_tellLimits_21 : decode cX4_tellLimits 21 = .ok (.iadd, 1) := by decide +kernel
theorem dX4_tellLimits_22 : decode cX4_tellLimits 22 = .ok (.putfield 39, 3) := by decide +kernel
theorem dX4_tellLimits_25 : decode cX4_tellLimits 25 = .ok (.return_, 1) := by decide +kernel
theorem dX4_tellBad_0 : decode cX4_tellBad 0 = .ok (.iload_n 1, 1) := by decide +kernel
theorem dX4_tellBad_1 : decode cX4_tellBad 1 = .ok (.iconst 0, 1) := by decide +kernel
theorem dX4_tellBad_2 : decode cX4_tellBad 2 = .ok (.bipush 12, 2) := by decide +kernel
theorem dX4_tellBad_4 : decode cX4_tellBad 4 = .ok (.invokestatic 48, 3) := by decide +kernel
theorem dX4_tellBad_7 : decode cX4_tellBad 7 = .ok (.ifCond .eq 20, 3) := by decide +kernel
theorem dX4_tellBad_10 : decode cX4_tellBad 10 = .ok (.aload_n 0, 1) := by decide +kernel
theorem dX4_tellBad_11 : decode cX4_tellBad 11 = .ok (.getfield 27, 3) := by decide +kernel
theorem dX4_tellBad_14 : decode cX4_tellBad 14 = .ok (.iload_n 1, 1) := by decide +kernel
theorem dX4_tellBad_15 : decode cX4_tellBad 15 = .ok (.iload_n 2, 1) := by decide +kernel
theorem dX4_tellBad_16 : decode cX4_tellBad 16 = .ok (.bastore, 1) := by decide +kernel
theorem dX4_tellBad_17 : decode cX4_tellBad 17 = .ok (.aload_n 0, 1) := by decide +kernel
theorem dX4_tellBad_18 : decode cX4_tellBad 18 = .ok (.dup, 1) := by decide +kernel
theorem dX4_tellBad_19 : decode cX4_tellBad 19 = .ok (.getfield 39, 3) := by decide +kernel
theorem dX4_tellBad_22 : decode cX4_tellBad 22 = .ok (.iconst 1, 1) := by decide +kernel
theorem dX4_tellBad_23 : decode cX4_tellBad 23 = .ok (.iadd, 1) := by decide +kernel
theorem dX4_tellBad_24 : decode cX4_tellBad 24 = .ok (.putfield 39, 3) := by decide +kernel
theorem dX4_tellBad_27 : decode cX4_tellBad 27 = .ok (.return_, 1) := by decide +kernel
theorem dX4_tellPull_0 : decode cX4_tellPull 0 = .ok (.iload_n 1, 1) := by decide +kernel
theorem dX4_tellPull_1 : decode cX4_tellPull 1 = .ok (.iconst 0, 1) := by decide +kernel
theorem dX4_tellPull_2 : decode cX4_tellPull 2 = .ok (.bipush 12, 2) := by decide +kernel
theorem dX4_tellPull_4 : decode cX4_tellPull 4 = .ok (.invokestatic 48, 3) := by decide +kernel
theorem dX4_tellPull_7 : decode cX4_tellPull 7 = .ok (.ifCond .eq 20, 3) := by decide +kernel
theorem dX4_tellPull_10 : decode cX4_tellPull 10 = .ok (.aload_n 0, 1) := by decide +kernel
theorem dX4_tellPull_11 : decode cX4_tellPull 11 = .ok (.getfield 31, 3) := by decide +kernel
theorem dX4_tellPull_14 : decode cX4_tellPull 14 = .ok (.iload_n 1, 1) := by decide +kernel
theorem dX4_tellPull_15 : decode cX4_tellPull 15 = .ok (.iload_n 2, 1) := by decide +kernel
theorem dX4_tellPull_16 : decode cX4_tellPull 16 = .ok (.iastore, 1) := by decide +kernel
theorem dX4_tellPull_17 : decode cX4_tellPull 17 = .ok (.aload_n 0, 1) := by decide +kernel
theorem dX4_tellPull_18 : decode cX4_tellPull 18 = .ok (.dup, 1) := by decide +kernel
theorem dX4_tellPull_19 : decode cX4_tellPull 19 = .ok (.getfield 39, 3) := by decide +kernel
theorem dX4_tellPull_22 : decode cX4_tellPull 22 = .ok (.iconst 1, 1) := by decide +kernel
theorem dX4_tellPull_23 : decode cX4_tellPull 23 = .ok (.iadd, 1) := by decide +kernel
theorem dX4_tellPull_24 : decode cX4_tellPull 24 = .ok (.putfield 39, 3) := by decide +kernel
theorem dX4_tellPull_27 : decode cX4_tellPull 27 = .ok (.return_, 1) := by decide +kernel
theorem dX4_tellLoad_0 : decode cX4_tellLoad 0 = .ok (.aload_n 0, 1) := by decide +kernel
theorem dX4_tellLoad_1 : decode cX4_tellLoad 1 = .ok (.iload_n 1, 1) := by decide +kernel
theorem dX4_tellLoad_2 : decode cX4_tellLoad 2 = .ok (.putfield 21, 3) := by decide +kernel
theorem dX4_tellLoad_5 : decode cX4_tellLoad 5 = .ok (.aload_n 0, 1) := by decide +kernel
theorem dX4_tellLoad_6 : decode cX4_tellLoad 6 = .ok (.iload_n 2, 1) := by decide +kernel
theorem dX4_tellLoad_7 : decode cX4_tellLoad 7 = .ok (.putfield 24, 3) := by decide +kernel
theorem dX4_tellLoad_10 : decode cX4_tellLoad 10 = .ok (.aload_n 0, 1) := by decide +kernel
theorem dX4_tellLoad_11 : decode cX4_tellLoad 11 = .ok (.dup, 1) := by decide +kernel
theorem dX4_tellLoad_12 : decode cX4_tellLoad 12 = .ok (.getfield 39, 3) := by decide +kernel
theorem dX4_tellLoad_15 : decode cX4_tellLoad 15 = .ok (.iconst 1, 1) := by decide +kernel
theorem dX4_tellLoad_16 : decode cX4_tellLoad 16 = .ok (.iadd, 1) := by decide +kernel
theorem dX4_tellLoad_17 : decode cX4_tellLoad 17 = .ok (.putfield 39, 3) := by decide +kernel
theorem dX4_tellLoad_20 : decode cX4_tellLoad 20 = .ok (.return_, 1) := by decide +kernel
theorem dX4_tellOnlySafe_0 : decode cX4_tellOnlySafe 0 = .ok (.aload_n 0, 1) := by decide +kernel
theorem dX4_tellOnlySafe_1 : decode cX4_tellOnlySafe 1 = .ok (.iload_n 1, 1) := by decide +kernel
theorem dX4_tellOnlySafe_2 : decode cX4_tellOnlySafe 2 = .ok (.putfield 35, 3) := by decide +kernel
theorem dX4_tellOnlySafe_5 : decode cX4_tellOnlySafe 5 = .ok (.aload_n 0, 1) := by decide +kernel
theorem dX4_tellOnlySafe_6 : decode cX4_tellOnlySafe 6 = .ok (.dup, 1) := by decide +kernel
theorem dX4_tellOnlySafe_7 : decode cX4_tellOnlySafe 7 = .ok (.getfield 39, 3) := by decide +kernel
theorem dX4_tellOnlySafe_10 : decode cX4_tellOnlySafe 10 = .ok (.iconst 1, 1) := by decide +kernel
theorem dX4_tellOnlySafe_11 : decode cX4_tellOnlySafe 11 = .ok (.iadd, 1) := by decide +kernel
theorem dX4_tellOnlySafe_12 : decode cX4_tellOnlySafe 12 = .ok (.putfield 39, 3) := by decide +kernel
theorem dX4_tellOnlySafe_15 : decode cX4_tellOnlySafe 15 = .ok (.return_, 1) := by decide +kernel
theorem dX4_isBad_0 : decode cX4_isBad 0 = .ok (.iload_n 1, 1) := by decide +kernel
theorem dX4_isBad_1 : decode cX4_isBad 1 = .ok (.ifCond .lt 25, 3) := by decide +kernel
theorem dX4_isBad_4 : decode cX4_isBad 4 = .ok (.iload_n 1, 1) := by decide +kernel
theorem dX4_isBad_5 : decode cX4_isBad 5 = .ok (.aload_n 0, 1) := by decide +kernel
theorem dX4_isBad_6 : decode cX4_isBad 6 = .ok (.getfield 27, 3) := by decide +kernel
theorem dX4_isBad_9 : decode cX4_isBad 9 = .ok (.arraylength, 1) := by decide +kernel
theorem dX4_isBad_10 : decode cX4_isBad 10 = .ok (.if_icmp .ge 16, 3) := by decide +kernel
theorem dX4_isBad_13 : decode cX4_isBad 13 = .ok (.aload_n 0, 1) := by decide +kernel
theorem dX4_isBad_14 : decode cX4_isBad 14 = .ok (.getfield 27, 3) := by decide +kernel
theorem dX4_isBad_17 : decode cX4_isBad 17 = .ok (.iload_n 1, 1) := by decide +kernel
theorem dX4_isBad_18 : decode cX4_isBad 18 = .ok (.baload, 1) := by decide +kernel
theorem dX4_isBad_19 : decode cX4_isBad 19 = .ok (.ifCond .eq 7, 3) := by decide +kernel
theorem dX4_isBad_22 : decode cX4_isBad 22 = .ok (.iconst 1, 1) := by decide +kernel
theorem dX4_isBad_23 : decode cX4_isBad 23 = .ok (.goto 4, 3) := by decide +kernel
theorem dX4_isBad_26 : decode cX4_isBad 26 = .ok (.iconst 0, 1) := by decide +kernel
theorem dX4_isBad_27 : decode cX4_isBad 27 = .ok (.ireturn, 1) := by decide +kernel
theorem dX4_isSpeed_0 : decode cX4_isSpeed 0 = .ok (.iload_n 1, 1) := by decide +kernel
theorem dX4_isSpeed_1 : decode cX4_isSpeed 1 = .ok (.ifCond .lt 15, 3) := by decide +kernel
theorem dX4_isSpeed_4 : decode cX4_isSpeed 4 = .ok (.iload_n 1, 1) := by decide +kernel
theorem dX4_isSpeed_5 : decode cX4_isSpeed 5 = .ok (.aload_n 0, 1) := by decide +kernel
theorem dX4_isSpeed_6 : decode cX4_isSpeed 6 = .ok (.getfield 9, 3) := by decide +kernel
theorem dX4_isSpeed_9 : decode cX4_isSpeed 9 = .ok (.if_icmp .gt 7, 3) := by decide +kernel
theorem dX4_isSpeed_12 : decode cX4_isSpeed 12 = .ok (.iconst 1, 1) := by decide +kernel
theorem dX4_isSpeed_13 : decode cX4_isSpeed 13 = .ok (.goto 4, 3) := by decide +kernel
theorem dX4_isSpeed_16 : decode cX4_isSpeed 16 = .ok (.iconst 0, 1) := by decide +kernel
theorem dX4_isSpeed_17 : decode cX4_isSpeed 17 = .ok (.ireturn, 1) := by decide +kernel
theorem dX4_isState_0 : decode cX4_isState 0 = .ok (.iload_n 1, 1) := by decide +kernel
theorem dX4_isState_1 : decode cX4_isState 1 = .ok (.ifCond .lt 32, 3) := by decide +kernel
theorem dX4_isState_4 : decode cX4_isState 4 = .ok (.iload_n 1, 1) := by decide +kernel
theorem dX4_isState_5 : decode cX4_isState 5 = .ok (.aload_n 0, 1) := by decide +kernel
theorem dX4_isState_6 : decode cX4_isState 6 = .ok (.getfield 9, 3) := by decide +kernel
theorem dX4_isState_9 : decode cX4_isState 9 = .ok (.if_icmp .gt 24, 3) := by decide +kernel
theorem dX4_isState_12 : decode cX4_isState 12 = .ok (.iload_n 2, 1) := by decide +kernel
theorem dX4_isState_13 : decode cX4_isState 13 = .ok (.aload_n 0, 1) := by decide +kernel
theorem dX4_isState_14 : decode cX4_isState 14 = .ok (.getfield 15, 3) := by decide +kernel
theorem dX4_isState_17 : decode cX4_isState 17 = .ok (.ineg, 1) := by decide +kernel
theorem dX4_isState_18 : decode cX4_isState 18 = .ok (.if_icmp .lt 15, 3) := by decide +kernel
theorem dX4_isState_21 : decode cX4_isState 21 = .ok (.iload_n 2, 1) := by decide +kernel
theorem dX4_isState_22 : decode cX4_isState 22 = .ok (.aload_n 0, 1) := by decide +kernel
theorem dX4_isState_23 : decode cX4_isState 23 = .ok (.getfield 15, 3) := by decide +kernel
theorem dX4_isState_26 : decode cX4_isState 26 = .ok (.if_icmp .gt 7, 3) := by decide +kernel
theorem dX4_isState_29 : decode cX4_isState 29 = .ok (.iconst 1, 1) := by decide +kernel
theorem dX4_isState_30 : decode cX4_isState 30 = .ok (.goto 4, 3) := by decide +kernel
theorem dX4_isState_33 : decode cX4_isState 33 = .ok (.iconst 0, 1) := by decide +kernel
theorem dX4_isState_34 : decode cX4_isState 34 = .ok (.ireturn, 1) := by decide +kernel
theorem dX4_isRest_0 : decode cX4_isRest 0 = .ok (.iload_n 1, 1) := by decide +kernel
theorem dX4_isRest_1 : decode cX4_isRest 1 = .ok (.ifCond .ne 33, 3) := by decide +kernel
theorem dX4_isRest_4 : decode cX4_isRest 4 = .ok (.aload_n 0, 1) := by decide +kernel
theorem dX4_isRest_5 : decode cX4_isRest 5 = .ok (.iload_n 1, 1) := by decide +kernel
theorem dX4_isRest_6 : decode cX4_isRest 6 = .ok (.iload_n 2, 1) := by decide +kernel
theorem dX4_isRest_7 : decode cX4_isRest 7 = .ok (.invokevirtual 52, 3) := by decide +kernel
theorem dX4_isRest_10 : decode cX4_isRest 10 = .ok (.ifCond .eq 24, 3) := by decide +kernel
theorem dX4_isRest_13 : decode cX4_isRest 13 = .ok (.iload_n 2, 1) := by decide +kernel
theorem dX4_isRest_14 : decode cX4_isRest 14 = .ok (.aload_n 0, 1) := by decide +kernel
theorem dX4_isRest_15 : decode cX4_isRest 15 = .ok (.getfield 18, 3) := by decide +kernel
theorem dX4_isRest_18 : decode cX4_isRest 18 = .ok (.ineg, 1) := by decide +kernel
theorem dX4_isRest_19 : decode cX4_isRest 19 = .ok (.if_icmp .lt 15, 3) := by decide +kernel
theorem dX4_isRest_22 : decode cX4_isRest 22 = .ok (.iload_n 2, 1) := by decide +kernel
theorem dX4_isRest_23 : decode cX4_isRest 23 = .ok (.aload_n 0, 1) := by decide +kernel
theorem dX4_isRest_24 : decode cX4_isRest 24 = .ok (.getfield 18, 3) := by decide +kernel
theorem dX4_isRest_27 : decode cX4_isRest 27 = .ok (.if_icmp .gt 7, 3) := by decide +kernel
theorem dX4_isRest_30 : decode cX4_isRest 30 = .ok (.iconst 1, 1) := by decide +kernel
theorem dX4_isRest_31 : decode cX4_isRest 31 = .ok (.goto 4, 3) := by decide +kernel
theorem dX4_isRest_34 : decode cX4_isRest 34 = .ok (.iconst 0, 1) := by decide +kernel
theorem dX4_isRest_35 : decode cX4_isRest 35 = .ok (.ireturn, 1) := by decide +kernel
theorem dX4_isSafe_0 : decode cX4_isSafe 0 = .ok (.iload_n 1, 1) := by decide +kernel
theorem dX4_isSafe_1 : decode cX4_isSafe 1 = .ok (.ifCond .lt 39, 3) := by decide +kernel
theorem dX4_isSafe_4 : decode cX4_isSafe 4 = .ok (.iload_n 1, 1) := by decide +kernel
theorem dX4_isSafe_5 : decode cX4_isSafe 5 = .ok (.aload_n 0, 1) := by decide +kernel
theorem dX4_isSafe_6 : decode cX4_isSafe 6 = .ok (.getfield 31, 3) := by decide +kernel
theorem dX4_isSafe_9 : decode cX4_isSafe 9 = .ok (.arraylength, 1) := by decide +kernel
theorem dX4_isSafe_10 : decode cX4_isSafe 10 = .ok (.if_icmp .ge 30, 3) := by decide +kernel
theorem dX4_isSafe_13 : decode cX4_isSafe 13 = .ok (.aload_n 0, 1) := by decide +kernel
theorem dX4_isSafe_14 : decode cX4_isSafe 14 = .ok (.getfield 21, 3) := by decide +kernel
theorem dX4_isSafe_17 : decode cX4_isSafe 17 = .ok (.aload_n 0, 1) := by decide +kernel
theorem dX4_isSafe_18 : decode cX4_isSafe 18 = .ok (.getfield 24, 3) := by decide +kernel
theorem dX4_isSafe_21 : decode cX4_isSafe 21 = .ok (.iload_n 2, 1) := by decide +kernel
theorem dX4_isSafe_22 : decode cX4_isSafe 22 = .ok (.invokestatic 56, 3) := by decide +kernel
theorem dX4_isSafe_25 : decode cX4_isSafe 25 = .ok (.imul, 1) := by decide +kernel
theorem dX4_isSafe_26 : decode cX4_isSafe 26 = .ok (.iadd, 1) := by decide +kernel
theorem dX4_isSafe_27 : decode cX4_isSafe 27 = .ok (.aload_n 0, 1) := by decide +kernel
theorem dX4_isSafe_28 : decode cX4_isSafe 28 = .ok (.getfield 31, 3) := by decide +kernel
theorem dX4_isSafe_31 : decode cX4_isSafe 31 = .ok (.iload_n 1, 1) := by decide +kernel
theorem dX4_isSafe_32 : decode cX4_isSafe 32 = .ok (.iaload, 1) := by decide +kernel
theorem dX4_isSafe_33 : decode cX4_isSafe 33 = .ok (.if_icmp .gt 7, 3) := by decide +kernel
theorem dX4_isSafe_36 : decode cX4_isSafe 36 = .ok (.iconst 1, 1) := by decide +kernel
theorem dX4_isSafe_37 : decode cX4_isSafe 37 = .ok (.goto 4, 3) := by decide +kernel
theorem dX4_isSafe_40 : decode cX4_isSafe 40 = .ok (.iconst 0, 1) := by decide +kernel
theorem dX4_isSafe_41 : decode cX4_isSafe 41 = .ok (.ireturn, 1) := by decide +kernel
theorem dX4_mayEnd_0 : decode cX4_mayEnd 0 = .ok (.aload_n 0, 1) := by decide +kernel
theorem dX4_mayEnd_1 : decode cX4_mayEnd 1 = .ok (.iload_n 1, 1) := by decide +kernel
theorem dX4_mayEnd_2 : decode cX4_mayEnd 2 = .ok (.iload_n 2, 1) := by decide +kernel
theorem dX4_mayEnd_3 : decode cX4_mayEnd 3 = .ok (.invokevirtual 52, 3) := by decide +kernel
theorem dX4_mayEnd_6 : decode cX4_mayEnd 6 = .ok (.ifCond .eq 32, 3) := by decide +kernel
theorem dX4_mayEnd_9 : decode cX4_mayEnd 9 = .ok (.iload_n 2, 1) := by decide +kernel
theorem dX4_mayEnd_10 : decode cX4_mayEnd 10 = .ok (.ifCond .ne 11, 3) := by decide +kernel
theorem dX4_mayEnd_13 : decode cX4_mayEnd 13 = .ok (.aload_n 0, 1) := by decide +kernel
theorem dX4_mayEnd_14 : decode cX4_mayEnd 14 = .ok (.iload_n 1, 1) := by decide +kernel
theorem dX4_mayEnd_15 : decode cX4_mayEnd 15 = .ok (.invokevirtual 62, 3) := by decide +kernel
theorem dX4_mayEnd_18 : decode cX4_mayEnd 18 = .ok (.ifCond .ne 20, 3) := by decide +kernel
theorem dX4_mayEnd_21 : decode cX4_mayEnd 21 = .ok (.iload_n 3, 1) := by decide +kernel
theorem dX4_mayEnd_22 : decode cX4_mayEnd 22 = .ok (.ifCond .eq 12, 3) := by decide +kernel
theorem dX4_mayEnd_25 : decode cX4_mayEnd 25 = .ok (.aload_n 0, 1) := by decide +kernel
theorem dX4_mayEnd_26 : decode cX4_mayEnd 26 = .ok (.iload_n 1, 1) := by decide +kernel
theorem dX4_mayEnd_27 : decode cX4_mayEnd 27 = .ok (.iload_n 2, 1) := by decide +kernel
theorem dX4_mayEnd_28 : decode cX4_mayEnd 28 = .ok (.invokevirtual 66, 3) := by decide +kernel
theorem dX4_mayEnd_31 : decode cX4_mayEnd 31 = .ok (.ifCond .eq 7, 3) := by decide +kernel
theorem dX4_mayEnd_34 : decode cX4_mayEnd 34 = .ok (.iconst 1, 1) := by decide +kernel
theorem dX4_mayEnd_35 : decode cX4_mayEnd 35 = .ok (.goto 4, 3) := by decide +kernel
theorem dX4_mayEnd_38 : decode cX4_mayEnd 38 = .ok (.iconst 0, 1) := by decide +kernel
theorem dX4_mayEnd_39 : decode cX4_mayEnd 39 = .ok (.ireturn, 1) := by decide +kernel
theorem dX4_leastBeside_0 : decode cX4_leastBeside 0 = .ok (.aload_n 0, 1) := by decide +kernel
theorem dX4_leastBeside_1 : decode cX4_leastBeside 1 = .ok (.getfield 15, 3) := by decide +kernel
theorem dX4_leastBeside_4 : decode cX4_leastBeside 4 = .ok (.ineg, 1) := by decide +kernel
theorem dX4_leastBeside_5 : decode cX4_leastBeside 5 = .ok (.iload_n 1, 1) := by decide +kernel
theorem dX4_leastBeside_6 : decode cX4_leastBeside 6 = .ok (.aload_n 0, 1) := by decide +kernel
theorem dX4_leastBeside_7 : decode cX4_leastBeside 7 = .ok (.getfield 18, 3) := by decide +kernel
theorem dX4_leastBeside_10 : decode cX4_leastBeside 10 = .ok (.isub, 1) := by decide +kernel
theorem dX4_leastBeside_11 : decode cX4_leastBeside 11 = .ok (.invokestatic 69, 3) := by decide +kernel
theorem dX4_leastBeside_14 : decode cX4_leastBeside 14 = .ok (.ireturn, 1) := by decide +kernel
theorem dX4_mostBeside_0 : decode cX4_mostBeside 0 = .ok (.aload_n 0, 1) := by decide +kernel
theorem dX4_mostBeside_1 : decode cX4_mostBeside 1 = .ok (.getfield 15, 3) := by decide +kernel
theorem dX4_mostBeside_4 : decode cX4_mostBeside 4 = .ok (.iload_n 1, 1) := by decide +kernel
theorem dX4_mostBeside_5 : decode cX4_mostBeside 5 = .ok (.aload_n 0, 1) := by decide +kernel
theorem dX4_mostBeside_6 : decode cX4_mostBeside 6 = .ok (.getfield 18, 3) := by decide +kernel
theorem dX4_mostBeside_9 : decode cX4_mostBeside 9 = .ok (.iadd, 1) := by decide +kernel
theorem dX4_mostBeside_10 : decode cX4_mostBeside 10 = .ok (.invokestatic 73, 3) := by decide +kernel
theorem dX4_mostBeside_13 : decode cX4_mostBeside 13 = .ok (.ireturn, 1) := by decide +kernel
theorem dX5_init_0 : decode cX5_init 0 = .ok (.aload_n 0, 1) := by decide +kernel
theorem dX5_init_1 : decode cX5_init 1 = .ok (.invokespecial 3, 3) := by decide +kernel
theorem dX5_init_4 : decode cX5_init 4 = .ok (.aload_n 0, 1) := by decide +kernel
theorem dX5_init_5 : decode cX5_init 5 = .ok (.bipush 117, 2) := by decide +kernel
theorem dX5_init_7 : decode cX5_init 7 = .ok (.newarray .int, 2) := by decide +kernel
theorem dX5_init_9 : decode cX5_init 9 = .ok (.putfield 9, 3) := by decide +kernel
theorem dX5_init_12 : decode cX5_init 12 = .ok (.aload_n 0, 1) := by decide +kernel
theorem dX5_init_13 : decode cX5_init 13 = .ok (.bipush 117, 2) := by decide +kernel
theorem dX5_init_15 : decode cX5_init 15 = .ok (.newarray .int, 2) := by decide +kernel
theorem dX5_init_17 : decode cX5_init 17 = .ok (.putfield 15, 3) := by decide +kernel
theorem dX5_init_20 : decode cX5_init 20 = .ok (.aload_n 0, 1) := by decide +kernel
theorem dX5_init_21 : decode cX5_init 21 = .ok (.bipush 117, 2) := by decide +kernel
theorem dX5_init_23 : decode cX5_init 23 = .ok (.newarray .int, 2) := by decide +kernel
theorem dX5_init_25 : decode cX5_init 25 = .ok (.putfield 18, 3) := by decide +kernel
theorem dX5_init_28 : decode cX5_init 28 = .ok (.aload_n 0, 1) := by decide +kernel
theorem dX5_init_29 : decode cX5_init 29 = .ok (.iconst 0, 1) := by decide +kernel
theorem dX5_init_30 : decode cX5_init 30 = .ok (.putfield 21, 3) := by decide +kernel
theorem dX5_init_33 : decode cX5_init 33 = .ok (.aload_n 0, 1) := by decide +kernel
theorem dX5_init_34 : decode cX5_init 34 = .ok (.iconst 0, 1) := by decide +kernel
theorem dX5_init_35 : decode cX5_init 35 = .ok (.putfield 25, 3) := by decide +kernel
theorem dX5_init_38 : decode cX5_init 38 = .ok (.aload_n 0, 1) := by decide +kernel
theorem dX5_init_39 : decode cX5_init 39 = .ok (.iload_n 1, 1) := by decide +kernel
theorem dX5_init_40 : decode cX5_init 40 = .ok (.putfield 28, 3) := by decide +kernel
theorem dX5_init_43 : decode cX5_init 43 = .ok (.return_, 1) := by decide +kernel
theorem dX5_ticksFrom_0 : decode cX5_ticksFrom 0 = .ok (.iload_n 1, 1) := by decide +kernel
theorem dX5_ticksFrom_1 : decode cX5_ticksFrom 1 = .ok (.iload_n 2, 1) := by decide +kernel
theorem dX5_ticksFrom_2 : decode cX5_ticksFrom 2 = .ok (.invokestatic 32, 3) := by decide +kernel
theorem dX5_ticksFrom_5 : decode cX5_ticksFrom 5 = .ok (.istore_n 3, 1) := by decide +kernel
theorem dX5_ticksFrom_6 : decode cX5_ticksFrom 6 = .ok (.aload_n 0, 1) := by decide +kernel
theorem dX5_ticksFrom_7 : decode cX5_ticksFrom 7 = .ok (.getfield 9, 3) := by decide +kernel
theorem dX5_ticksFrom_10 : decode cX5_ticksFrom 10 = .ok (.iload_n 3, 1) := by decide +kernel
theorem dX5_ticksFrom_11 : decode cX5_ticksFrom 11 = .ok (.invokestatic 36, 3) := by decide +kernel
theorem dX5_ticksFrom_14 : decode cX5_ticksFrom 14 = .ok (.ifCond .eq 12, 3) := by decide +kernel
theorem dX5_ticksFrom_17 : decode cX5_ticksFrom 17 = .ok (.aload_n 0, 1) := by decide +kernel
theorem dX5_ticksFrom_18 : decode cX5_ticksFrom 18 = .ok (.getfield 9, 3) := by decide +kernel
theorem dX5_ticksFrom_21 : decode cX5_ticksFrom 21 = .ok (.iload_n 3, 1) := by decide +kernel
theorem dX5_ticksFrom_22 : decode cX5_ticksFrom 22 = .ok (.iaload, 1) := by decide +kernel
theorem dX5_ticksFrom_23 : decode cX5_ticksFrom 23 = .ok (.goto 4, 3) := by decide +kernel
theorem dX5_ticksFrom_26 : decode cX5_ticksFrom 26 = .ok (.iconst (-1), 1) := by decide +kernel
theorem dX5_ticksFrom_27 : decode cX5_ticksFrom 27 = .ok (.ireturn, 1) := by decide +kernel
theorem dX5_stepsFrom_0 : decode cX5_stepsFrom 0 = .ok (.iload_n 1, 1) := by decide +kernel
theorem dX5_stepsFrom_1 : decode cX5_stepsFrom 1 = .ok (.iload_n 2, 1) := by decide +kernel
theorem dX5_stepsFrom_2 : decode cX5_stepsFrom 2 = .ok (.invokestatic 32, 3) := by decide +kernel
theorem dX5_stepsFrom_5 : decode cX5_stepsFrom 5 = .ok (.istore_n 3, 1) := by decide +kernel
theorem dX5_stepsFrom_6 : decode cX5_stepsFrom 6 = .ok (.aload_n 0, 1) := by decide +kernel
theorem dX5_stepsFrom_7 : decode cX5_stepsFrom 7 = .ok (.getfield 15, 3) := by decide +kernel
theorem dX5_stepsFrom_10 : decode cX5_stepsFrom 10 = .ok (.iload_n 3, 1) := by decide +kernel
theorem dX5_stepsFrom_11 : decode cX5_stepsFrom 11 = .ok (.invokestatic 36, 3) := by decide +kernel
theorem dX5_stepsFrom_14 : decode cX5_stepsFrom 14 = .ok (.ifCond .eq 12, 3) := by decide +kernel
theorem dX5_stepsFrom_17 : decode cX5_stepsFrom 17 = .ok (.aload_n 0, 1) := by decide +kernel
theorem dX5_stepsFrom_18 : decode cX5_stepsFrom 18 = .ok (.getfield 15, 3) := by decide +kernel
theorem dX5_stepsFrom_21 : decode cX5_stepsFrom 21 = .ok (.iload_n 3, 1) := by decide +kernel
theorem dX5_stepsFrom_22 : decode cX5_stepsFrom 22 = .ok (.iaload, 1) := by decide +kernel
theorem dX5_stepsFrom_23 : decode cX5_stepsFrom 23 = .ok (.goto 4, 3) := by decide +kernel
theorem dX5_stepsFrom_26 : decode cX5_stepsFrom 26 = .ok (.iconst (-1), 1) := by decide +kernel
theorem dX5_stepsFrom_27 : decode cX5_stepsFrom 27 = .ok (.ireturn, 1) := by decide +kernel
theorem dX5_nextChange_0 : decode cX5_nextChange 0 = .ok (.aload_n 0, 1) := by decide +kernel
theorem dX5_nextChange_1 : decode cX5_nextChange 1 = .ok (.iload_n 2, 1) := by decide +kernel
theorem dX5_nextChange_2 : decode cX5_nextChange 2 = .ok (.iload_n 3, 1) := by decide +kernel
theorem dX5_nextChange_3 : decode cX5_nextChange 3 = .ok (.invokevirtual 40, 3) := by decide +kernel
theorem dX5_nextChange_6 : decode cX5_nextChange 6 = .ok (.istore 4, 2) := by decide +kernel
theorem dX5_nextChange_8 : decode cX5_nextChange 8 = .ok (.iload 4, 2) := by decide +kernel
theorem dX5_nextChange_10 : decode cX5_nextChange 10 = .ok (.iconst 1, 1) := by decide +kernel
theorem dX5_nextChange_11 : decode cX5_nextChange 11 = .ok (.if_icmp .ge 5, 3) := by decide +kernel
theorem dX5_nextChange_14 : decode cX5_nextChange 14 = .ok (.iconst 5, 1) := by decide +kernel
theorem dX5_nextChange_15 : decode cX5_nextChange 15 = .ok (.ireturn, 1) := by decide +kernel
theorem dX5_nextChange_16 : decode cX5_nextChange 16 = .ok (.aload_n 0, 1) := by decide +kernel
theorem dX5_nextChange_17 : decode cX5_nextChange 17 = .ok (.iload_n 2, 1) := by decide +kernel
theorem dX5_nextChange_18 : decode cX5_nextChange 18 = .ok (.iload_n 3, 1) := by decide +kernel
theorem dX5_nextChange_19 : decode cX5_nextChange 19 = .ok (.invokevirtual 43, 3) := by decide +kernel
theorem dX5_nextChange_22 : decode cX5_nextChange 22 = .ok (.istore 5, 2) := by decide +kernel
theorem dX5_nextChange_24 : decode cX5_nextChange 24 = .ok (.aload_n 1, 1) := by decide +kernel
theorem dX5_nextChange_25 : decode cX5_nextChange 25 = .ok (.iload_n 3, 1) := by decide +kernel
theorem dX5_nextChange_26 : decode cX5_nextChange 26 = .ok (.invokevirtual 46, 3) := by decide +kernel
theorem dX5_nextChange_29 : decode cX5_nextChange 29 = .ok (.istore 6, 2) := by decide +kernel
theorem dX5_nextChange_31 : decode cX5_nextChange 31 = .ok (.aload_n 1, 1) := by decide +kernel
theorem dX5_nextChange_32 : decode cX5_nextChange 32 = .ok (.iload_n 3, 1) := by decide +kernel
theorem dX5_nextChange_33 : decode cX5_nextChange 33 = .ok (.invokevirtual 52, 3) := by decide +kernel
theorem dX5_nextChange_36 : decode cX5_nextChange 36 = .ok (.istore 7, 2) := by decide +kernel
theorem dX5_nextChange_38 : decode cX5_nextChange 38 = .ok (.iload 7, 2) := by decide +kernel
theorem dX5_nextChange_40 : decode cX5_nextChange 40 = .ok (.iload 6, 2) := by decide +kernel
theorem dX5_nextChange_42 : decode cX5_nextChange 42 = .ok (.if_icmp .lt 64, 3) := by decide +kernel
theorem dX5_nextChange_45 : decode cX5_nextChange 45 = .ok (.iload_n 2, 1) := by decide +kernel
theorem dX5_nextChange_46 : decode cX5_nextChange 46 = .ok (.iload 7, 2) := by decide +kernel
theorem dX5_nextChange_48 : decode cX5_nextChange 48 = .ok (.iadd, 1) := by decide +kernel
theorem dX5_nextChange_49 : decode cX5_nextChange 49 = .ok (.istore 8, 2) := by decide +kernel
theorem dX5_nextChange_51 : decode cX5_nextChange 51 = .ok (.aload_n 1, 1) := by decide +kernel
theorem dX5_nextChange_52 : decode cX5_nextChange 52 = .ok (.iload 8, 2) := by decide +kernel
theorem dX5_nextChange_54 : decode cX5_nextChange 54 = .ok (.iload 7, 2) := by decide +kernel
theorem dX5_nextChange_56 : decode cX5_nextChange 56 = .ok (.aload_n 0, 1) := by decide +kernel
theorem dX5_nextChange_57 : decode cX5_nextChange 57 = .ok (.getfield 28, 3) := by decide +kernel
theorem dX5_nextChange_60 : decode cX5_nextChange 60 = .ok (.invokevirtual 55, 3) := by decide +kernel
theorem dX5_nextChange_63 : decode cX5_nextChange 63 = .ok (.ifCond .eq 37, 3) := by decide +kernel
theorem dX5_nextChange_66 : decode cX5_nextChange 66 = .ok (.aload_n 0, 1) := by decide +kernel
theorem dX5_nextChange_67 : decode cX5_nextChange 67 = .ok (.iload 8, 2) := by decide +kernel
theorem dX5_nextChange_69 : decode cX5_nextChange 69 = .ok (.iload 7, 2) := by decide +kernel
theorem dX5_nextChange_71 : decode cX5_nextChange 71 = .ok (.invokevirtual 40, 3) := by decide +kernel
theorem dX5_nextChange_74 : decode cX5_nextChange 74 = .ok (.iload 4, 2) := by decide +kernel
theorem dX5_nextChange_76 : decode cX5_nextChange 76 = .ok (.iconst 1, 1) := by decide +kernel
theorem dX5_nextChange_77 : decode cX5_nextChange 77 = .ok (.isub, 1) := by decide +kernel
theorem dX5_nextChange_78 : decode cX5_nextChange 78 = .ok (.if_icmp .ne 22, 3) := by decide +kernel
theorem dX5_nextChange_81 : decode cX5_nextChange 81 = .ok (.aload_n 0, 1) := by decide +kernel
theorem dX5_nextChange_82 : decode cX5_nextChange 82 = .ok (.iload 8, 2) := by decide +kernel
theorem dX5_nextChange_84 : decode cX5_nextChange 84 = .ok (.iload 7, 2) := by decide +kernel
theorem dX5_nextChange_86 : decode cX5_nextChange 86 = .ok (.invokevirtual 43, 3) := by decide +kernel
theorem dX5_nextChange_89 : decode cX5_nextChange 89 = .ok (.iload 8, 2) := by decide +kernel
theorem dX5_nextChange_91 : decode cX5_nextChange 91 = .ok (.iadd, 1) := by decide +kernel
theorem dX5_nextChange_92 : decode cX5_nextChange 92 = .ok (.iload 5, 2) := by decide +kernel
theorem dX5_nextChange_94 : decode cX5_nextChange 94 = .ok (.if_icmp .ne 6, 3) := by decide +kernel
theorem dX5_nextChange_97 : decode cX5_nextChange 97 = .ok (.iload 7, 2) := by decide +kernel
theorem dX5_nextChange_99 : decode cX5_nextChange 99 = .ok (.ireturn, 1) := by decide +kernel
theorem dX5_nextChange_100 : decode cX5_nextChange 100 = .ok (.iinc 7 (-1), 3) := by decide +kernel
theorem dX5_nextChange_103 : decode cX5_nextChange 103 = .ok (.goto (-65), 3) := by decide +kernel
theorem dX5_nextChange_106 : decode cX5_nextChange 106 = .ok (.iconst 5, 1) := by decide +kernel
theorem dX5_nextChange_107 : decode cX5_nextChange 107 = .ok (.ireturn, 1) := by decide +kernel
theorem dX5_renew_0 : decode cX5_renew 0 = .ok (.aload_n 0, 1) := by decide +kernel
theorem dX5_renew_1 : decode cX5_renew 1 = .ok (.getfield 25, 3) := by decide +kernel
theorem dX5_renew_4 : decode cX5_renew 4 = .ok (.aload_n 1, 1) := by decide +kernel
theorem dX5_renew_5 : decode cX5_renew 5 = .ok (.getfield 59, 3) := by decide +kernel
theorem dX5_renew_8 : decode cX5_renew 8 = .ok (.if_icmp .ne 4, 3) := by decide +kernel
theorem dX5_renew_11 : decode cX5_renew 11 = .ok (.return_, 1) := by decide +kernel
theorem dX5_renew_12 : decode cX5_renew 12 = .ok (.aload_n 0, 1) := by decide +kernel
theorem dX5_renew_13 : decode cX5_renew 13 = .ok (.aload_n 1, 1) := by decide +kernel
theorem dX5_renew_14 : decode cX5_renew 14 = .ok (.getfield 59, 3) := by decide +kernel
theorem dX5_renew_17 : decode cX5_renew 17 = .ok (.putfield 25, 3) := by decide +kernel
theorem dX5_renew_20 : decode cX5_renew 20 = .ok (.aload_n 0, 1) := by decide +kernel
theorem dX5_renew_21 : decode cX5_renew 21 = .ok (.getfield 9, 3) := by decide +kernel
theorem dX5_renew_24 : decode cX5_renew 24 = .ok (.iconst (-1), 1) := by decide +kernel
theorem dX5_renew_25 : decode cX5_renew 25 = .ok (.invokestatic 60, 3) := by decide +kernel
theorem dX5_renew_28 : decode cX5_renew 28 = .ok (.aload_n 0, 1) := by decide +kernel
theorem dX5_renew_29 : decode cX5_renew 29 = .ok (.iconst 0, 1) := by decide +kernel
theorem dX5_renew_30 : decode cX5_renew 30 = .ok (.putfield 21, 3) := by decide +kernel
theorem dX5_renew_33 : decode cX5_renew 33 = .ok (.bipush (-4), 2) := by decide +kernel
theorem dX5_renew_35 : decode cX5_renew 35 = .ok (.istore_n 2, 1) := by decide +kernel
theorem dX5_renew_36 : decode cX5_renew 36 = .ok (.iload_n 2, 1) := by decide +kernel
theorem dX5_renew_37 : decode cX5_renew 37 = .ok (.iconst 4, 1) := by decide +kernel
theorem dX5_renew_38 : decode cX5_renew 38 = .ok (.if_icmp .gt 29, 3) := by decide +kernel
theorem dX5_renew_41 : decode cX5_renew 41 = .ok (.aload_n 1, 1) := by decide +kernel
theorem dX5_renew_42 : decode cX5_renew 42 = .ok (.iconst 0, 1) := by decide +kernel
theorem dX5_renew_43 : decode cX5_renew 43 = .ok (.iload_n 2, 1) := by decide +kernel
theorem dX5_renew_44 : decode cX5_renew 44 = .ok (.invokevirtual 66, 3) := by decide +kernel
theorem dX5_renew_47 : decode cX5_renew 47 = .ok (.ifCond .eq 14, 3) := by decide +kernel
theorem dX5_renew_50 : decode cX5_renew 50 = .ok (.aload_n 0, 1) := by decide +kernel
theorem dX5_renew_51 : decode cX5_renew 51 = .ok (.iconst 0, 1) := by decide +kernel
theorem dX5_renew_52 : decode cX5_renew 52 = .ok (.iload_n 2, 1) := by decide +kernel
theorem dX5_renew_53 : decode cX5_renew 53 = .ok (.invokestatic 32, 3) := by decide +kernel
theorem dX5_renew_56 : decode cX5_renew 56 = .ok (.iconst 0, 1) := by decide +kernel
theorem dX5_renew_57 : decode cX5_renew 57 = .ok (.iconst 0, 1) := by decide +kernel
theorem dX5_renew_58 : decode cX5_renew 58 = .ok (.invokevirtual 70, 3) := by decide +kernel
theorem dX5_renew_61 : decode cX5_renew 61 = .ok (.iinc 2 1, 3) := by decide +kernel
theorem dX5_renew_64 : decode cX5_renew 64 = .ok (.goto (-28), 3) := by decide +kernel
theorem dX5_renew_67 : decode cX5_renew 67 = .ok (.iconst 0, 1) := by decide +kernel
theorem dX5_renew_68 : decode cX5_renew 68 = .ok (.istore_n 2, 1) := by decide +kernel
theorem dX5_renew_69 : decode cX5_renew 69 = .ok (.iload_n 2, 1) := by decide +kernel
theorem dX5_renew_70 : decode cX5_renew 70 = .ok (.aload_n 0, 1) := by decide +kernel
theorem dX5_renew_71 : decode cX5_renew 71 = .ok (.getfield 21, 3) := by decide +kernel
theorem dX5_renew_74 : decode cX5_renew 74 = .ok (.if_icmp .ge 31, 3) := by decide +kernel
theorem dX5_renew_77 : decode cX5_renew 77 = .ok (.aload_n 0, 1) := by decide +kernel
theorem dX5_renew_78 : decode cX5_renew 78 = .ok (.getfield 18, 3) := by decide +kernel
theorem dX5_renew_81 : decode cX5_renew 81 = .ok (.iload_n 2, 1) := by decide +kernel
theorem dX5_renew_82 : decode cX5_renew 82 = .ok (.invokestatic 36, 3) := by decide +kernel
theorem dX5_renew_85 : decode cX5_renew 85 = .ok (.ifCond .eq 20, 3) := by decide +kernel
theorem dX5_renew_88 : decode cX5_renew 88 = .ok (.aload_n 0, 1) := by decide +kernel
theorem dX5_renew_89 : decode cX5_renew 89 = .ok (.aload_n 1, 1) := by decide +kernel
theorem dX5_renew_90 : decode cX5_renew 90 = .ok (.aload_n 0, 1) := by decide +kernel
theorem dX5_renew_91 : decode cX5_renew 91 = .ok (.getfield 18, 3) := by decide +kernel
theorem dX5_renew_94 : decode cX5_renew 94 = .ok (.iload_n 2, 1) := by decide +kernel
theorem dX5_renew_95 : decode cX5_renew 95 = .ok (.iaload, 1) := by decide +kernel
theorem dX5_renew_96 : decode cX5_renew 96 = .ok (.invokevirtual 74, 3) := by decide +kernel
theorem dX5_renew_99 : decode cX5_renew 99 = .ok (.iinc 2 1, 3) := by decide +kernel
theorem dX5_renew_102 : decode cX5_renew 102 = .ok (.goto (-33), 3) := by decide +kernel
theorem dX5_renew_105 : decode cX5_renew 105 = .ok (.return_, 1) := by decide +kernel
theorem dX5_lookBehind_0 : decode cX5_lookBehind 0 = .ok (.iload_n 2, 1) := by decide +kernel
theorem dX5_lookBehind_1 : decode cX5_lookBehind 1 = .ok (.bipush 9, 2) := by decide +kernel
theorem dX5_lookBehind_3 : decode cX5_lookBehind 3 = .ok (.idiv, 1) := by decide +kernel
theorem dX5_lookBehind_4 : decode cX5_lookBehind 4 = .ok (.istore_n 3, 1) := by decide +kernel
theorem dX5_lookBehind_5 : decode cX5_lookBehind 5 = .ok (.iload_n 2, 1) := by decide +kernel
theorem dX5_lookBehind_6 : decode cX5_lookBehind 6 = .ok (.bipush 9, 2) := by decide +kernel
theorem dX5_lookBehind_8 : decode cX5_lookBehind 8 = .ok (.irem, 1) := by decide +kernel
theorem dX5_lookBehind_9 : decode cX5_lookBehind 9 = .ok (.iconst 4, 1) := by decide +kernel
theorem dX5_lookBehind_10 : decode cX5_lookBehind 10 = .ok (.isub, 1) := by decide +kernel
theorem dX5_lookBehind_11 : decode cX5_lookBehind 11 = .ok (.istore 4, 2) := by decide +kernel
theorem dX5_lookBehind_13 : decode cX5_lookBehind 13 = .ok (.iload_n 3, 1) := by decide +kernel
theorem dX5_lookBehind_14 : decode cX5_lookBehind 14 = .ok (.iload 4, 2) := by decide +kernel
theorem dX5_lookBehind_16 : decode cX5_lookBehind 16 = .ok (.isub, 1) := by decide +kernel
theorem dX5_lookBehind_17 : decode cX5_lookBehind 17 = .ok (.istore 5, 2) := by decide +kernel
theorem dX5_lookBehind_19 : decode cX5_lookBehind 19 = .ok (.aload_n 1, 1) := by decide +kernel
theorem dX5_lookBehind_20 : decode cX5_lookBehind 20 = .ok (.iload 5, 2) := by decide +kernel
theorem dX5_lookBehind_22 : decode cX5_lookBehind 22 = .ok (.invokevirtual 78, 3) := by decide +kernel
theorem dX5_lookBehind_25 : decode cX5_lookBehind 25 = .ok (.ifCond .eq 17, 3) := by decide +kernel
theorem dX5_lookBehind_28 : decode cX5_lookBehind 28 = .ok (.aload_n 1, 1) := by decide +kernel
theorem dX5_lookBehind_29 : decode cX5_lookBehind 29 = .ok (.iload_n 3, 1) := by decide +kernel
theorem dX5_lookBehind_30 : decode cX5_lookBehind 30 = .ok (.iload 4, 2) := by decide +kernel
theorem dX5_lookBehind_32 : decode cX5_lookBehind 32 = .ok (.aload_n 0, 1) := by decide +kernel
theorem dX5_lookBehind_33 : decode cX5_lookBehind 33 = .ok (.getfield 28, 3) := by decide +kernel
theorem dX5_lookBehind_36 : decode cX5_lookBehind 36 = .ok (.invokevirtual 55, 3) := by decide +kernel
theorem dX5_lookBehind_39 : decode cX5_lookBehind 39 = .ok (.ifCond .ne 4, 3) := by decide +kernel
theorem dX5_lookBehind_42 : decode cX5_lookBehind 42 = .ok (.return_, 1) := by decide +kernel
theorem dX5_lookBehind_43 : decode cX5_lookBehind 43 = .ok (.aload_n 0, 1) := by decide +kernel
theorem dX5_lookBehind_44 : decode cX5_lookBehind 44 = .ok (.iload_n 3, 1) := by decide +kernel
theorem dX5_lookBehind_45 : decode cX5_lookBehind 45 = .ok (.iload 4, 2) := by decide +kernel
theorem dX5_lookBehind_47 : decode cX5_lookBehind 47 = .ok (.invokevirtual 40, 3) := by decide +kernel
theorem dX5_lookBehind_50 : decode cX5_lookBehind 50 = .ok (.iconst 1, 1) := by decide +kernel
theorem dX5_lookBehind_51 : decode cX5_lookBehind 51 = .ok (.iadd, 1) := by decide +kernel
theorem dX5_lookBehind_52 : decode cX5_lookBehind 52 = .ok (.istore 6, 2) := by decide +kernel
theorem dX5_lookBehind_54 : decode cX5_lookBehind 54 = .ok (.aload_n 0, 1) := by decide +kernel
theorem dX5_lookBehind_55 : decode cX5_lookBehind 55 = .ok (.iload_n 3, 1) := by decide +kernel
theorem dX5_lookBehind_56 : decode cX5_lookBehind 56 = .ok (.iload 4, 2) := by decide +kernel
theorem dX5_lookBehind_58 : decode cX5_lookBehind 58 = .ok (.invokevirtual 43, 3) := by decide +kernel
theorem dX5_lookBehind_61 : decode cX5_lookBehind 61 = .ok (.iload_n 3, 1) := by decide +kernel
theorem dX5_lookBehind_62 : decode cX5_lookBehind 62 = .ok (.iadd, 1) := by decide +kernel
theorem dX5_lookBehind_63 : decode cX5_lookBehind 63 = .ok (.istore 7, 2) := by decide +kernel
theorem dX5_lookBehind_65 : decode cX5_lookBehind 65 = .ok (.aload_n 1, 1) := by decide +kernel
theorem dX5_lookBehind_66 : decode cX5_lookBehind 66 = .ok (.iload 4, 2) := by decide +kernel
theorem dX5_lookBehind_68 : decode cX5_lookBehind 68 = .ok (.invokevirtual 52, 3) := by decide +kernel
theorem dX5_lookBehind_71 : decode cX5_lookBehind 71 = .ok (.istore 8, 2) := by decide +kernel
theorem dX5_lookBehind_73 : decode cX5_lookBehind 73 = .ok (.aload_n 1, 1) := by decide +kernel
theorem dX5_lookBehind_74 : decode cX5_lookBehind 74 = .ok (.iload 4, 2) := by decide +kernel
theorem dX5_lookBehind_76 : decode cX5_lookBehind 76 = .ok (.invokevirtual 46, 3) := by decide +kernel
theorem dX5_lookBehind_79 : decode cX5_lookBehind 79 = .ok (.istore 9, 2) := by decide +kernel
theorem dX5_lookBehind_81 : decode cX5_lookBehind 81 = .ok (.iload 9, 2) := by decide +kernel
theorem dX5_lookBehind_83 : decode cX5_lookBehind 83 = .ok (.iload 8, 2) := by decide +kernel
theorem dX5_lookBehind_85 : decode cX5_lookBehind 85 = .ok (.if_icmp .gt 24, 3) := by decide +kernel
theorem dX5_lookBehind_88 : decode cX5_lookBehind 88 = .ok (.aload_n 0, 1) := by decide +kernel
theorem dX5_lookBehind_89 : decode cX5_lookBehind 89 = .ok (.iload 5, 2) := by decide +kernel
theorem dX5_lookBehind_91 : decode cX5_lookBehind 91 = .ok (.iload 9, 2) := by decide +kernel
theorem dX5_lookBehind_93 : decode cX5_lookBehind 93 = .ok (.invokestatic 32, 3) := by decide +kernel
theorem dX5_lookBehind_96 : decode cX5_lookBehind 96 = .ok (.iload 6, 2) := by decide +kernel
theorem dX5_lookBehind_98 : decode cX5_lookBehind 98 = .ok (.iload 7, 2) := by decide +kernel
theorem dX5_lookBehind_100 : decode cX5_lookBehind 100 = .ok (.invokevirtual 70, 3) := by decide +kernel
theorem dX5_lookBehind_103 : decode cX5_lookBehind 103 = .ok (.iinc 9 1, 3) := by decide +kernel
theorem dX5_lookBehind_106 : decode cX5_lookBehind 106 = .ok (.goto (-25), 3) := by decide +kernel
theorem dX5_lookBehind_109 : decode cX5_lookBehind 109 = .ok (.return_, 1) := by decide +kernel
theorem dX5_find_0 : decode cX5_find 0 = .ok (.aload_n 0, 1) := by decide +kernel
theorem dX5_find_1 : decode cX5_find 1 = .ok (.getfield 9, 3) := by decide +kernel
theorem dX5_find_4 : decode cX5_find 4 = .ok (.iload_n 1, 1) := by decide +kernel
theorem dX5_find_5 : decode cX5_find 5 = .ok (.invokestatic 36, 3) := by decide +kernel
theorem dX5_find_8 : decode cX5_find 8 = .ok (.ifCond .eq 14, 3) := by decide +kernel
theorem dX5_find_11 : decode cX5_find 11 = .ok (.aload_n 0, 1) := by decide +kernel
theorem dX5_find_12 : decode cX5_find 12 = .ok (.getfield 15, 3) := by decide +kernel
theorem dX5_find_15 : decode cX5_find 15 = .ok (.iload_n 1, 1) := by decide +kernel
theorem dX5_find_16 : decode cX5_find 16 = .ok (.invokestatic 36, 3) := by decide +kernel
theorem dX5_find_19 : decode cX5_find 19 = .ok (.ifCond .ne 4, 3) := by decide +kernel
theorem dX5_find_22 : decode cX5_find 22 = .ok (.return_, 1) := by decide +kernel
theorem dX5_find_23 : decode cX5_find 23 = .ok (.aload_n 0, 1) := by decide +kernel
theorem dX5_find_24 : decode cX5_find 24 = .ok (.getfield 9, 3) := by decide +kernel
theorem dX5_find_27 : decode cX5_find 27 = .ok (.iload_n 1, 1) := by decide +kernel
theorem dX5_find_28 : decode cX5_find 28 = .ok (.iaload, 1) := by decide +kernel
theorem dX5_find_29 : decode cX5_find 29 = .ok (.iconst (-1), 1) := by decide +kernel
theorem dX5_find_30 : decode cX5_find 30 = .ok (.if_icmp .ne 54, 3) := by decide +kernel
theorem dX5_find_33 : decode cX5_find 33 = .ok (.aload_n 0, 1) := by decide +kernel
theorem dX5_find_34 : decode cX5_find 34 = .ok (.getfield 18, 3) := by decide +kernel
theorem dX5_find_37 : decode cX5_find 37 = .ok (.aload_n 0, 1) := by decide +kernel
theorem dX5_find_38 : decode cX5_find 38 = .ok (.getfield 21, 3) := by decide +kernel
theorem dX5_find_41 : decode cX5_find 41 = .ok (.invokestatic 36, 3) := by decide +kernel
theorem dX5_find_44 : decode cX5_find 44 = .ok (.ifCond .eq 40, 3) := by decide +kernel
theorem dX5_find_47 : decode cX5_find 47 = .ok (.aload_n 0, 1) := by decide +kernel
theorem dX5_find_48 : decode cX5_find 48 = .ok (.getfield 9, 3) := by decide +kernel
theorem dX5_find_51 : decode cX5_find 51 = .ok (.iload_n 1, 1) := by decide +kernel
theorem dX5_find_52 : decode cX5_find 52 = .ok (.iload_n 2, 1) := by decide +kernel
theorem dX5_find_53 : decode cX5_find 53 = .ok (.iastore, 1) := by decide +kernel
theorem dX5_find_54 : decode cX5_find 54 = .ok (.aload_n 0, 1) := by decide +kernel
theorem dX5_find_55 : decode cX5_find 55 = .ok (.getfield 15, 3) := by decide +kernel
theorem dX5_find_58 : decode cX5_find 58 = .ok (.iload_n 1, 1) := by decide +kernel
theorem dX5_find_59 : decode cX5_find 59 = .ok (.iload_n 3, 1) := by decide +kernel
theorem dX5_find_60 : decode cX5_find 60 = .ok (.iastore, 1) := by decide +kernel
theorem dX5_find_61 : decode cX5_find 61 = .ok (.aload_n 0, 1) := by decide +kernel
theorem dX5_find_62 : decode cX5_find 62 = .ok (.getfield 18, 3) := by decide +kernel
theorem dX5_find_65 : decode cX5_find 65 = .ok (.aload_n 0, 1) := by decide +kernel
theorem dX5_find_66 : decode cX5_find 66 = .ok (.getfield 21, 3) := by decide +kernel
theorem dX5_find_69 : decode cX5_find 69 = .ok (.iload_n 1, 1) := by decide +kernel
theorem dX5_find_70 : decode cX5_find 70 = .ok (.iastore, 1) := by decide +kernel
theorem dX5_find_71 : decode cX5_find 71 = .ok (.aload_n 0, 1) := by decide +kernel
theorem dX5_find_72 : decode cX5_find 72 = .ok (.dup, 1) := by decide +kernel
theorem dX5_find_73 : decode cX5_find 73 = .ok (.getfield 21, 3) := by decide +kernel
theorem dX5_find_76 : decode cX5_find 76 = .ok (.iconst 1, 1) := by decide +kernel
theorem dX5_find_77 : decode cX5_find 77 = .ok (.iadd, 1) := by decide +kernel
theorem dX5_find_78 : decode cX5_find 78 = .ok (.putfield 21, 3) := by decide +kernel
theorem dX5_find_81 : decode cX5_find 81 = .ok (.goto 30, 3) := by decide +kernel
theorem dX5_find_84 : decode cX5_find 84 = .ok (.aload_n 0, 1) := by decide +kernel
theorem dX5_find_85 : decode cX5_find 85 = .ok (.getfield 9, 3) := by decide +kernel
theorem dX5_find_88 : decode cX5_find 88 = .ok (.iload_n 1, 1) := by decide +kernel
theorem dX5_find_89 : decode cX5_find 89 = .ok (.iaload, 1) := by decide +kernel
theorem dX5_find_90 : decode cX5_find 90 = .ok (.iload_n 2, 1) := by decide +kernel
theorem dX5_find_91 : decode cX5_find 91 = .ok (.if_icmp .ne 20, 3) := by decide +kernel
theorem dX5_find_94 : decode cX5_find 94 = .ok (.iload_n 3, 1) := by decide +kernel
theorem dX5_find_95 : decode cX5_find 95 = .ok (.aload_n 0, 1) := by decide +kernel
theorem dX5_find_96 : decode cX5_find 96 = .ok (.getfield 15, 3) := by decide +kernel
theorem dX5_find_99 : decode cX5_find 99 = .ok (.iload_n 1, 1) := by decide +kernel
theorem dX5_find_100 : decode cX5_find 100 = .ok (.iaload, 1) := by decide +kernel
theorem dX5_find_101 : decode cX5_find 101 = .ok (.if_icmp .ge 10, 3) := by decide +kernel
theorem dX5_find_104 : decode cX5_find 104 = .ok (.aload_n 0, 1) := by decide +kernel
theorem dX5_find_105 : decode cX5_find 105 = .ok (.getfield 15, 3) := by decide +kernel
theorem dX5_find_108 : decode cX5_find 108 = .ok (.iload_n 1, 1) := by decide +kernel
theorem dX5_find_109 : decode cX5_find 109 = .ok (.iload_n 3, 1) := by decide +kernel
theorem dX5_find_110 : decode cX5_find 110 = .ok (.iastore, 1) := by decide +kernel
theorem dX5_find_111 : decode cX5_find 111 = .ok (.return_, 1) := by decide +kernel
theorem dX6_init_0 : decode cX6_init 0 = .ok (.aload_n 0, 1) := by decide +kernel
theorem dX6_init_1 : decode cX6_init 1 = .ok (.invokespecial 3, 3) := by decide +kernel
theorem dX6_init_4 : decode cX6_init 4 = .ok (.aload_n 0, 1) := by decide +kernel
theorem dX6_init_5 : decode cX6_init 5 = .ok (.new 9, 3) := by decide +kernel
theorem dX6_init_8 : decode cX6_init 8 = .ok (.dup, 1) := by decide +kernel
theorem dX6_init_9 : decode cX6_init 9 = .ok (.invokespecial 11, 3) := by decide +kernel
theorem dX6_init_12 : decode cX6_init 12 = .ok (.putfield 12, 3) := by decide +kernel
theorem dX6_init_15 : decode cX6_init 15 = .ok (.aload_n 0, 1) := by decide +kernel
theorem dX6_init_16 : decode cX6_init 16 = .ok (.new 16, 3) := by decide +kernel
theorem dX6_init_19 : decode cX6_init 19 = .ok (.dup, 1) := by decide +kernel
theorem dX6_init_20 : decode cX6_init 20 = .ok (.invokespecial 18, 3) := by decide +kernel
theorem dX6_init_23 : decode cX6_init 23 = .ok (.putfield 19, 3) := by decide +kernel
theorem dX6_init_26 : decode cX6_init 26 = .ok (.aload_n 0, 1) := by decide +kernel
theorem dX6_init_27 : decode cX6_init 27 = .ok (.new 23, 3) := by decide +kernel
theorem dX6_init_30 : decode cX6_init 30 = .ok (.dup, 1) := by decide +kernel
theorem dX6_init_31 : decode cX6_init 31 = .ok (.iconst 1, 1) := by decide +kernel
theorem dX6_init_32 : decode cX6_init 32 = .ok (.invokespecial 25, 3) := by decide +kernel
theorem dX6_init_35 : decode cX6_init 35 = .ok (.putfield 28, 3) := by decide +kernel
theorem dX6_init_38 : decode cX6_init 38 = .ok (.aload_n 0, 1) := by decide +kernel
theorem dX6_init_39 : decode cX6_init 39 = .ok (.new 23, 3) := by decide +kernel
theorem dX6_init_42 : decode cX6_init 42 = .ok (.dup, 1) := by decide +kernel
theorem dX6_init_43 : decode cX6_init 43 = .ok (.iconst 0, 1) := by decide +kernel
theorem dX6_init_44 : decode cX6_init 44 = .ok (.invokespecial 25, 3) := by decide +kernel
theorem dX6_init_47 : decode cX6_init 47 = .ok (.putfield 32, 3) := by decide +kernel
theorem dX6_init_50 : decode cX6_init 50 = .ok (.aload_n 0, 1) := by decide +kernel
theorem dX6_init_51 : decode cX6_init 51 = .ok (.new 35, 3) := by decide +kernel
theorem dX6_init_54 : decode cX6_init 54 = .ok (.dup, 1) := by decide +kernel
theorem dX6_init_55 : decode cX6_init 55 = .ok (.invokespecial 37, 3) := by decide +kernel
theorem dX6_init_58 : decode cX6_init 58 = .ok (.putfield 38, 3) := by decide +kernel
theorem dX6_init_61 : decode cX6_init 61 = .ok (.aload_n 0, 1) := by decide +kernel
theorem dX6_init_62 : decode cX6_init 62 = .ok (.new 42, 3) := by decide +kernel
theorem dX6_init_65 : decode cX6_init 65 = .ok (.dup, 1) := by decide +kernel
theorem dX6_init_66 : decode cX6_init 66 = .ok (.invokespecial 44, 3) := by decide +kernel
theorem dX6_init_69 : decode cX6_init 69 = .ok (.putfield 45, 3) := by decide +kernel
theorem dX6_init_72 : decode cX6_init 72 = .ok (.aload_n 0, 1) := by decide +kernel
theorem dX6_init_73 : decode cX6_init 73 = .ok (.new 42, 3) := by decide +kernel
theorem dX6_init_76 : decode cX6_init 76 = .ok (.dup, 1) := by decide +kernel
theorem dX6_init_77 : decode cX6_init 77 = .ok (.invokespecial 44, 3) := by decide +kernel
theorem dX6_init_80 : decode cX6_init 80 = .ok (.putfield 49, 3) := by decide +kernel
theorem dX6_init_83 : decode cX6_init 83 = .ok (.aload_n 0, 1) := by decide +kernel
theorem dX6_init_84 : decode cX6_init 84 = .ok (.new 42, 3) := by decide +kernel
theorem dX6_init_87 : decode cX6_init 87 = .ok (.dup, 1) := by decide +kernel
theorem dX6_init_88 : decode cX6_init 88 = .ok (.invokespecial 44, 3) := by decide +kernel
theorem dX6_init_91 : decode cX6_init 91 = .ok (.putfield 52, 3) := by decide +kernel
theorem dX6_init_94 : decode cX6_init 94 = .ok (.aload_n 0, 1) := by decide +kernel
theorem dX6_init_95 : decode cX6_init 95 = .ok (.new 55, 3) := by decide +kernel
theorem dX6_init_98 : decode cX6_init 98 = .ok (.dup, 1) := by decide +kernel
theorem dX6_init_99 : decode cX6_init 99 = .ok (.invokespecial 57, 3) := by decide +kernel
theorem dX6_init_102 : decode cX6_init 102 = .ok (.putfield 58, 3) := by decide +kernel
theorem dX6_init_105 : decode cX6_init 105 = .ok (.return_, 1) := by decide +kernel
theorem dX6_limits_0 : decode cX6_limits 0 = .ok (.aload_n 0, 1) := by decide +kernel
theorem dX6_limits_1 : decode cX6_limits 1 = .ok (.getfield 38, 3) := by decide +kernel
theorem dX6_limits_4 : decode cX6_limits 4 = .ok (.invokevirtual 62, 3) := by decide +kernel
theorem dX6_limits_7 : decode cX6_limits 7 = .ok (.ifCond .ne 31, 3) := by decide +kernel
theorem dX6_limits_10 : decode cX6_limits 10 = .ok (.iload_n 1, 1) := by decide +kernel
theorem dX6_limits_11 : decode cX6_limits 11 = .ok (.iconst 1, 1) := by decide +kernel
theorem dX6_limits_12 : decode cX6_limits 12 = .ok (.bipush 12, 2) := by decide +kernel
theorem dX6_limits_14 : decode cX6_limits 14 = .ok (.invokestatic 66, 3) := by decide +kernel
theorem dX6_limits_17 : decode cX6_limits 17 = .ok (.ifCond .eq 21, 3) := by decide +kernel
theorem dX6_limits_20 : decode cX6_limits 20 = .ok (.iload_n 2, 1) := by decide +kernel
theorem dX6_limits_21 : decode cX6_limits 21 = .ok (.iconst 1, 1) := by decide +kernel
theorem dX6_limits_22 : decode cX6_limits 22 = .ok (.iconst 4, 1) := by decide +kernel
theorem dX6_limits_23 : decode cX6_limits 23 = .ok (.invokestatic 66, 3) := by decide +kernel
theorem dX6_limits_26 : decode cX6_limits 26 = .ok (.ifCond .eq 12, 3) := by decide +kernel
theorem dX6_limits_29 : decode cX6_limits 29 = .ok (.iload_n 3, 1) := by decide +kernel
theorem dX6_limits_30 : decode cX6_limits 30 = .ok (.iconst 1, 1) := by decide +kernel
theorem dX6_limits_31 : decode cX6_limits 31 = .ok (.iconst 4, 1) := by decide +kernel
theorem dX6_limits_32 : decode cX6_limits 32 = .ok (.invokestatic 66, 3) := by decide +kernel
theorem dX6_limits_35 : decode cX6_limits 35 = .ok (.ifCond .ne 5, 3) := by decide +kernel
theorem dX6_limits_38 : decode cX6_limits 38 = .ok (.iconst 0, 1) := by decide +kernel
theorem dX6_limits_39 : decode cX6_limits 39 = .ok (.ireturn, 1) := by decide +kernel
theorem dX6_limits_40 : decode cX6_limits 40 = .ok (.aload_n 0, 1) := by decide +kernel
theorem dX6_limits_41 : decode cX6_limits 41 = .ok (.getfield 12, 3) := by decide +kernel
theorem dX6_limits_44 : decode cX6_limits 44 = .ok (.iload_n 1, 1) := by decide +kernel
theorem dX6_limits_45 : decode cX6_limits 45 = .ok (.iload_n 2, 1) := by decide +kernel
theorem dX6_limits_46 : decode cX6_limits 46 = .ok (.iload_n 3, 1) := by decide +kernel
theorem dX6_limits_47 : decode cX6_limits 47 = .ok (.invokevirtual 70, 3) := by decide +kernel
theorem dX6_limits_50 : decode cX6_limits 50 = .ok (.iconst 1, 1) := by decide +kernel
theorem dX6_limits_51 : decode cX6_limits 51 = .ok (.ireturn, 1) := by decide +kernel
theorem dX6_bad_0 : decode cX6_bad 0 = .ok (.aload_n 0, 1) := by decide +kernel
theorem dX6_bad_1 : decode cX6_bad 1 = .ok (.getfield 38, 3) := by decide +kernel
theorem dX6_bad_4 : decode cX6_bad 4 = .ok (.invokevirtual 62, 3) := by decide +kernel
theorem dX6_bad_7 : decode cX6_bad 7 = .ok (.ifCond .ne 25, 3) := by decide +kernel
theorem dX6_bad_10 : decode cX6_bad 10 = .ok (.iload_n 1, 1) := by decide +kernel
theorem dX6_bad_11 : decode cX6_bad 11 = .ok (.iconst 1, 1) := by decide +kernel
theorem dX6_bad_12 : decode cX6_bad 12 = .ok (.bipush 12, 2) := by decide +kernel
theorem dX6_bad_14 : decode cX6_bad 14 = .ok (.invokestatic 66, 3) := by decide +kernel
theorem dX6_bad_17 : decode cX6_bad 17 = .ok (.ifCond .eq 15, 3) := by decide +kernel
theorem dX6_bad_20 : decode cX6_bad 20 = .ok (.aload_n 0, 1) := by decide +kernel
theorem dX6_bad_21 : decode cX6_bad 21 = .ok (.getfield 12, 3) := by decide +kernel
theorem dX6_bad_24 : decode cX6_bad 24 = .ok (.iload_n 1, 1) := by decide +kernel
theorem dX6_bad_25 : decode cX6_bad 25 = .ok (.invokevirtual 74, 3) := by decide +kernel
theorem dX6_bad_28 : decode cX6_bad 28 = .ok (.iload_n 2, 1) := by decide +kernel
theorem dX6_bad_29 : decode cX6_bad 29 = .ok (.if_icmp .ne 5, 3) := by decide +kernel
theorem dX6_bad_32 : decode cX6_bad 32 = .ok (.iconst 0, 1) := by decide +kernel
theorem dX6_bad_33 : decode cX6_bad 33 = .ok (.ireturn, 1) := by decide +kernel
theorem dX6_bad_34 : decode cX6_bad 34 = .ok (.aload_n 0, 1) := by decide +kernel
theorem dX6_bad_35 : decode cX6_bad 35 = .ok (.getfield 12, 3) := by decide +kernel
theorem dX6_bad_38 : decode cX6_bad 38 = .ok (.iload_n 1, 1) := by decide +kernel
theorem dX6_bad_39 : decode cX6_bad 39 = .ok (.iload_n 2, 1) := by decide +kernel
theorem dX6_bad_40 : decode cX6_bad 40 = .ok (.invokevirtual 78, 3) := by decide +kernel
theorem dX6_bad_43 : decode cX6_bad 43 = .ok (.iconst 1, 1) := by decide +kernel
theorem dX6_bad_44 : decode cX6_bad 44 = .ok (.ireturn, 1) := by decide +kernel
theorem dX6_pull_0 : decode cX6_pull 0 = .ok (.aload_n 0, 1) := by decide +kernel
theorem dX6_pull_1 : decode cX6_pull 1 = .ok (.getfield 38, 3) := by decide +kernel
theorem dX6_pull_4 : decode cX6_pull 4 = .ok (.invokevirtual 62, 3) := by decide +kernel
theorem dX6_pull_7 : decode cX6_pull 7 = .ok (.ifCond .ne 24, 3) := by decide +kernel
theorem dX6_pull_10 : decode cX6_pull 10 = .ok (.iload_n 1, 1) := by decide +kernel
theorem dX6_pull_11 : decode cX6_pull 11 = .ok (.iconst 0, 1) := by decide +kernel
theorem dX6_pull_12 : decode cX6_pull 12 = .ok (.bipush 12, 2) := by decide +kernel
theorem dX6_pull_14 : decode cX6_pull 14 = .ok (.invokestatic 66, 3) := by decide +kernel
theorem dX6_pull_17 : decode cX6_pull 17 = .ok (.ifCond .eq 14, 3) := by decide +kernel
theorem dX6_pull_20 : decode cX6_pull 20 = .ok (.iload_n 2, 1) := by decide +kernel
theorem dX6_pull_21 : decode cX6_pull 21 = .ok (.iconst 0, 1) := by decide +kernel
theorem dX6_pull_22 : decode cX6_pull 22 = .ok (.sipush 1000, 3) := by decide +kernel
theorem dX6_pull_25 : decode cX6_pull 25 = .ok (.invokestatic 66, 3) := by decide +kernel
theorem dX6_pull_28 : decode cX6_pull 28 = .ok (.ifCond .ne 5, 3) := by decide +kernel
theorem dX6_pull_31 : decode cX6_pull 31 = .ok (.iconst 0, 1) := by decide +kernel
theorem dX6_pull_32 : decode cX6_pull 32 = .ok (.ireturn, 1) := by decide +kernel
theorem dX6_pull_33 : decode cX6_pull 33 = .ok (.aload_n 0, 1) := by decide +kernel
theorem dX6_pull_34 : decode cX6_pull 34 = .ok (.getfield 12, 3) := by decide +kernel
theorem dX6_pull_37 : decode cX6_pull 37 = .ok (.iload_n 1, 1) := by decide +kernel
theorem dX6_pull_38 : decode cX6_pull 38 = .ok (.iload_n 2, 1) := by decide +kernel
theorem dX6_pull_39 : decode cX6_pull 39 = .ok (.invokevirtual 82, 3) := by decide +kernel
theorem dX6_pull_42 : decode cX6_pull 42 = .ok (.iconst 1, 1) := by decide +kernel
theorem dX6_pull_43 : decode cX6_pull 43 = .ok (.ireturn, 1) := by decide +kernel
theorem dX6_load_0 : decode cX6_load 0 = .ok (.aload_n 0, 1) := by decide +kernel
theorem dX6_load_1 : decode cX6_load 1 = .ok (.getfield 38, 3) := by decide +kernel
theorem dX6_load_4 : decode cX6_load 4 = .ok (.invokevirtual 62, 3) := by decide +kernel
theorem dX6_load_7 : decode cX6_load 7 = .ok (.ifCond .ne 24, 3) := by decide +kernel
theorem dX6_load_10 : decode cX6_load 10 = .ok (.iload_n 1, 1) := by decide +kernel
theorem dX6_load_11 : decode cX6_load 11 = .ok (.iconst 0, 1) := by decide +kernel
theorem dX6_load_12 : decode cX6_load 12 = .ok (.sipush 1000, 3) := by decide +kernel
theorem dX6_load_15 : decode cX6_load 15 = .ok (.invokestatic 66, 3) := by decide +kernel
theorem dX6_load_18 : decode cX6_load 18 = .ok (.ifCond .eq 13, 3) := by decide +kernel
theorem dX6_load_21 : decode cX6_load 21 = .ok (.iload_n 2, 1) := by decide +kernel
theorem dX6_load_22 : decode cX6_load 22 = .ok (.iconst 0, 1) := by decide +kernel
theorem dX6_load_23 : decode cX6_load 23 = .ok (.bipush 100, 2) := by decide +kernel
theorem dX6_load_25 : decode cX6_load 25 = .ok (.invokestatic 66, 3) := by decide +kernel
theorem dX6_load_28 : decode cX6_load 28 = .ok (.ifCond .ne 5, 3) := by decide +kernel
theorem dX6_load_31 : decode cX6_load 31 = .ok (.iconst 0, 1) := by decide +kernel
theorem dX6_load_32 : decode cX6_load 32 = .ok (.ireturn, 1) := by decide +kernel
theorem dX6_load_33 : decode cX6_load 33 = .ok (.aload_n 0, 1) := by decide +kernel
theorem dX6_load_34 : decode cX6_load 34 = .ok (.getfield 12, 3) := by decide +kernel
theorem dX6_load_37 : decode cX6_load 37 = .ok (.iload_n 1, 1) := by decide +kernel
theorem dX6_load_38 : decode cX6_load 38 = .ok (.iload_n 2, 1) := by decide +kernel
theorem dX6_load_39 : decode cX6_load 39 = .ok (.invokevirtual 86, 3) := by decide +kernel
theorem dX6_load_42 : decode cX6_load 42 = .ok (.iconst 1, 1) := by decide +kernel
theorem dX6_load_43 : decode cX6_load 43 = .ok (.ireturn, 1) := by decide +kernel
theorem dX6_only_0 : decode cX6_only 0 = .ok (.aload_n 0, 1) := by decide +kernel
theorem dX6_only_1 : decode cX6_only 1 = .ok (.getfield 38, 3) := by decide +kernel
theorem dX6_only_4 : decode cX6_only 4 = .ok (.invokevirtual 62, 3) := by decide +kernel
theorem dX6_only_7 : decode cX6_only 7 = .ok (.ifCond .ne 14, 3) := by decide +kernel
theorem dX6_only_10 : decode cX6_only 10 = .ok (.aload_n 0, 1) := by decide +kernel
theorem dX6_only_11 : decode cX6_only 11 = .ok (.getfield 12, 3) := by decide +kernel
theorem dX6_only_14 : decode cX6_only 14 = .ok (.getfield 89, 3) := by decide +kernel
theorem dX6_only_17 : decode cX6_only 17 = .ok (.iload_n 1, 1) := by decide +kernel
theorem dX6_only_18 : decode cX6_only 18 = .ok (.if_icmp .ne 5, 3) := by decide +kernel
theorem dX6_only_21 : decode cX6_only 21 = .ok (.iconst 0, 1) := by decide +kernel
theorem dX6_only_22 : decode cX6_only 22 = .ok (.ireturn, 1) := by decide +kernel
theorem dX6_only_23 : decode cX6_only 23 = .ok (.aload_n 0, 1) := by decide +kernel
theorem dX6_only_24 : decode cX6_only 24 = .ok (.getfield 12, 3) := by decide +kernel
theorem dX6_only_27 : decode cX6_only 27 = .ok (.iload_n 1, 1) := by decide +kernel
theorem dX6_only_28 : decode cX6_only 28 = .ok (.invokevirtual 93, 3) := by decide +kernel
theorem dX6_only_31 : decode cX6_only 31 = .ok (.iconst 1, 1) := by decide +kernel
theorem dX6_only_32 : decode cX6_only 32 = .ok (.ireturn, 1) := by decide +kernel
theorem dX6_ramp_0 : decode cX6_ramp 0 = .ok (.aload_n 0, 1) := by decide +kernel
theorem dX6_ramp_1 : decode cX6_ramp 1 = .ok (.getfield 19, 3) := by decide +kernel
theorem dX6_ramp_4 : decode cX6_ramp 4 = .ok (.aload_n 0, 1) := by decide +kernel
theorem dX6_ramp_5 : decode cX6_ramp 5 = .ok (.getfield 12, 3) := by decide +kernel
theorem dX6_ramp_8 : decode cX6_ramp 8 = .ok (.iload_n 1, 1) := by decide +kernel
theorem dX6_ramp_9 : decode cX6_ramp 9 = .ok (.invokevirtual 96, 3) := by decide +kernel
theorem dX6_ramp_12 : decode cX6_ramp 12 = .ok (.ireturn, 1) := by decide +kernel
theorem dX6_speed_0 : decode cX6_speed 0 = .ok (.iload_n 2, 1) := by decide +kernel
theorem dX6_speed_1 : decode cX6_speed 1 = .ok (.ifCond .lt 19, 3) := by decide +kernel
theorem dX6_speed_4 : decode cX6_speed 4 = .ok (.iload_n 2, 1) := by decide +kernel
theorem dX6_speed_5 : decode cX6_speed 5 = .ok (.aload_n 0, 1) := by decide +kernel
theorem dX6_speed_6 : decode cX6_speed 6 = .ok (.getfield 19, 3) := by decide +kernel
theorem dX6_speed_9 : decode cX6_speed 9 = .ok (.aload_n 0, 1) := by decide +kernel
theorem dX6_speed_10 : decode cX6_speed 10 = .ok (.getfield 12, 3) := by decide +kernel
theorem dX6_speed_13 : decode cX6_speed 13 = .ok (.iload_n 1, 1) := by decide +kernel
theorem dX6_speed_14 : decode cX6_speed 14 = .ok (.invokevirtual 96, 3) := by decide +kernel
theorem dX6_speed_17 : decode cX6_speed 17 = .ok (.if_icmp .lt 5, 3) := by decide +kernel
theorem dX6_speed_20 : decode cX6_speed 20 = .ok (.iconst (-1), 1) := by decide +kernel
theorem dX6_speed_21 : decode cX6_speed 21 = .ok (.ireturn, 1) := by decide +kernel
theorem dX6_speed_22 : decode cX6_speed 22 = .ok (.aload_n 0, 1) := by decide +kernel
theorem dX6_speed_23 : decode cX6_speed 23 = .ok (.getfield 19, 3) := by decide +kernel
theorem dX6_speed_26 : decode cX6_speed 26 = .ok (.aload_n 0, 1) := by decide +kernel
theorem dX6_speed_27 : decode cX6_speed 27 = .ok (.getfield 12, 3) := by decide +kernel
theorem dX6_speed_30 : decode cX6_speed 30 = .ok (.iload_n 1, 1) := by decide +kernel
theorem dX6_speed_31 : decode cX6_speed 31 = .ok (.iload_n 2, 1) := by decide +kernel
theorem dX6_speed_32 : decode cX6_speed 32 = .ok (.invokevirtual 100, 3) := by decide +kernel
theorem dX6_speed_35 : decode cX6_speed 35 = .ok (.ireturn, 1) := by decide +kernel
theorem dX6_slowing_0 : decode cX6_slowing 0 = .ok (.aload_n 0, 1) := by decide +kernel
theorem dX6_slowing_1 : decode cX6_slowing 1 = .ok (.getfield 12, 3) := by decide +kernel
theorem dX6_slowing_4 : decode cX6_slowing 4 = .ok (.iload_n 1, 1) := by decide +kernel
theorem dX6_slowing_5 : decode cX6_slowing 5 = .ok (.iload_n 2, 1) := by decide +kernel
theorem dX6_slowing_6 : decode cX6_slowing 6 = .ok (.invokevirtual 104, 3) := by decide +kernel
theorem dX6_slowing_9 : decode cX6_slowing 9 = .ok (.ifCond .eq 12, 3) := by decide +kernel
theorem dX6_slowing_12 : decode cX6_slowing 12 = .ok (.iload_n 3, 1) := by decide +kernel
theorem dX6_slowing_13 : decode cX6_slowing 13 = .ok (.iconst 0, 1) := by decide +kernel
theorem dX6_slowing_14 : decode cX6_slowing 14 = .ok (.iconst 2, 1) := by decide +kernel
theorem dX6_slowing_15 : decode cX6_slowing 15 = .ok (.invokestatic 66, 3) := by decide +kernel
theorem dX6_slowing_18 : decode cX6_slowing 18 = .ok (.ifCond .ne 5, 3) := by decide +kernel
theorem dX6_slowing_21 : decode cX6_slowing 21 = .ok (.iconst (-1), 1) := by decide +kernel
theorem dX6_slowing_22 : decode cX6_slowing 22 = .ok (.ireturn, 1) := by decide +kernel
theorem dX6_slowing_23 : decode cX6_slowing 23 = .ok (.aload_n 0, 1) := by decide +kernel
theorem dX6_slowing_24 : decode cX6_slowing 24 = .ok (.iload_n 1, 1) := by decide +kernel
theorem dX6_slowing_25 : decode cX6_slowing 25 = .ok (.iload_n 2, 1) := by decide +kernel
theorem dX6_slowing_26 : decode cX6_slowing 26 = .ok (.invokevirtual 108, 3) := by decide +kernel
theorem dX6_slowing_29 : decode cX6_slowing 29 = .ok (.astore 4, 2) := by decide +kernel
theorem dX6_slowing_31 : decode cX6_slowing 31 = .ok (.aload 4, 2) := by decide +kernel
theorem dX6_slowing_33 : decode cX6_slowing 33 = .ok (.iload_n 1, 1) := by decide +kernel
theorem dX6_slowing_34 : decode cX6_slowing 34 = .ok (.iload_n 2, 1) := by decide +kernel
theorem dX6_slowing_35 : decode cX6_slowing 35 = .ok (.invokevirtual 112, 3) := by decide +kernel
theorem dX6_slowing_38 : decode cX6_slowing 38 = .ok (.istore 5, 2) := by decide +kernel
theorem dX6_slowing_40 : decode cX6_slowing 40 = .ok (.iload 5, 2) := by decide +kernel
theorem dX6_slowing_42 : decode cX6_slowing 42 = .ok (.iconst (-1), 1) := by decide +kernel
theorem dX6_slowing_43 : decode cX6_slowing 43 = .ok (.if_icmp .eq 7, 3) := by decide +kernel
theorem dX6_slowing_46 : decode cX6_slowing 46 = .ok (.iload_n 3, 1) := by decide +kernel
theorem dX6_slowing_47 : decode cX6_slowing 47 = .ok (.ifCond .ne 6, 3) := by decide +kernel
theorem dX6_slowing_50 : decode cX6_slowing 50 = .ok (.iload 5, 2) := by decide +kernel
theorem dX6_slowing_52 : decode cX6_slowing 52 = .ok (.ireturn, 1) := by decide +kernel
theorem dX6_slowing_53 : decode cX6_slowing 53 = .ok (.iload_n 3, 1) := by decide +kernel
theorem dX6_slowing_54 : decode cX6_slowing 54 = .ok (.iconst 1, 1) := by decide +kernel
theorem dX6_slowing_55 : decode cX6_slowing 55 = .ok (.if_icmp .ne 11, 3) := by decide +kernel
theorem dX6_slowing_58 : decode cX6_slowing 58 = .ok (.aload 4, 2) := by decide +kernel
theorem dX6_slowing_60 : decode cX6_slowing 60 = .ok (.iload_n 1, 1) := by decide +kernel
theorem dX6_slowing_61 : decode cX6_slowing 61 = .ok (.iload_n 2, 1) := by decide +kernel
theorem dX6_slowing_62 : decode cX6_slowing 62 = .ok (.invokevirtual 116, 3) := by decide +kernel
theorem dX6_slowing_65 : decode cX6_slowing 65 = .ok (.ireturn, 1) := by decide +kernel
theorem dX6_slowing_66 : decode cX6_slowing 66 = .ok (.aload 4, 2) := by decide +kernel
theorem dX6_slowing_68 : decode cX6_slowing 68 = .ok (.aload_n 0, 1) := by decide +kernel
theorem dX6_slowing_69 : decode cX6_slowing 69 = .ok (.getfield 12, 3) := by decide +kernel
theorem dX6_slowing_72 : decode cX6_slowing 72 = .ok (.iload_n 1, 1) := by decide +kernel
theorem dX6_slowing_73 : decode cX6_slowing 73 = .ok (.iload_n 2, 1) := by decide +kernel
theorem dX6_slowing_74 : decode cX6_slowing 74 = .ok (.invokevirtual 119, 3) := by decide +kernel
theorem dX6_slowing_77 : decode cX6_slowing 77 = .ok (.istore 6, 2) := by decide +kernel
theorem dX6_slowing_79 : decode cX6_slowing 79 = .ok (.iload 6, 2) := by decide +kernel
theorem dX6_slowing_81 : decode cX6_slowing 81 = .ok (.iconst 5, 1) := by decide +kernel
theorem dX6_slowing_82 : decode cX6_slowing 82 = .ok (.if_icmp .ne 7, 3) := by decide +kernel
theorem dX6_slowing_85 : decode cX6_slowing 85 = .ok (.iconst (-1), 1) := by decide +kernel
theorem dX6_slowing_86 : decode cX6_slowing 86 = .ok (.goto 5, 3) := by decide +kernel
theorem dX6_slowing_89 : decode cX6_slowing 89 = .ok (.iload 6, 2) := by decide +kernel
theorem dX6_slowing_91 : decode cX6_slowing 91 = .ok (.ireturn, 1) := by decide +kernel
theorem dX6_move_0 : decode cX6_move 0 = .ok (.aload_n 0, 1) := by decide +kernel
theorem dX6_move_1 : decode cX6_move 1 = .ok (.getfield 38, 3) := by decide +kernel
theorem dX6_move_4 : decode cX6_move 4 = .ok (.invokevirtual 62, 3) := by decide +kernel
theorem dX6_move_7 : decode cX6_move 7 = .ok (.ifCond .ne 24, 3) := by decide +kernel
theorem dX6_move_10 : decode cX6_move 10 = .ok (.iload_n 1, 1) := by decide +kernel
theorem dX6_move_11 : decode cX6_move 11 = .ok (.invokestatic 122, 3) := by decide +kernel
theorem dX6_move_14 : decode cX6_move 14 = .ok (.ifCond .eq 17, 3) := by decide +kernel
theorem dX6_move_17 : decode cX6_move 17 = .ok (.iload_n 2, 1) := by decide +kernel
theorem dX6_move_18 : decode cX6_move 18 = .ok (.invokestatic 122, 3) := by decide +kernel
theorem dX6_move_21 : decode cX6_move 21 = .ok (.ifCond .eq 10, 3) := by decide +kernel
theorem dX6_move_24 : decode cX6_move 24 = .ok (.iload_n 3, 1) := by decide +kernel
theorem dX6_move_25 : decode cX6_move 25 = .ok (.invokestatic 122, 3) := by decide +kernel
theorem dX6_move_28 : decode cX6_move 28 = .ok (.ifCond .ne 5, 3) := by decide +kernel
theorem dX6_move_31 : decode cX6_move 31 = .ok (.iconst (-1), 1) := by decide +kernel
theorem dX6_move_32 : decode cX6_move 32 = .ok (.ireturn, 1) := by decide +kernel
theorem dX6_move_33 : decode cX6_move 33 = .ok (.iload_n 1, 1) := by decide +kernel
theorem dX6_move_34 : decode cX6_move 34 = .ok (.invokestatic 125, 3) := by decide +kernel
theorem dX6_move_37 : decode cX6_move 37 = .ok (.iload_n 2, 1) := by decide +kernel
theorem dX6_move_38 : decode cX6_move 38 = .ok (.invokestatic 125, 3) := by decide +kernel
theorem dX6_move_41 : decode cX6_move 41 = .ok (.iload_n 3, 1) := by decide +kernel
theorem dX6_move_42 : decode cX6_move 42 = .ok (.invokestatic 125, 3) := by decide +kernel
theorem dX6_move_45 : decode cX6_move 45 = .ok (.invokestatic 131, 3) := by decide +kernel
theorem dX6_move_48 : decode cX6_move 48 = .ok (.invokestatic 131, 3) := by decide +kernel
theorem dX6_move_51 : decode cX6_move 51 = .ok (.istore 4, 2) := by decide +kernel
theorem dX6_move_53 : decode cX6_move 53 = .ok (.aload_n 0, 1) := by decide +kernel
theorem dX6_move_54 : decode cX6_move 54 = .ok (.getfield 19, 3) := by decide +kernel
theorem dX6_move_57 : decode cX6_move 57 = .ok (.aload_n 0, 1) := by decide +kernel
theorem dX6_move_58 : decode cX6_move 58 = .ok (.getfield 12, 3) := by decide +kernel
theorem dX6_move_61 : decode cX6_move 61 = .ok (.iload 4, 2) := by decide +kernel
theorem dX6_move_63 : decode cX6_move 63 = .ok (.invokevirtual 96, 3) := by decide +kernel
theorem dX6_move_66 : decode cX6_move 66 = .ok (.istore 5, 2) := by decide +kernel
theorem dX6_move_68 : decode cX6_move 68 = .ok (.iload 5, 2) := by decide +kernel
theorem dX6_move_70 : decode cX6_move 70 = .ok (.iconst (-1), 1) := by decide +kernel
theorem dX6_move_71 : decode cX6_move 71 = .ok (.if_icmp .ne 5, 3) := by decide +kernel
theorem dX6_move_74 : decode cX6_move 74 = .ok (.iconst (-1), 1) := by decide +kernel
theorem dX6_move_75 : decode cX6_move 75 = .ok (.ireturn, 1) := by decide +kernel
theorem dX6_move_76 : decode cX6_move 76 = .ok (.aload_n 0, 1) := by decide +kernel
theorem dX6_move_77 : decode cX6_move 77 = .ok (.getfield 38, 3) := by decide +kernel
theorem dX6_move_80 : decode cX6_move 80 = .ok (.iload 4, 2) := by decide +kernel
theorem dX6_move_82 : decode cX6_move 82 = .ok (.iload 5, 2) := by decide +kernel
theorem dX6_move_84 : decode cX6_move 84 = .ok (.invokevirtual 134, 3) := by decide +kernel
theorem dX6_move_87 : decode cX6_move 87 = .ok (.aload_n 0, 1) := by decide +kernel
theorem dX6_move_88 : decode cX6_move 88 = .ok (.getfield 45, 3) := by decide +kernel
theorem dX6_move_91 : decode cX6_move 91 = .ok (.iload_n 1, 1) := by decide +kernel
theorem dX6_move_92 : decode cX6_move 92 = .ok (.invokevirtual 137, 3) := by decide +kernel
theorem dX6_move_95 : decode cX6_move 95 = .ok (.aload_n 0, 1) := by decide +kernel
theorem dX6_move_96 : decode cX6_move 96 = .ok (.getfield 49, 3) := by decide +kernel
theorem dX6_move_99 : decode cX6_move 99 = .ok (.iload_n 2, 1) := by decide +kernel
theorem dX6_move_100 : decode cX6_move 100 = .ok (.invokevirtual 137, 3) := by decide +kernel
theorem dX6_move_103 : decode cX6_move 103 = .ok (.aload_n 0, 1) := by decide +kernel
theorem dX6_move_104 : decode cX6_move 104 = .ok (.getfield 52, 3) := by decide +kernel
theorem dX6_move_107 : decode cX6_move 107 = .ok (.iload_n 3, 1) := by decide +kernel
theorem dX6_move_108 : decode cX6_move 108 = .ok (.invokevirtual 137, 3) := by decide +kernel
theorem dX6_move_111 : decode cX6_move 111 = .ok (.iload 5, 2) := by decide +kernel
theorem dX6_move_113 : decode cX6_move 113 = .ok (.ireturn, 1) := by decide +kernel
theorem dX6_tick_0 : decode cX6_tick 0 = .ok (.aload_n 0, 1) := by decide +kernel
theorem dX6_tick_1 : decode cX6_tick 1 = .ok (.getfield 38, 3) := by decide +kernel
theorem dX6_tick_4 : decode cX6_tick 4 = .ok (.invokevirtual 62, 3) := by decide +kernel
theorem dX6_tick_7 : decode cX6_tick 7 = .ok (.ifCond .eq 14, 3) := by decide +kernel
theorem dX6_tick_10 : decode cX6_tick 10 = .ok (.iload_n 1, 1) := by decide +kernel
theorem dX6_tick_11 : decode cX6_tick 11 = .ok (.iconst 0, 1) := by decide +kernel
theorem dX6_tick_12 : decode cX6_tick 12 = .ok (.sipush 1000, 3) := by decide +kernel
theorem dX6_tick_15 : decode cX6_tick 15 = .ok (.invokestatic 66, 3) := by decide +kernel
theorem dX6_tick_18 : decode cX6_tick 18 = .ok (.ifCond .ne 5, 3) := by decide +kernel
theorem dX6_tick_21 : decode cX6_tick 21 = .ok (.iconst (-1), 1) := by decide +kernel
theorem dX6_tick_22 : decode cX6_tick 22 = .ok (.ireturn, 1) := by decide +kernel
theorem dX6_tick_23 : decode cX6_tick 23 = .ok (.iconst 0, 1) := by decide +kernel
theorem dX6_tick_24 : decode cX6_tick 24 = .ok (.istore_n 2, 1) := by decide +kernel
theorem dX6_tick_25 : decode cX6_tick 25 = .ok (.iload_n 2, 1) := by decide +kernel
theorem dX6_tick_26 : decode cX6_tick 26 = .ok (.iload_n 1, 1) := by decide +kernel
theorem dX6_tick_27 : decode cX6_tick 27 = .ok (.if_icmp .ge 23, 3) := by decide +kernel
theorem dX6_tick_30 : decode cX6_tick 30 = .ok (.aload_n 0, 1) := by decide +kernel
theorem dX6_tick_31 : decode cX6_tick 31 = .ok (.getfield 38, 3) := by decide +kernel
theorem dX6_tick_34 : decode cX6_tick 34 = .ok (.invokevirtual 62, 3) := by decide +kernel
theorem dX6_tick_37 : decode cX6_tick 37 = .ok (.ifCond .eq 13, 3) := by decide +kernel
theorem dX6_tick_40 : decode cX6_tick 40 = .ok (.aload_n 0, 1) := by decide +kernel
theorem dX6_tick_41 : decode cX6_tick 41 = .ok (.invokevirtual 140, 3) := by decide +kernel
theorem dX6_tick_44 : decode cX6_tick 44 = .ok (.iinc 2 1, 3) := by decide +kernel
theorem dX6_tick_47 : decode cX6_tick 47 = .ok (.goto (-22), 3) := by decide +kernel
theorem dX6_tick_50 : decode cX6_tick 50 = .ok (.iload_n 2, 1) := by decide +kernel
theorem dX6_tick_51 : decode cX6_tick 51 = .ok (.ireturn, 1) := by decide +kernel
theorem dX6_stop_0 : decode cX6_stop 0 = .ok (.aload_n 0, 1) := by decide +kernel
theorem dX6_stop_1 : decode cX6_stop 1 = .ok (.getfield 38, 3) := by decide +kernel
theorem dX6_stop_4 : decode cX6_stop 4 = .ok (.invokevirtual 62, 3) := by decide +kernel
theorem dX6_stop_7 : decode cX6_stop 7 = .ok (.ifCond .eq 13, 3) := by decide +kernel
theorem dX6_stop_10 : decode cX6_stop 10 = .ok (.aload_n 0, 1) := by decide +kernel
theorem dX6_stop_11 : decode cX6_stop 11 = .ok (.getfield 38, 3) := by decide +kernel
theorem dX6_stop_14 : decode cX6_stop 14 = .ok (.getfield 143, 3) := by decide +kernel
theorem dX6_stop_17 : decode cX6_stop 17 = .ok (.ifCond .eq 5, 3) := by decide +kernel
theorem dX6_stop_20 : decode cX6_stop 20 = .ok (.iconst (-1), 1) := by decide +kernel
theorem dX6_stop_21 : decode cX6_stop 21 = .ok (.ireturn, 1) := by decide +kernel
theorem dX6_stop_22 : decode cX6_stop 22 = .ok (.aload_n 0, 1) := by decide +kernel
theorem dX6_stop_23 : decode cX6_stop 23 = .ok (.aload_n 0, 1) := by decide +kernel
theorem dX6_stop_24 : decode cX6_stop 24 = .ok (.getfield 38, 3) := by decide +kernel
theorem dX6_stop_27 : decode cX6_stop 27 = .ok (.getfield 146, 3) := by decide +kernel
theorem dX6_stop_30 : decode cX6_stop 30 = .ok (.aload_n 0, 1) := by decide +kernel
theorem dX6_stop_31 : decode cX6_stop 31 = .ok (.getfield 38, 3) := by decide +kernel
theorem dX6_stop_34 : decode cX6_stop 34 = .ok (.getfield 150, 3) := by decide +kernel
theorem dX6_stop_37 : decode cX6_stop 37 = .ok (.invokevirtual 108, 3) := by decide +kernel
theorem dX6_stop_40 : decode cX6_stop 40 = .ok (.astore_n 1, 1) := by decide +kernel
theorem dX6_stop_41 : decode cX6_stop 41 = .ok (.aload_n 1, 1) := by decide +kernel
theorem dX6_stop_42 : decode cX6_stop 42 = .ok (.aload_n 0, 1) := by decide +kernel
theorem dX6_stop_43 : decode cX6_stop 43 = .ok (.getfield 38, 3) := by decide +kernel
theorem dX6_stop_46 : decode cX6_stop 46 = .ok (.getfield 146, 3) := by decide +kernel
theorem dX6_stop_49 : decode cX6_stop 49 = .ok (.aload_n 0, 1) := by decide +kernel
theorem dX6_stop_50 : decode cX6_stop 50 = .ok (.getfield 38, 3) := by decide +kernel
theorem dX6_stop_53 : decode cX6_stop 53 = .ok (.getfield 150, 3) := by decide +kernel
theorem dX6_stop_56 : decode cX6_stop 56 = .ok (.invokevirtual 112, 3) := by decide +kernel
theorem dX6_stop_59 : decode cX6_stop 59 = .ok (.istore_n 2, 1) := by decide +kernel
theorem dX6_stop_60 : decode cX6_stop 60 = .ok (.iload_n 2, 1) := by decide +kernel
theorem dX6_stop_61 : decode cX6_stop 61 = .ok (.iconst (-1), 1) := by decide +kernel
theorem dX6_stop_62 : decode cX6_stop 62 = .ok (.if_icmp .ne 5, 3) := by decide +kernel
theorem dX6_stop_65 : decode cX6_stop 65 = .ok (.iconst (-1), 1) := by decide +kernel
theorem dX6_stop_66 : decode cX6_stop 66 = .ok (.ireturn, 1) := by decide +kernel
theorem dX6_stop_67 : decode cX6_stop 67 = .ok (.aload_n 0, 1) := by decide +kernel
theorem dX6_stop_68 : decode cX6_stop 68 = .ok (.getfield 38, 3) := by decide +kernel
theorem dX6_stop_71 : decode cX6_stop 71 = .ok (.iload_n 2, 1) := by decide +kernel
theorem dX6_stop_72 : decode cX6_stop 72 = .ok (.aload_n 1, 1) := by decide +kernel
theorem dX6_stop_73 : decode cX6_stop 73 = .ok (.aload_n 0, 1) := by decide +kernel
theorem dX6_stop_74 : decode cX6_stop 74 = .ok (.getfield 28, 3) := by decide +kernel
theorem dX6_stop_77 : decode cX6_stop 77 = .ok (.if_acmp .ne 7, 3) := by decide +kernel
theorem dX6_stop_80 : decode cX6_stop 80 = .ok (.iconst 1, 1) := by decide +kernel
theorem dX6_stop_81 : decode cX6_stop 81 = .ok (.goto 4, 3) := by decide +kernel
theorem dX6_stop_84 : decode cX6_stop 84 = .ok (.iconst 0, 1) := by decide +kernel
theorem dX6_stop_85 : decode cX6_stop 85 = .ok (.invokevirtual 153, 3) := by decide +kernel
theorem dX6_stop_88 : decode cX6_stop 88 = .ok (.iload_n 2, 1) := by decide +kernel
theorem dX6_stop_89 : decode cX6_stop 89 = .ok (.ireturn, 1) := by decide +kernel
theorem dX6_place_0 : decode cX6_place 0 = .ok (.aload_n 0, 1) := by decide +kernel
theorem dX6_place_1 : decode cX6_place 1 = .ok (.iload_n 1, 1) := by decide +kernel
theorem dX6_place_2 : decode cX6_place 2 = .ok (.invokevirtual 156, 3) := by decide +kernel
theorem dX6_place_5 : decode cX6_place 5 = .ok (.astore_n 3, 1) := by decide +kernel
theorem dX6_place_6 : decode cX6_place 6 = .ok (.aload_n 3, 1) := by decide +kernel
theorem dX6_place_7 : decode cX6_place 7 = .ok (.ifnonnull 11, 3) := by decide +kernel
theorem dX6_place_10 : decode cX6_place 10 = .ok (.new 160, 3) := by decide +kernel
theorem dX6_place_13 : decode cX6_place 13 = .ok (.dup, 1) := by decide +kernel
theorem dX6_place_14 : decode cX6_place 14 = .ok (.invokespecial 162, 3) := by decide +kernel
theorem dX6_place_17 : decode cX6_place 17 = .ok (.athrow, 1) := by decide +kernel
theorem dX6_place_18 : decode cX6_place 18 = .ok (.iload_n 2, 1) := by decide +kernel
theorem dX6_place_19 : decode cX6_place 19 = .ok (.ifCond .eq 10, 3) := by decide +kernel
theorem dX6_place_22 : decode cX6_place 22 = .ok (.aload_n 3, 1) := by decide +kernel
theorem dX6_place_23 : decode cX6_place 23 = .ok (.getfield 163, 3) := by decide +kernel
theorem dX6_place_26 : decode cX6_place 26 = .ok (.goto 7, 3) := by decide +kernel
theorem dX6_place_29 : decode cX6_place 29 = .ok (.aload_n 3, 1) := by decide +kernel
theorem dX6_place_30 : decode cX6_place 30 = .ok (.getfield 166, 3) := by decide +kernel
theorem dX6_place_33 : decode cX6_place 33 = .ok (.ireturn, 1) := by decide +kernel
theorem dX6_state_0 : decode cX6_state 0 = .ok (.iload_n 1, 1) := by decide +kernel
theorem dX6_state_1 : decode cX6_state 1 = .ok (.tableswitch 139 0 8 #[51, 67, 75, 83, 91, 99, 107, 115, 123], 51) := by decide +kernel
theorem dX6_state_52 : decode cX6_state 52 = .ok (.aload_n 0, 1) := by decide +kernel
theorem dX6_state_53 : decode cX6_state 53 = .ok (.getfield 38, 3) := by decide +kernel
theorem dX6_state_56 : decode cX6_state 56 = .ok (.invokevirtual 62, 3) := by decide +kernel
theorem dX6_state_59 : decode cX6_state 59 = .ok (.ifCond .eq 7, 3) := by decide +kernel
theorem dX6_state_62 : decode cX6_state 62 = .ok (.iconst 1, 1) := by decide +kernel
theorem dX6_state_63 : decode cX6_state 63 = .ok (.goto 4, 3) := by decide +kernel
theorem dX6_state_66 : decode cX6_state 66 = .ok (.iconst 0, 1) := by decide +kernel
theorem dX6_state_67 : decode cX6_state 67 = .ok (.ireturn, 1) := by decide +kernel
theorem dX6_state_68 : decode cX6_state 68 = .ok (.aload_n 0, 1) := by decide +kernel
theorem dX6_state_69 : decode cX6_state 69 = .ok (.getfield 38, 3) := by decide +kernel
theorem dX6_state_72 : decode cX6_state 72 = .ok (.getfield 146, 3) := by decide +kernel
theorem dX6_state_75 : decode cX6_state 75 = .ok (.ireturn, 1) := by decide +kernel
theorem dX6_state_76 : decode cX6_state 76 = .ok (.aload_n 0, 1) := by decide +kernel
theorem dX6_state_77 : decode cX6_state 77 = .ok (.getfield 38, 3) := by decide +kernel
theorem dX6_state_80 : decode cX6_state 80 = .ok (.getfield 150, 3) := by decide +kernel
theorem dX6_state_83 : decode cX6_state 83 = .ok (.ireturn, 1) := by decide +kernel
theorem dX6_state_84 : decode cX6_state 84 = .ok (.aload_n 0, 1) := by decide +kernel
theorem dX6_state_85 : decode cX6_state 85 = .ok (.getfield 38, 3) := by decide +kernel
theorem dX6_state_88 : decode cX6_state 88 = .ok (.getfield 169, 3) := by decide +kernel
theorem dX6_state_91 : decode cX6_state 91 = .ok (.ireturn, 1) := by decide +kernel
theorem dX6_state_92 : decode cX6_state 92 = .ok (.aload_n 0, 1) := by decide +kernel
theorem dX6_state_93 : decode cX6_state 93 = .ok (.getfield 38, 3) := by decide +kernel
theorem dX6_state_96 : decode cX6_state 96 = .ok (.getfield 172, 3) := by decide +kernel
theorem dX6_state_99 : decode cX6_state 99 = .ok (.ireturn, 1) := by decide +kernel
theorem dX6_state_100 : decode cX6_state 100 = .ok (.aload_n 0, 1) := by decide +kernel
theorem dX6_state_101 : decode cX6_state 101 = .ok (.getfield 38, 3) := by decide +kernel
theorem dX6_state_104 : decode cX6_state 104 = .ok (.getfield 175, 3) := by decide +kernel
theorem dX6_state_107 : decode cX6_state 107 = .ok (.ireturn, 1) := by decide +kernel
theorem dX6_state_108 : decode cX6_state 108 = .ok (.aload_n 0, 1) := by decide +kernel
theorem dX6_state_109 : decode cX6_state 109 = .ok (.getfield 38, 3) := by decide +kernel
theorem dX6_state_112 : decode cX6_state 112 = .ok (.getfield 178, 3) := by decide +kernel
theorem dX6_state_115 : decode cX6_state 115 = .ok (.ireturn, 1) := by decide +kernel
theorem dX6_state_116 : decode cX6_state 116 = .ok (.aload_n 0, 1) := by decide +kernel
theorem dX6_state_117 : decode cX6_state 117 = .ok (.getfield 38, 3) := by decide +kernel
theorem dX6_state_120 : decode cX6_state 120 = .ok (.getfield 181, 3) := by decide +kernel
theorem dX6_state_123 : decode cX6_state 123 = .ok (.ireturn, 1) := by decide +kernel
theorem dX6_state_124 : decode cX6_state 124 = .ok (.aload_n 0, 1) := by decide +kernel
theorem dX6_state_125 : decode cX6_state 125 = .ok (.getfield 38, 3) := by decide +kernel
theorem dX6_state_128 : decode cX6_state 128 = .ok (.getfield 143, 3) := by decide +kernel
theorem dX6_state_131 : decode cX6_state 131 = .ok (.ifCond .eq 7, 3) := by decide +kernel
theorem dX6_state_134 : decode cX6_state 134 = .ok (.iconst 1, 1) := by decide +kernel
theorem dX6_state_135 : decode cX6_state 135 = .ok (.goto 4, 3) := by decide +kernel
theorem dX6_state_138 : decode cX6_state 138 = .ok (.iconst 0, 1) := by decide +kernel
theorem dX6_state_139 : decode cX6_state 139 = .ok (.ireturn, 1) := by decide +kernel
theorem dX6_state_140 : decode cX6_state 140 = .ok (.iconst (-1), 1) := by decide +kernel
theorem dX6_state_141 : decode cX6_state 141 = .ok (.ireturn, 1) := by decide +kernel
theorem dX6_at_0 : decode cX6_at 0 = .ok (.aload_n 0, 1) := by decide +kernel
theorem dX6_at_1 : decode cX6_at 1 = .ok (.iload_n 1, 1) := by decide +kernel
theorem dX6_at_2 : decode cX6_at 2 = .ok (.invokevirtual 156, 3) := by decide +kernel
theorem dX6_at_5 : decode cX6_at 5 = .ok (.astore_n 3, 1) := by decide +kernel
theorem dX6_at_6 : decode cX6_at 6 = .ok (.aload_n 3, 1) := by decide +kernel
theorem dX6_at_7 : decode cX6_at 7 = .ok (.ifnull 16, 3) := by decide +kernel
theorem dX6_at_10 : decode cX6_at 10 = .ok (.iload_n 2, 1) := by decide +kernel
theorem dX6_at_11 : decode cX6_at 11 = .ok (.sipush (-2000), 3) := by decide +kernel
theorem dX6_at_14 : decode cX6_at 14 = .ok (.sipush 2000, 3) := by decide +kernel
theorem dX6_at_17 : decode cX6_at 17 = .ok (.invokestatic 66, 3) := by decide +kernel
theorem dX6_at_20 : decode cX6_at 20 = .ok (.ifCond .ne 5, 3) := by decide +kernel
theorem dX6_at_23 : decode cX6_at 23 = .ok (.iconst 0, 1) := by decide +kernel
theorem dX6_at_24 : decode cX6_at 24 = .ok (.ireturn, 1) := by decide +kernel
theorem dX6_at_25 : decode cX6_at 25 = .ok (.aload_n 3, 1) := by decide +kernel
theorem dX6_at_26 : decode cX6_at 26 = .ok (.iload_n 2, 1) := by decide +kernel
theorem dX6_at_27 : decode cX6_at 27 = .ok (.invokevirtual 184, 3) := by decide +kernel
theorem dX6_at_30 : decode cX6_at 30 = .ok (.iconst 1, 1) := by decide +kernel
theorem dX6_at_31 : decode cX6_at 31 = .ok (.ireturn, 1) := by decide +kernel
theorem dX6_on_0 : decode cX6_on 0 = .ok (.aload_n 0, 1) := by decide +kernel
theorem dX6_on_1 : decode cX6_on 1 = .ok (.iload_n 1, 1) := by decide +kernel
theorem dX6_on_2 : decode cX6_on 2 = .ok (.invokevirtual 156, 3) := by decide +kernel
theorem dX6_on_5 : decode cX6_on 5 = .ok (.astore_n 2, 1) := by decide +kernel
theorem dX6_on_6 : decode cX6_on 6 = .ok (.aload_n 2, 1) := by decide +kernel
theorem dX6_on_7 : decode cX6_on 7 = .ok (.ifnull 10, 3) := by decide +kernel
theorem dX6_on_10 : decode cX6_on 10 = .ok (.aload_n 2, 1) := by decide +kernel
theorem dX6_on_11 : decode cX6_on 11 = .ok (.getfield 187, 3) := by decide +kernel
theorem dX6_on_14 : decode cX6_on 14 = .ok (.ifCond .ne 5, 3) := by decide +kernel
theorem dX6_on_17 : decode cX6_on 17 = .ok (.iconst (-1), 1) := by decide +kernel
theorem dX6_on_18 : decode cX6_on 18 = .ok (.ireturn, 1) := by decide +kernel
theorem dX6_on_19 : decode cX6_on 19 = .ok (.aload_n 2, 1) := by decide +kernel
theorem dX6_on_20 : decode cX6_on 20 = .ok (.invokevirtual 190, 3) := by decide +kernel
theorem dX6_on_23 : decode cX6_on 23 = .ok (.ifCond .eq 7, 3) := by decide +kernel
theorem dX6_on_26 : decode cX6_on 26 = .ok (.iconst 1, 1) := by decide +kernel
theorem dX6_on_27 : decode cX6_on 27 = .ok (.goto 4, 3) := by decide +kernel
theorem dX6_on_30 : decode cX6_on 30 = .ok (.iconst 0, 1) := by decide +kernel
theorem dX6_on_31 : decode cX6_on 31 = .ok (.ireturn, 1) := by decide +kernel
theorem dX6_home_0 : decode cX6_home 0 = .ok (.aload_n 0, 1) := by decide +kernel
theorem dX6_home_1 : decode cX6_home 1 = .ok (.iload_n 1, 1) := by decide +kernel
theorem dX6_home_2 : decode cX6_home 2 = .ok (.invokevirtual 156, 3) := by decide +kernel
theorem dX6_home_5 : decode cX6_home 5 = .ok (.astore_n 2, 1) := by decide +kernel
theorem dX6_home_6 : decode cX6_home 6 = .ok (.aload_n 2, 1) := by decide +kernel
theorem dX6_home_7 : decode cX6_home 7 = .ok (.ifnull 20, 3) := by decide +kernel
theorem dX6_home_10 : decode cX6_home 10 = .ok (.aload_n 2, 1) := by decide +kernel
theorem dX6_home_11 : decode cX6_home 11 = .ok (.getfield 187, 3) := by decide +kernel
theorem dX6_home_14 : decode cX6_home 14 = .ok (.ifCond .eq 13, 3) := by decide +kernel
theorem dX6_home_17 : decode cX6_home 17 = .ok (.aload_n 0, 1) := by decide +kernel
theorem dX6_home_18 : decode cX6_home 18 = .ok (.getfield 38, 3) := by decide +kernel
theorem dX6_home_21 : decode cX6_home 21 = .ok (.invokevirtual 62, 3) := by decide +kernel
theorem dX6_home_24 : decode cX6_home 24 = .ok (.ifCond .eq 5, 3) := by decide +kernel
theorem dX6_home_27 : decode cX6_home 27 = .ok (.iconst (-1), 1) := by decide +kernel
theorem dX6_home_28 : decode cX6_home 28 = .ok (.ireturn, 1) := by decide +kernel
theorem dX6_home_29 : decode cX6_home 29 = .ok (.aload_n 2, 1) := by decide +kernel
theorem dX6_home_30 : decode cX6_home 30 = .ok (.invokevirtual 193, 3) := by decide +kernel
theorem dX6_home_33 : decode cX6_home 33 = .ok (.ireturn, 1) := by decide +kernel
theorem dX6_table_0 : decode cX6_table 0 = .ok (.iload_n 1, 1) := by decide +kernel
theorem dX6_table_1 : decode cX6_table 1 = .ok (.iconst 1, 1) := by decide +kernel
theorem dX6_table_2 : decode cX6_table 2 = .ok (.if_icmp .eq 19, 3) := by decide +kernel
theorem dX6_table_5 : decode cX6_table 5 = .ok (.iload_n 1, 1) := by decide +kernel
theorem dX6_table_6 : decode cX6_table 6 = .ok (.iconst 2, 1) := by decide +kernel
theorem dX6_table_7 : decode cX6_table 7 = .ok (.if_icmp .eq 14, 3) := by decide +kernel
theorem dX6_table_10 : decode cX6_table 10 = .ok (.iload_n 1, 1) := by decide +kernel
theorem dX6_table_11 : decode cX6_table 11 = .ok (.iconst 4, 1) := by decide +kernel
theorem dX6_table_12 : decode cX6_table 12 = .ok (.if_icmp .eq 9, 3) := by decide +kernel
theorem dX6_table_15 : decode cX6_table 15 = .ok (.iload_n 1, 1) := by decide +kernel
theorem dX6_table_16 : decode cX6_table 16 = .ok (.bipush 8, 2) := by decide +kernel
theorem dX6_table_18 : decode cX6_table 18 = .ok (.if_icmp .ne 7, 3) := by decide +kernel
theorem dX6_table_21 : decode cX6_table 21 = .ok (.iconst 1, 1) := by decide +kernel
theorem dX6_table_22 : decode cX6_table 22 = .ok (.goto 4, 3) := by decide +kernel
theorem dX6_table_25 : decode cX6_table 25 = .ok (.iconst 0, 1) := by decide +kernel
theorem dX6_table_26 : decode cX6_table 26 = .ok (.istore_n 3, 1) := by decide +kernel
theorem dX6_table_27 : decode cX6_table 27 = .ok (.iload_n 3, 1) := by decide +kernel
theorem dX6_table_28 : decode cX6_table 28 = .ok (.ifCond .eq 13, 3) := by decide +kernel
theorem dX6_table_31 : decode cX6_table 31 = .ok (.iload_n 2, 1) := by decide +kernel
theorem dX6_table_32 : decode cX6_table 32 = .ok (.iconst 1, 1) := by decide +kernel
theorem dX6_table_33 : decode cX6_table 33 = .ok (.bipush 100, 2) := by decide +kernel
theorem dX6_table_35 : decode cX6_table 35 = .ok (.invokestatic 66, 3) := by decide +kernel
theorem dX6_table_38 : decode cX6_table 38 = .ok (.ifCond .ne 5, 3) := by decide +kernel
theorem dX6_table_41 : decode cX6_table 41 = .ok (.iconst 0, 1) := by decide +kernel
theorem dX6_table_42 : decode cX6_table 42 = .ok (.ireturn, 1) := by decide +kernel
theorem dX6_table_43 : decode cX6_table 43 = .ok (.aload_n 0, 1) := by decide +kernel
theorem dX6_table_44 : decode cX6_table 44 = .ok (.getfield 58, 3) := by decide +kernel
theorem dX6_table_47 : decode cX6_table 47 = .ok (.iload_n 1, 1) := by decide +kernel
theorem dX6_table_48 : decode cX6_table 48 = .ok (.iload_n 2, 1) := by decide +kernel
theorem dX6_table_49 : decode cX6_table 49 = .ok (.invokevirtual 197, 3) := by decide +kernel
theorem dX6_table_52 : decode cX6_table 52 = .ok (.iconst 1, 1) := by decide +kernel
theorem dX6_table_53 : decode cX6_table 53 = .ok (.ireturn, 1) := by decide +kernel
theorem dX6_set_0 : decode cX6_set 0 = .ok (.iload_n 1, 1) := by decide +kernel
theorem dX6_set_1 : decode cX6_set 1 = .ok (.iconst 0, 1) := by decide +kernel
theorem dX6_set_2 : decode cX6_set 2 = .ok (.aload_n 0, 1) := by decide +kernel
theorem dX6_set_3 : decode cX6_set 3 = .ok (.getfield 58, 3) := by decide +kernel
theorem dX6_set_6 : decode cX6_set 6 = .ok (.getfield 200, 3) := by decide +kernel
theorem dX6_set_9 : decode cX6_set 9 = .ok (.invokestatic 66, 3) := by decide +kernel
theorem dX6_set_12 : decode cX6_set 12 = .ok (.ifCond .eq 18, 3) := by decide +kernel
theorem dX6_set_15 : decode cX6_set 15 = .ok (.iload_n 2, 1) := by decide +kernel
theorem dX6_set_16 : decode cX6_set 16 = .ok (.iconst 0, 1) := by decide +kernel
theorem dX6_set_17 : decode cX6_set 17 = .ok (.aload_n 0, 1) := by decide +kernel
theorem dX6_set_18 : decode cX6_set 18 = .ok (.getfield 58, 3) := by decide +kernel
theorem dX6_set_21 : decode cX6_set 21 = .ok (.getfield 203, 3) := by decide +kernel
theorem dX6_set_24 : decode cX6_set 24 = .ok (.invokestatic 66, 3) := by decide +kernel
theorem dX6_set_27 : decode cX6_set 27 = .ok (.ifCond .ne 5, 3) := by decide +kernel
theorem dX6_set_30 : decode cX6_set 30 = .ok (.iconst 0, 1) := by decide +kernel
theorem dX6_set_31 : decode cX6_set 31 = .ok (.ireturn, 1) := by decide +kernel
theorem dX6_set_32 : decode cX6_set 32 = .ok (.aload_n 0, 1) := by decide +kernel
theorem dX6_set_33 : decode cX6_set 33 = .ok (.getfield 58, 3) := by decide +kernel
theorem dX6_set_36 : decode cX6_set 36 = .ok (.iload_n 1, 1) := by decide +kernel
theorem dX6_set_37 : decode cX6_set 37 = .ok (.iload_n 2, 1) := by decide +kernel
theorem dX6_set_38 : decode cX6_set 38 = .ok (.invokevirtual 206, 3) := by decide +kernel
theorem dX6_set_41 : decode cX6_set 41 = .ok (.iconst 1, 1) := by decide +kernel
theorem dX6_set_42 : decode cX6_set 42 = .ok (.ireturn, 1) := by decide +kernel
theorem dX6_current_0 : decode cX6_current 0 = .ok (.iload_n 1, 1) := by decide +kernel
theorem dX6_current_1 : decode cX6_current 1 = .ok (.iconst 0, 1) := by decide +kernel
theorem dX6_current_2 : decode cX6_current 2 = .ok (.sipush 1000, 3) := by decide +kernel
theorem dX6_current_5 : decode cX6_current 5 = .ok (.invokestatic 66, 3) := by decide +kernel
theorem dX6_current_8 : decode cX6_current 8 = .ok (.ifCond .eq 12, 3) := by decide +kernel
theorem dX6_current_11 : decode cX6_current 11 = .ok (.iload_n 2, 1) := by decide +kernel
theorem dX6_current_12 : decode cX6_current 12 = .ok (.iconst 0, 1) := by decide +kernel
theorem dX6_current_13 : decode cX6_current 13 = .ok (.iconst 1, 1) := by decide +kernel
theorem dX6_current_14 : decode cX6_current 14 = .ok (.invokestatic 66, 3) := by decide +kernel
theorem dX6_current_17 : decode cX6_current 17 = .ok (.ifCond .ne 11, 3) := by decide +kernel
theorem dX6_current_20 : decode cX6_current 20 = .ok (.new 160, 3) := by decide +kernel
theorem dX6_current_23 : decode cX6_current 23 = .ok (.dup, 1) := by decide +kernel
theorem dX6_current_24 : decode cX6_current 24 = .ok (.invokespecial 162, 3) := by decide +kernel
theorem dX6_current_27 : decode cX6_current 27 = .ok (.athrow, 1) := by decide +kernel
theorem dX6_current_28 : decode cX6_current 28 = .ok (.iload_n 2, 1) := by decide +kernel
theorem dX6_current_29 : decode cX6_current 29 = .ok (.ifCond .ne 14, 3) := by decide +kernel
theorem dX6_current_32 : decode cX6_current 32 = .ok (.aload_n 0, 1) := by decide +kernel
theorem dX6_current_33 : decode cX6_current 33 = .ok (.getfield 58, 3) := by decide +kernel
theorem dX6_current_36 : decode cX6_current 36 = .ok (.iload_n 1, 1) := by decide +kernel
theorem dX6_current_37 : decode cX6_current 37 = .ok (.invokevirtual 209, 3) := by decide +kernel
theorem dX6_current_40 : decode cX6_current 40 = .ok (.goto 11, 3) := by decide +kernel
theorem dX6_current_43 : decode cX6_current 43 = .ok (.aload_n 0, 1) := by decide +kernel
theorem dX6_current_44 : decode cX6_current 44 = .ok (.getfield 58, 3) := by decide +kernel
theorem dX6_current_47 : decode cX6_current 47 = .ok (.iload_n 1, 1) := by decide +kernel
theorem dX6_current_48 : decode cX6_current 48 = .ok (.invokevirtual 212, 3) := by decide +kernel
theorem dX6_current_51 : decode cX6_current 51 = .ok (.ireturn, 1) := by decide +kernel
theorem dX6_miss_0 : decode cX6_miss 0 = .ok (.iload_n 1, 1) := by decide +kernel
theorem dX6_miss_1 : decode cX6_miss 1 = .ok (.iconst 0, 1) := by decide +kernel
theorem dX6_miss_2 : decode cX6_miss 2 = .ok (.aload_n 0, 1) := by decide +kernel
theorem dX6_miss_3 : decode cX6_miss 3 = .ok (.getfield 58, 3) := by decide +kernel
theorem dX6_miss_6 : decode cX6_miss 6 = .ok (.getfield 200, 3) := by decide +kernel
theorem dX6_miss_9 : decode cX6_miss 9 = .ok (.invokestatic 66, 3) := by decide +kernel
theorem dX6_miss_12 : decode cX6_miss 12 = .ok (.ifCond .eq 14, 3) := by decide +kernel
theorem dX6_miss_15 : decode cX6_miss 15 = .ok (.aload_n 0, 1) := by decide +kernel
theorem dX6_miss_16 : decode cX6_miss 16 = .ok (.getfield 58, 3) := by decide +kernel
theorem dX6_miss_19 : decode cX6_miss 19 = .ok (.iload_n 1, 1) := by decide +kernel
theorem dX6_miss_20 : decode cX6_miss 20 = .ok (.invokevirtual 215, 3) := by decide +kernel
theorem dX6_miss_23 : decode cX6_miss 23 = .ok (.goto 4, 3) := by decide +kernel
theorem dX6_miss_26 : decode cX6_miss 26 = .ok (.iconst (-1), 1) := by decide +kernel
theorem dX6_miss_27 : decode cX6_miss 27 = .ok (.ireturn, 1) := by decide +kernel
theorem dX6_evenness_0 : decode cX6_evenness 0 = .ok (.aload_n 0, 1) := by decide +kernel
theorem dX6_evenness_1 : decode cX6_evenness 1 = .ok (.getfield 58, 3) := by decide +kernel
theorem dX6_evenness_4 : decode cX6_evenness 4 = .ok (.invokevirtual 218, 3) := by decide +kernel
theorem dX6_evenness_7 : decode cX6_evenness 7 = .ok (.ireturn, 1) := by decide +kernel
theorem dX6_smooth_0 : decode cX6_smooth 0 = .ok (.aload_n 0, 1) := by decide +kernel
theorem dX6_smooth_1 : decode cX6_smooth 1 = .ok (.getfield 58, 3) := by decide +kernel
theorem dX6_smooth_4 : decode cX6_smooth 4 = .ok (.invokevirtual 221, 3) := by decide +kernel
theorem dX6_smooth_7 : decode cX6_smooth 7 = .ok (.aload_n 0, 1) := by decide +kernel
theorem dX6_smooth_8 : decode cX6_smooth 8 = .ok (.getfield 58, 3) := by decide +kernel
theorem dX6_smooth_11 : decode cX6_smooth 11 = .ok (.invokevirtual 218, 3) := by decide +kernel
theorem dX6_smooth_14 : decode cX6_smooth 14 = .ok (.ireturn, 1) := by decide +kernel
theorem dX6_isWithin_0 : decode cX6_isWithin 0 = .ok (.iload_n 0, 1) := by decide +kernel
theorem dX6_isWithin_1 : decode cX6_isWithin 1 = .ok (.iload_n 1, 1) := by decide +kernel
theorem dX6_isWithin_2 : decode cX6_isWithin 2 = .ok (.if_icmp .lt 12, 3) := by decide +kernel
theorem dX6_isWithin_5 : decode cX6_isWithin 5 = .ok (.iload_n 0, 1) := by decide +kernel
theorem dX6_isWithin_6 : decode cX6_isWithin 6 = .ok (.iload_n 2, 1) := by decide +kernel
theorem dX6_isWithin_7 : decode cX6_isWithin 7 = .ok (.if_icmp .gt 7, 3) := by decide +kernel
theorem dX6_isWithin_10 : decode cX6_isWithin 10 = .ok (.iconst 1, 1) := by decide +kernel
theorem dX6_isWithin_11 : decode cX6_isWithin 11 = .ok (.goto 4, 3) := by decide +kernel
theorem dX6_isWithin_14 : decode cX6_isWithin 14 = .ok (.iconst 0, 1) := by decide +kernel
theorem dX6_isWithin_15 : decode cX6_isWithin 15 = .ok (.ireturn, 1) := by decide +kernel
theorem dX6_isWay_0 : decode cX6_isWay 0 = .ok (.iload_n 0, 1) := by decide +kernel
theorem dX6_isWay_1 : decode cX6_isWay 1 = .ok (.sipush (-200), 3) := by decide +kernel
theorem dX6_isWay_4 : decode cX6_isWay 4 = .ok (.sipush 200, 3) := by decide +kernel
theorem dX6_isWay_7 : decode cX6_isWay 7 = .ok (.invokestatic 66, 3) := by decide +kernel
theorem dX6_isWay_10 : decode cX6_isWay 10 = .ok (.ireturn, 1) := by decide +kernel
theorem dX6_isIndexOf_0 : decode cX6_isIndexOf 0 = .ok (.iload_n 1, 1) := by decide +kernel
theorem dX6_isIndexOf_1 : decode cX6_isIndexOf 1 = .ok (.ifCond .lt 13, 3) := by decide +kernel
theorem dX6_isIndexOf_4 : decode cX6_isIndexOf 4 = .ok (.iload_n 1, 1) := by decide +kernel
theorem dX6_isIndexOf_5 : decode cX6_isIndexOf 5 = .ok (.aload_n 0, 1) := by decide +kernel
theorem dX6_isIndexOf_6 : decode cX6_isIndexOf 6 = .ok (.arraylength, 1) := by decide +kernel
theorem dX6_isIndexOf_7 : decode cX6_isIndexOf 7 = .ok (.if_icmp .ge 7, 3) := by decide +kernel
theorem dX6_isIndexOf_10 : decode cX6_isIndexOf 10 = .ok (.iconst 1, 1) := by decide +kernel
theorem dX6_isIndexOf_11 : decode cX6_isIndexOf 11 = .ok (.goto 4, 3) := by decide +kernel
theorem dX6_isIndexOf_14 : decode cX6_isIndexOf 14 = .ok (.iconst 0, 1) := by decide +kernel
theorem dX6_isIndexOf_15 : decode cX6_isIndexOf 15 = .ok (.ireturn, 1) := by decide +kernel
theorem dX6_stateNumber_0 : decode cX6_stateNumber 0 = .ok (.iload_n 0, 1) := by decide +kernel
theorem dX6_stateNumber_1 : decode cX6_stateNumber 1 = .ok (.bipush 9, 2) := by decide +kernel
theorem dX6_stateNumber_3 : decode cX6_stateNumber 3 = .ok (.imul, 1) := by decide +kernel
theorem dX6_stateNumber_4 : decode cX6_stateNumber 4 = .ok (.iload_n 1, 1) := by decide +kernel
theorem dX6_stateNumber_5 : decode cX6_stateNumber 5 = .ok (.iadd, 1) := by decide +kernel
theorem dX6_stateNumber_6 : decode cX6_stateNumber 6 = .ok (.iconst 4, 1) := by decide +kernel
theorem dX6_stateNumber_7 : decode cX6_stateNumber 7 = .ok (.iadd, 1) := by decide +kernel
theorem dX6_stateNumber_8 : decode cX6_stateNumber 8 = .ok (.ireturn, 1) := by decide +kernel
theorem dX6_axisOf_0 : decode cX6_axisOf 0 = .ok (.iload_n 1, 1) := by decide +kernel
theorem dX6_axisOf_1 : decode cX6_axisOf 1 = .ok (.tableswitch 42 0 2 #[27, 32, 37], 27) := by decide +kernel
theorem dX6_axisOf_28 : decode cX6_axisOf 28 = .ok (.aload_n 0, 1) := by decide +kernel
theorem dX6_axisOf_29 : decode cX6_axisOf 29 = .ok (.getfield 45, 3) := by decide +kernel
theorem dX6_axisOf_32 : decode cX6_axisOf 32 = .ok (.areturn, 1) := by decide +kernel
theorem dX6_axisOf_33 : decode cX6_axisOf 33 = .ok (.aload_n 0, 1) := by decide +kernel
theorem dX6_axisOf_34 : decode cX6_axisOf 34 = .ok (.getfield 49, 3) := by decide +kernel
theorem dX6_axisOf_37 : decode cX6_axisOf 37 = .ok (.areturn, 1) := by decide +kernel
theorem dX6_axisOf_38 : decode cX6_axisOf 38 = .ok (.aload_n 0, 1) := by decide +kernel
theorem dX6_axisOf_39 : decode cX6_axisOf 39 = .ok (.getfield 52, 3) := by decide +kernel
theorem dX6_axisOf_42 : decode cX6_axisOf 42 = .ok (.areturn, 1) := by decide +kernel
theorem dX6_axisOf_43 : decode cX6_axisOf 43 = .ok (.aconst_null, 1) := by decide +kernel
theorem dX6_axisOf_44 : decode cX6_axisOf 44 = .ok (.areturn, 1) := by decide +kernel
theorem dX6_slowingsFrom_0 : decode cX6_slowingsFrom 0 = .ok (.aload_n 0, 1) := by decide +kernel
theorem dX6_slowingsFrom_1 : decode cX6_slowingsFrom 1 = .ok (.getfield 12, 3) := by decide +kernel
theorem dX6_slowingsFrom_4 : decode cX6_slowingsFrom 4 = .ok (.getfield 89, 3) := by decide +kernel
theorem dX6_slowingsFrom_7 : decode cX6_slowingsFrom 7 = .ok (.ifCond .eq 32, 3) := by decide +kernel
theorem dX6_slowingsFrom_10 : decode cX6_slowingsFrom 10 = .ok (.aload_n 0, 1) := by decide +kernel
theorem dX6_slowingsFrom_11 : decode cX6_slowingsFrom 11 = .ok (.getfield 28, 3) := by decide +kernel
theorem dX6_slowingsFrom_14 : decode cX6_slowingsFrom 14 = .ok (.aload_n 0, 1) := by decide +kernel
theorem dX6_slowingsFrom_15 : decode cX6_slowingsFrom 15 = .ok (.getfield 12, 3) := by decide +kernel
theorem dX6_slowingsFrom_18 : decode cX6_slowingsFrom 18 = .ok (.invokevirtual 224, 3) := by decide +kernel
theorem dX6_slowingsFrom_21 : decode cX6_slowingsFrom 21 = .ok (.aload_n 0, 1) := by decide +kernel
theorem dX6_slowingsFrom_22 : decode cX6_slowingsFrom 22 = .ok (.getfield 28, 3) := by decide +kernel
theorem dX6_slowingsFrom_25 : decode cX6_slowingsFrom 25 = .ok (.iload_n 1, 1) := by decide +kernel
theorem dX6_slowingsFrom_26 : decode cX6_slowingsFrom 26 = .ok (.iload_n 2, 1) := by decide +kernel
theorem dX6_slowingsFrom_27 : decode cX6_slowingsFrom 27 = .ok (.invokevirtual 112, 3) := by decide +kernel
theorem dX6_slowingsFrom_30 : decode cX6_slowingsFrom 30 = .ok (.iconst (-1), 1) := by decide +kernel
theorem dX6_slowingsFrom_31 : decode cX6_slowingsFrom 31 = .ok (.if_icmp .eq 8, 3) := by decide +kernel
theorem dX6_slowingsFrom_34 : decode cX6_slowingsFrom 34 = .ok (.aload_n 0, 1) := by decide +kernel
theorem dX6_slowingsFrom_35 : decode cX6_slowingsFrom 35 = .ok (.getfield 28, 3) := by decide +kernel
theorem dX6_slowingsFrom_38 : decode cX6_slowingsFrom 38 = .ok (.areturn, 1) := by decide +kernel
theorem dX6_slowingsFrom_39 : decode cX6_slowingsFrom 39 = .ok (.aload_n 0, 1) := by decide +kernel
theorem dX6_slowingsFrom_40 : decode cX6_slowingsFrom 40 = .ok (.getfield 32, 3) := by decide +kernel
theorem dX6_slowingsFrom_43 : decode cX6_slowingsFrom 43 = .ok (.aload_n 0, 1) := by decide +kernel
theorem dX6_slowingsFrom_44 : decode cX6_slowingsFrom 44 = .ok (.getfield 12, 3) := by decide +kernel
theorem dX6_slowingsFrom_47 : decode cX6_slowingsFrom 47 = .ok (.invokevirtual 224, 3) := by decide +kernel
theorem dX6_slowingsFrom_50 : decode cX6_slowingsFrom 50 = .ok (.aload_n 0, 1) := by decide +kernel
theorem dX6_slowingsFrom_51 : decode cX6_slowingsFrom 51 = .ok (.getfield 32, 3) := by decide +kernel
theorem dX6_slowingsFrom_54 : decode cX6_slowingsFrom 54 = .ok (.areturn, 1) := by decide +kernel
theorem dX6_takeTick_0 : decode cX6_takeTick 0 = .ok (.aload_n 0, 1) := by decide +kernel
theorem dX6_takeTick_1 : decode cX6_takeTick 1 = .ok (.invokevirtual 228, 3) := by decide +kernel
theorem dX6_takeTick_4 : decode cX6_takeTick 4 = .ok (.istore_n 1, 1) := by decide +kernel
theorem dX6_takeTick_5 : decode cX6_takeTick 5 = .ok (.iload_n 1, 1) := by decide +kernel
theorem dX6_takeTick_6 : decode cX6_takeTick 6 = .ok (.iconst 5, 1) := by decide +kernel
theorem dX6_takeTick_7 : decode cX6_takeTick 7 = .ok (.if_icmp .ne 11, 3) := by decide +kernel
theorem dX6_takeTick_10 : decode cX6_takeTick 10 = .ok (.aload_n 0, 1) := by decide +kernel
theorem dX6_takeTick_11 : decode cX6_takeTick 11 = .ok (.getfield 38, 3) := by decide +kernel
theorem dX6_takeTick_14 : decode cX6_takeTick 14 = .ok (.invokevirtual 230, 3) := by decide +kernel
theorem dX6_takeTick_17 : decode cX6_takeTick 17 = .ok (.return_, 1) := by decide +kernel
theorem dX6_takeTick_18 : decode cX6_takeTick 18 = .ok (.aload_n 0, 1) := by decide +kernel
theorem dX6_takeTick_19 : decode cX6_takeTick 19 = .ok (.getfield 38, 3) := by decide +kernel
theorem dX6_takeTick_22 : decode cX6_takeTick 22 = .ok (.getfield 146, 3) := by decide +kernel
theorem dX6_takeTick_25 : decode cX6_takeTick 25 = .ok (.iload_n 1, 1) := by decide +kernel
theorem dX6_takeTick_26 : decode cX6_takeTick 26 = .ok (.iadd, 1) := by decide +kernel
theorem dX6_takeTick_27 : decode cX6_takeTick 27 = .ok (.istore_n 2, 1) := by decide +kernel
theorem dX6_takeTick_28 : decode cX6_takeTick 28 = .ok (.aload_n 0, 1) := by decide +kernel
theorem dX6_takeTick_29 : decode cX6_takeTick 29 = .ok (.getfield 12, 3) := by decide +kernel
theorem dX6_takeTick_32 : decode cX6_takeTick 32 = .ok (.iload_n 2, 1) := by decide +kernel
theorem dX6_takeTick_33 : decode cX6_takeTick 33 = .ok (.iload_n 1, 1) := by decide +kernel
theorem dX6_takeTick_34 : decode cX6_takeTick 34 = .ok (.invokevirtual 233, 3) := by decide +kernel
theorem dX6_takeTick_37 : decode cX6_takeTick 37 = .ok (.istore_n 3, 1) := by decide +kernel
theorem dX6_takeTick_38 : decode cX6_takeTick 38 = .ok (.aload_n 0, 1) := by decide +kernel
theorem dX6_takeTick_39 : decode cX6_takeTick 39 = .ok (.getfield 38, 3) := by decide +kernel
theorem dX6_takeTick_42 : decode cX6_takeTick 42 = .ok (.iload_n 2, 1) := by decide +kernel
theorem dX6_takeTick_43 : decode cX6_takeTick 43 = .ok (.iload_n 1, 1) := by decide +kernel
theorem dX6_takeTick_44 : decode cX6_takeTick 44 = .ok (.iload_n 3, 1) := by decide +kernel
theorem dX6_takeTick_45 : decode cX6_takeTick 45 = .ok (.invokevirtual 236, 3) := by decide +kernel
theorem dX6_takeTick_48 : decode cX6_takeTick 48 = .ok (.aload_n 0, 1) := by decide +kernel
theorem dX6_takeTick_49 : decode cX6_takeTick 49 = .ok (.getfield 45, 3) := by decide +kernel
theorem dX6_takeTick_52 : decode cX6_takeTick 52 = .ok (.aload_n 0, 1) := by decide +kernel
theorem dX6_takeTick_53 : decode cX6_takeTick 53 = .ok (.getfield 38, 3) := by decide +kernel
theorem dX6_takeTick_56 : decode cX6_takeTick 56 = .ok (.getfield 172, 3) := by decide +kernel
theorem dX6_takeTick_59 : decode cX6_takeTick 59 = .ok (.aload_n 0, 1) := by decide +kernel
theorem dX6_takeTick_60 : decode cX6_takeTick 60 = .ok (.getfield 38, 3) := by decide +kernel
theorem dX6_takeTick_63 : decode cX6_takeTick 63 = .ok (.getfield 169, 3) := by decide +kernel
theorem dX6_takeTick_66 : decode cX6_takeTick 66 = .ok (.iload_n 3, 1) := by decide +kernel
theorem dX6_takeTick_67 : decode cX6_takeTick 67 = .ok (.invokevirtual 239, 3) := by decide +kernel
theorem dX6_takeTick_70 : decode cX6_takeTick 70 = .ok (.aload_n 0, 1) := by decide +kernel
theorem dX6_takeTick_71 : decode cX6_takeTick 71 = .ok (.getfield 49, 3) := by decide +kernel
theorem dX6_takeTick_74 : decode cX6_takeTick 74 = .ok (.aload_n 0, 1) := by decide +kernel
theorem dX6_takeTick_75 : decode cX6_takeTick 75 = .ok (.getfield 38, 3) := by decide +kernel
theorem dX6_takeTick_78 : decode cX6_takeTick 78 = .ok (.getfield 172, 3) := by decide +kernel
theorem dX6_takeTick_81 : decode cX6_takeTick 81 = .ok (.aload_n 0, 1) := by decide +kernel
theorem dX6_takeTick_82 : decode cX6_takeTick 82 = .ok (.getfield 38, 3) := by decide +kernel
theorem dX6_takeTick_85 : decode cX6_takeTick 85 = .ok (.getfield 169, 3) := by decide +kernel
theorem dX6_takeTick_88 : decode cX6_takeTick 88 = .ok (.iload_n 3, 1) := by decide +kernel
theorem dX6_takeTick_89 : decode cX6_takeTick 89 = .ok (.invokevirtual 239, 3) := by decide +kernel
theorem dX6_takeTick_92 : decode cX6_takeTick 92 = .ok (.aload_n 0, 1) := by decide +kernel
theorem dX6_takeTick_93 : decode cX6_takeTick 93 = .ok (.getfield 52, 3) := by decide +kernel
theorem dX6_takeTick_96 : decode cX6_takeTick 96 = .ok (.aload_n 0, 1) := by decide +kernel
theorem dX6_takeTick_97 : decode cX6_takeTick 97 = .ok (.getfield 38, 3) := by decide +kernel
theorem dX6_takeTick_100 : decode cX6_takeTick 100 = .ok (.getfield 172, 3) := by decide +kernel
theorem dX6_takeTick_103 : decode cX6_takeTick 103 = .ok (.aload_n 0, 1) := by decide +kernel
theorem dX6_takeTick_104 : decode cX6_takeTick 104 = .ok (.getfield 38, 3) := by decide +kernel
theorem dX6_takeTick_107 : decode cX6_takeTick 107 = .ok (.getfield 169, 3) := by decide +kernel
theorem dX6_takeTick_110 : decode cX6_takeTick 110 = .ok (.iload_n 3, 1) := by decide +kernel
theorem dX6_takeTick_111 : decode cX6_takeTick 111 = .ok (.invokevirtual 239, 3) := by decide +kernel
theorem dX6_takeTick_114 : decode cX6_takeTick 114 = .ok (.return_, 1) := by decide +kernel
theorem dX6_nextChange_0 : decode cX6_nextChange 0 = .ok (.aload_n 0, 1) := by decide +kernel
theorem dX6_nextChange_1 : decode cX6_nextChange 1 = .ok (.getfield 38, 3) := by decide +kernel
theorem dX6_nextChange_4 : decode cX6_nextChange 4 = .ok (.getfield 146, 3) := by decide +kernel
theorem dX6_nextChange_7 : decode cX6_nextChange 7 = .ok (.istore_n 1, 1) := by decide +kernel
theorem dX6_nextChange_8 : decode cX6_nextChange 8 = .ok (.aload_n 0, 1) := by decide +kernel
theorem dX6_nextChange_9 : decode cX6_nextChange 9 = .ok (.getfield 38, 3) := by decide +kernel
theorem dX6_nextChange_12 : decode cX6_nextChange 12 = .ok (.getfield 150, 3) := by decide +kernel
theorem dX6_nextChange_15 : decode cX6_nextChange 15 = .ok (.istore_n 2, 1) := by decide +kernel
theorem dX6_nextChange_16 : decode cX6_nextChange 16 = .ok (.aload_n 0, 1) := by decide +kernel
theorem dX6_nextChange_17 : decode cX6_nextChange 17 = .ok (.getfield 38, 3) := by decide +kernel
theorem dX6_nextChange_20 : decode cX6_nextChange 20 = .ok (.getfield 143, 3) := by decide +kernel
theorem dX6_nextChange_23 : decode cX6_nextChange 23 = .ok (.ifCond .ne 32, 3) := by decide +kernel
theorem dX6_nextChange_26 : decode cX6_nextChange 26 = .ok (.aload_n 0, 1) := by decide +kernel
theorem dX6_nextChange_27 : decode cX6_nextChange 27 = .ok (.getfield 19, 3) := by decide +kernel
theorem dX6_nextChange_30 : decode cX6_nextChange 30 = .ok (.aload_n 0, 1) := by decide +kernel
theorem dX6_nextChange_31 : decode cX6_nextChange 31 = .ok (.getfield 12, 3) := by decide +kernel
theorem dX6_nextChange_34 : decode cX6_nextChange 34 = .ok (.iload_n 1, 1) := by decide +kernel
theorem dX6_nextChange_35 : decode cX6_nextChange 35 = .ok (.iload_n 2, 1) := by decide +kernel
theorem dX6_nextChange_36 : decode cX6_nextChange 36 = .ok (.aload_n 0, 1) := by decide +kernel
theorem dX6_nextChange_37 : decode cX6_nextChange 37 = .ok (.getfield 38, 3) := by decide +kernel
theorem dX6_nextChange_40 : decode cX6_nextChange 40 = .ok (.getfield 172, 3) := by decide +kernel
theorem dX6_nextChange_43 : decode cX6_nextChange 43 = .ok (.aload_n 0, 1) := by decide +kernel
theorem dX6_nextChange_44 : decode cX6_nextChange 44 = .ok (.getfield 38, 3) := by decide +kernel
theorem dX6_nextChange_47 : decode cX6_nextChange 47 = .ok (.getfield 169, 3) := by decide +kernel
theorem dX6_nextChange_50 : decode cX6_nextChange 50 = .ok (.isub, 1) := by decide +kernel
theorem dX6_nextChange_51 : decode cX6_nextChange 51 = .ok (.invokevirtual 242, 3) := by decide +kernel
theorem dX6_nextChange_54 : decode cX6_nextChange 54 = .ok (.ireturn, 1) := by decide +kernel
theorem dX6_nextChange_55 : decode cX6_nextChange 55 = .ok (.aload_n 0, 1) := by decide +kernel
theorem dX6_nextChange_56 : decode cX6_nextChange 56 = .ok (.getfield 38, 3) := by decide +kernel
theorem dX6_nextChange_59 : decode cX6_nextChange 59 = .ok (.getfield 245, 3) := by decide +kernel
theorem dX6_nextChange_62 : decode cX6_nextChange 62 = .ok (.ifCond .eq 10, 3) := by decide +kernel
theorem dX6_nextChange_65 : decode cX6_nextChange 65 = .ok (.aload_n 0, 1) := by decide +kernel
theorem dX6_nextChange_66 : decode cX6_nextChange 66 = .ok (.getfield 28, 3) := by decide +kernel
theorem dX6_nextChange_69 : decode cX6_nextChange 69 = .ok (.goto 7, 3) := by decide +kernel
theorem dX6_nextChange_72 : decode cX6_nextChange 72 = .ok (.aload_n 0, 1) := by decide +kernel
theorem dX6_nextChange_73 : decode cX6_nextChange 73 = .ok (.getfield 32, 3) := by decide +kernel
theorem dX6_nextChange_76 : decode cX6_nextChange 76 = .ok (.astore_n 3, 1) := by decide +kernel
theorem dX6_nextChange_77 : decode cX6_nextChange 77 = .ok (.aload_n 3, 1) := by decide +kernel
theorem dX6_nextChange_78 : decode cX6_nextChange 78 = .ok (.aload_n 0, 1) := by decide +kernel
theorem dX6_nextChange_79 : decode cX6_nextChange 79 = .ok (.getfield 12, 3) := by decide +kernel
theorem dX6_nextChange_82 : decode cX6_nextChange 82 = .ok (.iload_n 1, 1) := by decide +kernel
theorem dX6_nextChange_83 : decode cX6_nextChange 83 = .ok (.iload_n 2, 1) := by decide +kernel
theorem dX6_nextChange_84 : decode cX6_nextChange 84 = .ok (.invokevirtual 119, 3) := by decide +kernel
theorem dX6_nextChange_87 : decode cX6_nextChange 87 = .ok (.ireturn, 1) := by decide +kernel
theorem dJ9_abs_0f7a4_0 : decode cJ9_abs_0f7a4 0 = .ok (.iload_n 0, 1) := by decide +kernel
theorem dJ9_abs_0f7a4_1 : decode cJ9_abs_0f7a4 1 = .ok (.ifCond .ge 8, 3) := by decide +kernel
theorem dJ9_abs_0f7a4_4 : decode cJ9_abs_0f7a4 4 = .ok (.iload_n 0, 1) := by decide +kernel
theorem dJ9_abs_0f7a4_5 : decode cJ9_abs_0f7a4 5 = .ok (.ineg, 1) := by decide +kernel
theorem dJ9_abs_0f7a4_6 : decode cJ9_abs_0f7a4 6 = .ok (.goto 4, 3) := by decide +kernel
theorem dJ9_abs_0f7a4_9 : decode cJ9_abs_0f7a4 9 = .ok (.iload_n 0, 1) := by decide +kernel
theorem dJ9_abs_0f7a4_10 : decode cJ9_abs_0f7a4 10 = .ok (.ireturn, 1) := by decide +kernel
theorem dJ9_max_7cf53_0 : decode cJ9_max_7cf53 0 = .ok (.iload_n 0, 1) := by decide +kernel
theorem dJ9_max_7cf53_1 : decode cJ9_max_7cf53 1 = .ok (.iload_n 1, 1) := by decide +kernel
theorem dJ9_max_7cf53_2 : decode cJ9_max_7cf53 2 = .ok (.if_icmp .lt 7, 3) := by decide +kernel
theorem dJ9_max_7cf53_5 : decode cJ9_max_7cf53 5 = .ok (.iload_n 0, 1) := by decide +kernel
theorem dJ9_max_7cf53_6 : decode cJ9_max_7cf53 6 = .ok (.goto 4, 3) := by decide +kernel
theorem dJ9_max_7cf53_9 : decode cJ9_max_7cf53 9 = .ok (.iload_n 1, 1) := by decide +kernel
theorem dJ9_max_7cf53_10 : decode cJ9_max_7cf53 10 = .ok (.ireturn, 1) := by decide +kernel
theorem dJ9_min_7cf53_0 : decode cJ9_min_7cf53 0 = .ok (.iload_n 0, 1) := by decide +kernel
theorem dJ9_min_7cf53_1 : decode cJ9_min_7cf53 1 = .ok (.iload_n 1, 1) := by decide +kernel
theorem dJ9_min_7cf53_2 : decode cJ9_min_7cf53 2 = .ok (.if_icmp .gt 7, 3) := by decide +kernel
theorem dJ9_min_7cf53_5 : decode cJ9_min_7cf53 5 = .ok (.iload_n 0, 1) := by decide +kernel
theorem dJ9_min_7cf53_6 : decode cJ9_min_7cf53 6 = .ok (.goto 4, 3) := by decide +kernel
theorem dJ9_min_7cf53_9 : decode cJ9_min_7cf53 9 = .ok (.iload_n 1, 1) := by decide +kernel
theorem dJ9_min_7cf53_10 : decode cJ9_min_7cf53 10 = .ok (.ireturn, 1) := by decide +kernel
theorem dJ7_fill_53178_0 : decode cJ7_fill_53178 0 = .ok (.iconst 0, 1) := by decide +kernel
theorem dJ7_fill_53178_1 : decode cJ7_fill_53178 1 = .ok (.istore_n 2, 1) := by decide +kernel
theorem dJ7_fill_53178_2 : decode cJ7_fill_53178 2 = .ok (.aload_n 0, 1) := by decide +kernel
theorem dJ7_fill_53178_3 : decode cJ7_fill_53178 3 = .ok (.arraylength, 1) := by decide +kernel
theorem dJ7_fill_53178_4 : decode cJ7_fill_53178 4 = .ok (.istore_n 3, 1) := by decide +kernel
theorem dJ7_fill_53178_5 : decode cJ7_fill_53178 5 = .ok (.iload_n 2, 1) := by decide +kernel
theorem dJ7_fill_53178_6 : decode cJ7_fill_53178 6 = .ok (.iload_n 3, 1) := by decide +kernel
theorem dJ7_fill_53178_7 : decode cJ7_fill_53178 7 = .ok (.if_icmp .ge 13, 3) := by decide +kernel
theorem dJ7_fill_53178_10 : decode cJ7_fill_53178 10 = .ok (.aload_n 0, 1) := by decide +kernel
theorem dJ7_fill_53178_11 : decode cJ7_fill_53178 11 = .ok (.iload_n 2, 1) := by decide +kernel
theorem dJ7_fill_53178_12 : decode cJ7_fill_53178 12 = .ok (.iload_n 1, 1) := by decide +kernel
theorem dJ7_fill_53178_13 : decode cJ7_fill_53178 13 = .ok (.iastore, 1) := by decide +kernel
theorem dJ7_fill_53178_14 : decode cJ7_fill_53178 14 = .ok (.iinc 2 1, 3) := by decide +kernel
theorem dJ7_fill_53178_17 : decode cJ7_fill_53178 17 = .ok (.goto (-12), 3) := by decide +kernel
theorem dJ7_fill_53178_20 : decode cJ7_fill_53178 20 = .ok (.return_, 1) := by decide +kernel
theorem dL_place_0 : decode cL_place 0 = .ok (.aload_n 3, 1) := by decide +kernel
theorem dL_place_1 : decode cL_place 1 = .ok (.iconst 0, 1) := by decide +kernel
theorem dL_place_2 : decode cL_place 2 = .ok (.aload_n 0, 1) := by decide +kernel
theorem dL_place_3 : decode cL_place 3 = .ok (.iload_n 1, 1) := by decide +kernel
theorem dL_place_4 : decode cL_place 4 = .ok (.iload_n 2, 1) := by decide +kernel
theorem dL_place_5 : decode cL_place 5 = .ok (.invokevirtual 7, 3) := by decide +kernel
theorem dL_place_8 : decode cL_place 8 = .ok (.i2l, 1) := by decide +kernel
theorem dL_place_9 : decode cL_place 9 = .ok (.lastore, 1) := by decide +kernel
theorem dL_place_10 : decode cL_place 10 = .ok (.goto 7, 3) := by decide +kernel
theorem dL_place_13 : decode cL_place 13 = .ok (.astore 4, 2) := by decide +kernel
theorem dL_place_15 : decode cL_place 15 = .ok (.iconst 1, 1) := by decide +kernel
theorem dL_place_16 : decode cL_place 16 = .ok (.ireturn, 1) := by decide +kernel
theorem dL_place_17 : decode cL_place 17 = .ok (.iconst 0, 1) := by decide +kernel
theorem dL_place_18 : decode cL_place 18 = .ok (.ireturn, 1) := by decide +kernel
theorem dL_current_0 : decode cL_current 0 = .ok (.aload_n 3, 1) := by decide +kernel
theorem dL_current_1 : decode cL_current 1 = .ok (.iconst 0, 1) := by decide +kernel
theorem dL_current_2 : decode cL_current 2 = .ok (.aload_n 0, 1) := by decide +kernel
theorem dL_current_3 : decode cL_current 3 = .ok (.iload_n 1, 1) := by decide +kernel
theorem dL_current_4 : decode cL_current 4 = .ok (.iload_n 2, 1) := by decide +kernel
theorem dL_current_5 : decode cL_current 5 = .ok (.invokevirtual 15, 3) := by decide +kernel
theorem dL_current_8 : decode cL_current 8 = .ok (.i2l, 1) := by decide +kernel
theorem dL_current_9 : decode cL_current 9 = .ok (.lastore, 1) := by decide +kernel
theorem dL_current_10 : decode cL_current 10 = .ok (.goto 7, 3) := by decide +kernel
theorem dL_current_13 : decode cL_current 13 = .ok (.astore 4, 2) := by decide +kernel
theorem dL_current_15 : decode cL_current 15 = .ok (.iconst 1, 1) := by decide +kernel
theorem dL_current_16 : decode cL_current 16 = .ok (.ireturn, 1) := by decide +kernel
theorem dL_current_17 : decode cL_current 17 = .ok (.iconst 0, 1) := by decide +kernel
theorem dL_current_18 : decode cL_current 18 = .ok (.ireturn, 1) := by decide +kernel
