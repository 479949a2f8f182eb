theorem dX0_init_0 : decode cX0_init 0 = .ok (.aload_n 0, 1) := by decide +kernel
theorem dX0_init_1 : decode cX0_init 1 = .ok (.invokespecial 1, 3) := by decide +kernel
theorem dX0_init_4 : decode cX0_init 4 = .ok (.return_, 1) := by decide +kernel
theorem dX1_init_0 : decode cX1_init 0 = .ok (.aload_n 0, 1) := by decide +kernel
theorem dX1_init_1 : decode cX1_init 1 = .ok (.invokespecial 3, 3) := by decide +kernel
theorem dX1_init_4 : decode cX1_init 4 = .ok (.aload_n 0, 1) := by decide +kernel
theorem dX1_init_5 : decode cX1_init 5 = .ok (.iconst 0, 1) := by decide +kernel
theorem dX1_init_6 : decode cX1_init 6 = .ok (.putfield 9, 3) := by decide +kernel
theorem dX1_init_9 : decode cX1_init 9 = .ok (.aload_n 0, 1) := by decide +kernel
theorem dX1_init_10 : decode cX1_init 10 = .ok (.bipush 8, 2) := by decide +kernel
theorem dX1_init_12 : decode cX1_init 12 = .ok (.newarray .int, 2) := by decide +kernel
theorem dX1_init_14 : decode cX1_init 14 = .ok (.putfield 15, 3) := by decide +kernel
theorem dX1_init_17 : decode cX1_init 17 = .ok (.aload_n 0, 1) := by decide +kernel
theorem dX1_init_18 : decode cX1_init 18 = .ok (.bipush 8, 2) := by decide +kernel
theorem dX1_init_20 : decode cX1_init 20 = .ok (.newarray .int, 2) := by decide +kernel
theorem dX1_init_22 : decode cX1_init 22 = .ok (.putfield 19, 3) := by decide +kernel
theorem dX1_init_25 : decode cX1_init 25 = .ok (.aload_n 0, 1) := by decide +kernel
theorem dX1_init_26 : decode cX1_init 26 = .ok (.bipush 8, 2) := by decide +kernel
theorem dX1_init_28 : decode cX1_init 28 = .ok (.newarray .int, 2) := by decide +kernel
theorem dX1_init_30 : decode cX1_init 30 = .ok (.putfield 22, 3) := by decide +kernel
theorem dX1_init_33 : decode cX1_init 33 = .ok (.return_, 1) := by decide +kernel
theorem dX1_append_0 : decode cX1_append 0 = .ok (.aload_n 0, 1) := by decide +kernel
theorem dX1_append_1 : decode cX1_append 1 = .ok (.getfield 9, 3) := by decide +kernel
theorem dX1_append_4 : decode cX1_append 4 = .ok (.bipush 8, 2) := by decide +kernel
theorem dX1_append_6 : decode cX1_append 6 = .ok (.if_icmp .lt 6, 3) := by decide +kernel
theorem dX1_append_9 : decode cX1_append 9 = .ok (.bipush (-4), 2) := by decide +kernel
theorem dX1_append_11 : decode cX1_append 11 = .ok (.ireturn, 1) := by decide +kernel
theorem dX1_append_12 : decode cX1_append 12 = .ok (.aload_n 0, 1) := by decide +kernel
theorem dX1_append_13 : decode cX1_append 13 = .ok (.getfield 15, 3) := by decide +kernel
theorem dX1_append_16 : decode cX1_append 16 = .ok (.aload_n 0, 1) := by decide +kernel
theorem dX1_append_17 : decode cX1_append 17 = .ok (.getfield 9, 3) := by decide +kernel
theorem dX1_append_20 : decode cX1_append 20 = .ok (.iload_n 1, 1) := by decide +kernel
theorem dX1_append_21 : decode cX1_append 21 = .ok (.iastore, 1) := by decide +kernel
theorem dX1_append_22 : decode cX1_append 22 = .ok (.aload_n 0, 1) := by decide +kernel
theorem dX1_append_23 : decode cX1_append 23 = .ok (.getfield 19, 3) := by decide +kernel
theorem dX1_append_26 : decode cX1_append 26 = .ok (.aload_n 0, 1) := by decide +kernel
theorem dX1_append_27 : decode cX1_append 27 = .ok (.getfield 9, 3) := by decide +kernel
theorem dX1_append_30 : decode cX1_append 30 = .ok (.iload_n 2, 1) := by decide +kernel
theorem dX1_append_31 : decode cX1_append 31 = .ok (.iastore, 1) := by decide +kernel
theorem dX1_append_32 : decode cX1_append 32 = .ok (.aload_n 0, 1) := by decide +kernel
theorem dX1_append_33 : decode cX1_append 33 = .ok (.getfield 22, 3) := by decide +kernel
theorem dX1_append_36 : decode cX1_append 36 = .ok (.aload_n 0, 1) := by decide +kernel
theorem dX1_append_37 : decode cX1_append 37 = .ok (.getfield 9, 3) := by decide +kernel
theorem dX1_append_40 : decode cX1_append 40 = .ok (.iload_n 3, 1) := by decide +kernel
theorem dX1_append_41 : decode cX1_append 41 = .ok (.iastore, 1) := by decide +kernel
theorem dX1_append_42 : decode cX1_append 42 = .ok (.aload_n 0, 1) := by decide +kernel
theorem dX1_append_43 : decode cX1_append 43 = .ok (.dup, 1) := by decide +kernel
theorem dX1_append_44 : decode cX1_append 44 = .ok (.getfield 9, 3) := by decide +kernel
theorem dX1_append_47 : decode cX1_append 47 = .ok (.iconst 1, 1) := by decide +kernel
theorem dX1_append_48 : decode cX1_append 48 = .ok (.iadd, 1) := by decide +kernel
theorem dX1_append_49 : decode cX1_append 49 = .ok (.putfield 9, 3) := by decide +kernel
theorem dX1_append_52 : decode cX1_append 52 = .ok (.aload_n 0, 1) := by decide +kernel
theorem dX1_append_53 : decode cX1_append 53 = .ok (.getfield 9, 3) := by decide +kernel
theorem dX1_append_56 : decode cX1_append 56 = .ok (.iconst 1, 1) := by decide +kernel
theorem dX1_append_57 : decode cX1_append 57 = .ok (.isub, 1) := by decide +kernel
theorem dX1_append_58 : decode cX1_append 58 = .ok (.ireturn, 1) := by decide +kernel
theorem dX1_takeBack_0 : decode cX1_takeBack 0 = .ok (.iload_n 1, 1) := by decide +kernel
theorem dX1_takeBack_1 : decode cX1_takeBack 1 = .ok (.ifCond .lt 11, 3) := by decide +kernel
theorem dX1_takeBack_4 : decode cX1_takeBack 4 = .ok (.iload_n 1, 1) := by decide +kernel
theorem dX1_takeBack_5 : decode cX1_takeBack 5 = .ok (.aload_n 0, 1) := by decide +kernel
theorem dX1_takeBack_6 : decode cX1_takeBack 6 = .ok (.getfield 9, 3) := by decide +kernel
theorem dX1_takeBack_9 : decode cX1_takeBack 9 = .ok (.if_icmp .le 6, 3) := by decide +kernel
theorem dX1_takeBack_12 : decode cX1_takeBack 12 = .ok (.bipush (-2), 2) := by decide +kernel
theorem dX1_takeBack_14 : decode cX1_takeBack 14 = .ok (.ireturn, 1) := by decide +kernel
theorem dX1_takeBack_15 : decode cX1_takeBack 15 = .ok (.aload_n 0, 1) := by decide +kernel
theorem dX1_takeBack_16 : decode cX1_takeBack 16 = .ok (.dup, 1) := by decide +kernel
theorem dX1_takeBack_17 : decode cX1_takeBack 17 = .ok (.getfield 9, 3) := by decide +kernel
theorem dX1_takeBack_20 : decode cX1_takeBack 20 = .ok (.iload_n 1, 1) := by decide +kernel
theorem dX1_takeBack_21 : decode cX1_takeBack 21 = .ok (.isub, 1) := by decide +kernel
theorem dX1_takeBack_22 : decode cX1_takeBack 22 = .ok (.putfield 9, 3) := by decide +kernel
theorem dX1_takeBack_25 : decode cX1_takeBack 25 = .ok (.aload_n 0, 1) := by decide +kernel
theorem dX1_takeBack_26 : decode cX1_takeBack 26 = .ok (.getfield 9, 3) := by decide +kernel
theorem dX1_takeBack_29 : decode cX1_takeBack 29 = .ok (.ireturn, 1) := by decide +kernel
theorem dX1_nextWatch_0 : decode cX1_nextWatch 0 = .ok (.bipush 24, 2) := by decide +kernel
theorem dX1_nextWatch_2 : decode cX1_nextWatch 2 = .ok (.istore_n 3, 1) := by decide +kernel
theorem dX1_nextWatch_3 : decode cX1_nextWatch 3 = .ok (.iconst 0, 1) := by decide +kernel
theorem dX1_nextWatch_4 : decode cX1_nextWatch 4 = .ok (.istore 4, 2) := by decide +kernel
theorem dX1_nextWatch_6 : decode cX1_nextWatch 6 = .ok (.iload 4, 2) := by decide +kernel
theorem dX1_nextWatch_8 : decode cX1_nextWatch 8 = .ok (.aload_n 0, 1) := by decide +kernel
theorem dX1_nextWatch_9 : decode cX1_nextWatch 9 = .ok (.getfield 9, 3) := by decide +kernel
theorem dX1_nextWatch_12 : decode cX1_nextWatch 12 = .ok (.if_icmp .ge 43, 3) := by decide +kernel
theorem dX1_nextWatch_15 : decode cX1_nextWatch 15 = .ok (.aload_n 0, 1) := by decide +kernel
theorem dX1_nextWatch_16 : decode cX1_nextWatch 16 = .ok (.getfield 15, 3) := by decide +kernel
theorem dX1_nextWatch_19 : decode cX1_nextWatch 19 = .ok (.iload 4, 2) := by decide +kernel
theorem dX1_nextWatch_21 : decode cX1_nextWatch 21 = .ok (.iaload, 1) := by decide +kernel
theorem dX1_nextWatch_22 : decode cX1_nextWatch 22 = .ok (.iload_n 1, 1) := by decide +kernel
theorem dX1_nextWatch_23 : decode cX1_nextWatch 23 = .ok (.if_icmp .ne 26, 3) := by decide +kernel
theorem dX1_nextWatch_26 : decode cX1_nextWatch 26 = .ok (.aload_n 0, 1) := by decide +kernel
theorem dX1_nextWatch_27 : decode cX1_nextWatch 27 = .ok (.getfield 19, 3) := by decide +kernel
theorem dX1_nextWatch_30 : decode cX1_nextWatch 30 = .ok (.iload 4, 2) := by decide +kernel
theorem dX1_nextWatch_32 : decode cX1_nextWatch 32 = .ok (.iaload, 1) := by decide +kernel
theorem dX1_nextWatch_33 : decode cX1_nextWatch 33 = .ok (.iload_n 2, 1) := by decide +kernel
theorem dX1_nextWatch_34 : decode cX1_nextWatch 34 = .ok (.if_icmp .le 15, 3) := by decide +kernel
theorem dX1_nextWatch_37 : decode cX1_nextWatch 37 = .ok (.iload_n 3, 1) := by decide +kernel
theorem dX1_nextWatch_38 : decode cX1_nextWatch 38 = .ok (.aload_n 0, 1) := by decide +kernel
theorem dX1_nextWatch_39 : decode cX1_nextWatch 39 = .ok (.getfield 19, 3) := by decide +kernel
theorem dX1_nextWatch_42 : decode cX1_nextWatch 42 = .ok (.iload 4, 2) := by decide +kernel
theorem dX1_nextWatch_44 : decode cX1_nextWatch 44 = .ok (.iaload, 1) := by decide +kernel
theorem dX1_nextWatch_45 : decode cX1_nextWatch 45 = .ok (.invokestatic 25, 3) := by decide +kernel
theorem dX1_nextWatch_48 : decode cX1_nextWatch 48 = .ok (.istore_n 3, 1) := by decide +kernel
theorem dX1_nextWatch_49 : decode cX1_nextWatch 49 = .ok (.iinc 4 1, 3) := by decide +kernel
theorem dX1_nextWatch_52 : decode cX1_nextWatch 52 = .ok (.goto (-46), 3) := by decide +kernel
theorem dX1_nextWatch_55 : decode cX1_nextWatch 55 = .ok (.iload_n 3, 1) := by decide +kernel
theorem dX1_nextWatch_56 : decode cX1_nextWatch 56 = .ok (.ireturn, 1) := by decide +kernel
theorem dX2_init_0 : decode cX2_init 0 = .ok (.aload_n 0, 1) := by decide +kernel
theorem dX2_init_1 : decode cX2_init 1 = .ok (.invokespecial 3, 3) := by decide +kernel
theorem dX2_init_4 : decode cX2_init 4 = .ok (.aload_n 0, 1) := by decide +kernel
theorem dX2_init_5 : decode cX2_init 5 = .ok (.iconst 0, 1) := by decide +kernel
theorem dX2_init_6 : decode cX2_init 6 = .ok (.putfield 9, 3) := by decide +kernel
theorem dX2_init_9 : decode cX2_init 9 = .ok (.aload_n 0, 1) := by decide +kernel
theorem dX2_init_10 : decode cX2_init 10 = .ok (.iconst 0, 1) := by decide +kernel
theorem dX2_init_11 : decode cX2_init 11 = .ok (.putfield 15, 3) := by decide +kernel
theorem dX2_init_14 : decode cX2_init 14 = .ok (.aload_n 0, 1) := by decide +kernel
theorem dX2_init_15 : decode cX2_init 15 = .ok (.iconst 0, 1) := by decide +kernel
theorem dX2_init_16 : decode cX2_init 16 = .ok (.putfield 18, 3) := by decide +kernel
theorem dX2_init_19 : decode cX2_init 19 = .ok (.aload_n 0, 1) := by decide +kernel
theorem dX2_init_20 : decode cX2_init 20 = .ok (.bipush 6, 2) := by decide +kernel
theorem dX2_init_22 : decode cX2_init 22 = .ok (.newarray .int, 2) := by decide +kernel
theorem dX2_init_24 : decode cX2_init 24 = .ok (.putfield 21, 3) := by decide +kernel
theorem dX2_init_27 : decode cX2_init 27 = .ok (.aload_n 0, 1) := by decide +kernel
theorem dX2_init_28 : decode cX2_init 28 = .ok (.iconst 4, 1) := by decide +kernel
theorem dX2_init_29 : decode cX2_init 29 = .ok (.newarray .int, 2) := by decide +kernel
theorem dX2_init_31 : decode cX2_init 31 = .ok (.putfield 25, 3) := by decide +kernel
theorem dX2_init_34 : decode cX2_init 34 = .ok (.aload_n 0, 1) := by decide +kernel
theorem dX2_init_35 : decode cX2_init 35 = .ok (.iconst 4, 1) := by decide +kernel
theorem dX2_init_36 : decode cX2_init 36 = .ok (.newarray .int, 2) := by decide +kernel
theorem dX2_init_38 : decode cX2_init 38 = .ok (.putfield 28, 3) := by decide +kernel
theorem dX2_init_41 : decode cX2_init 41 = .ok (.aload_n 0, 1) := by decide +kernel
theorem dX2_init_42 : decode cX2_init 42 = .ok (.iconst 4, 1) := by decide +kernel
theorem dX2_init_43 : decode cX2_init 43 = .ok (.newarray .int, 2) := by decide +kernel
theorem dX2_init_45 : decode cX2_init 45 = .ok (.putfield 31, 3) := by decide +kernel
theorem dX2_init_48 : decode cX2_init 48 = .ok (.aload_n 0, 1) := by decide +kernel
theorem dX2_init_49 : decode cX2_init 49 = .ok (.iconst 4, 1) := by decide +kernel
theorem dX2_init_50 : decode cX2_init 50 = .ok (.newarray .int, 2) := by decide +kernel
theorem dX2_init_52 : decode cX2_init 52 = .ok (.putfield 34, 3) := by decide +kernel
theorem dX2_init_55 : decode cX2_init 55 = .ok (.return_, 1) := by decide +kernel
theorem dX2_isThere_0 : decode cX2_isThere 0 = .ok (.aload_n 0, 1) := by decide +kernel
theorem dX2_isThere_1 : decode cX2_isThere 1 = .ok (.getfield 15, 3) := by decide +kernel
theorem dX2_isThere_4 : decode cX2_isThere 4 = .ok (.ifCond .le 7, 3) := by decide +kernel
theorem dX2_isThere_7 : decode cX2_isThere 7 = .ok (.iconst 1, 1) := by decide +kernel
theorem dX2_isThere_8 : decode cX2_isThere 8 = .ok (.goto 4, 3) := by decide +kernel
theorem dX2_isThere_11 : decode cX2_isThere 11 = .ok (.iconst 0, 1) := by decide +kernel
theorem dX2_isThere_12 : decode cX2_isThere 12 = .ok (.ireturn, 1) := by decide +kernel
theorem dX2_hasSpot_0 : decode cX2_hasSpot 0 = .ok (.iload_n 1, 1) := by decide +kernel
theorem dX2_hasSpot_1 : decode cX2_hasSpot 1 = .ok (.ifCond .lt 15, 3) := by decide +kernel
theorem dX2_hasSpot_4 : decode cX2_hasSpot 4 = .ok (.iload_n 1, 1) := by decide +kernel
theorem dX2_hasSpot_5 : decode cX2_hasSpot 5 = .ok (.aload_n 0, 1) := by decide +kernel
theorem dX2_hasSpot_6 : decode cX2_hasSpot 6 = .ok (.getfield 9, 3) := by decide +kernel
theorem dX2_hasSpot_9 : decode cX2_hasSpot 9 = .ok (.if_icmp .ge 7, 3) := by decide +kernel
theorem dX2_hasSpot_12 : decode cX2_hasSpot 12 = .ok (.iconst 1, 1) := by decide +kernel
theorem dX2_hasSpot_13 : decode cX2_hasSpot 13 = .ok (.goto 4, 3) := by decide +kernel
theorem dX2_hasSpot_16 : decode cX2_hasSpot 16 = .ok (.iconst 0, 1) := by decide +kernel
theorem dX2_hasSpot_17 : decode cX2_hasSpot 17 = .ok (.ireturn, 1) := by decide +kernel
theorem dX2_hasLamp_0 : decode cX2_hasLamp 0 = .ok (.iload_n 1, 1) := by decide +kernel
theorem dX2_hasLamp_1 : decode cX2_hasLamp 1 = .ok (.ifCond .lt 15, 3) := by decide +kernel
theorem dX2_hasLamp_4 : decode cX2_hasLamp 4 = .ok (.iload_n 1, 1) := by decide +kernel
theorem dX2_hasLamp_5 : decode cX2_hasLamp 5 = .ok (.aload_n 0, 1) := by decide +kernel
theorem dX2_hasLamp_6 : decode cX2_hasLamp 6 = .ok (.getfield 15, 3) := by decide +kernel
theorem dX2_hasLamp_9 : decode cX2_hasLamp 9 = .ok (.if_icmp .ge 7, 3) := by decide +kernel
theorem dX2_hasLamp_12 : decode cX2_hasLamp 12 = .ok (.iconst 1, 1) := by decide +kernel
theorem dX2_hasLamp_13 : decode cX2_hasLamp 13 = .ok (.goto 4, 3) := by decide +kernel
theorem dX2_hasLamp_16 : decode cX2_hasLamp 16 = .ok (.iconst 0, 1) := by decide +kernel
theorem dX2_hasLamp_17 : decode cX2_hasLamp 17 = .ok (.ireturn, 1) := by decide +kernel
theorem dX2_makeNew_0 : decode cX2_makeNew 0 = .ok (.aload_n 0, 1) := by decide +kernel
theorem dX2_makeNew_1 : decode cX2_makeNew 1 = .ok (.iconst 0, 1) := by decide +kernel
theorem dX2_makeNew_2 : decode cX2_makeNew 2 = .ok (.putfield 9, 3) := by decide +kernel
theorem dX2_makeNew_5 : decode cX2_makeNew 5 = .ok (.aload_n 0, 1) := by decide +kernel
theorem dX2_makeNew_6 : decode cX2_makeNew 6 = .ok (.iconst 0, 1) := by decide +kernel
theorem dX2_makeNew_7 : decode cX2_makeNew 7 = .ok (.putfield 15, 3) := by decide +kernel
theorem dX2_makeNew_10 : decode cX2_makeNew 10 = .ok (.aload_n 0, 1) := by decide +kernel
theorem dX2_makeNew_11 : decode cX2_makeNew 11 = .ok (.bipush 6, 2) := by decide +kernel
theorem dX2_makeNew_13 : decode cX2_makeNew 13 = .ok (.putfield 18, 3) := by decide +kernel
theorem dX2_makeNew_16 : decode cX2_makeNew 16 = .ok (.iconst 0, 1) := by decide +kernel
theorem dX2_makeNew_17 : decode cX2_makeNew 17 = .ok (.istore_n 1, 1) := by decide +kernel
theorem dX2_makeNew_18 : decode cX2_makeNew 18 = .ok (.iload_n 1, 1) := by decide +kernel
theorem dX2_makeNew_19 : decode cX2_makeNew 19 = .ok (.iconst 4, 1) := by decide +kernel
theorem dX2_makeNew_20 : decode cX2_makeNew 20 = .ok (.if_icmp .ge 16, 3) := by decide +kernel
theorem dX2_makeNew_23 : decode cX2_makeNew 23 = .ok (.aload_n 0, 1) := by decide +kernel
theorem dX2_makeNew_24 : decode cX2_makeNew 24 = .ok (.getfield 34, 3) := by decide +kernel
theorem dX2_makeNew_27 : decode cX2_makeNew 27 = .ok (.iload_n 1, 1) := by decide +kernel
theorem dX2_makeNew_28 : decode cX2_makeNew 28 = .ok (.iconst 0, 1) := by decide +kernel
theorem dX2_makeNew_29 : decode cX2_makeNew 29 = .ok (.iastore, 1) := by decide +kernel
theorem dX2_makeNew_30 : decode cX2_makeNew 30 = .ok (.iinc 1 1, 3) := by decide +kernel
theorem dX2_makeNew_33 : decode cX2_makeNew 33 = .ok (.goto (-15), 3) := by decide +kernel
theorem dX2_makeNew_36 : decode cX2_makeNew 36 = .ok (.return_, 1) := by decide +kernel
theorem dX2_become_0 : decode cX2_become 0 = .ok (.aload_n 0, 1) := by decide +kernel
theorem dX2_become_1 : decode cX2_become 1 = .ok (.aload_n 1, 1) := by decide +kernel
theorem dX2_become_2 : decode cX2_become 2 = .ok (.getfield 9, 3) := by decide +kernel
theorem dX2_become_5 : decode cX2_become 5 = .ok (.putfield 9, 3) := by decide +kernel
theorem dX2_become_8 : decode cX2_become 8 = .ok (.aload_n 0, 1) := by decide +kernel
theorem dX2_become_9 : decode cX2_become 9 = .ok (.aload_n 1, 1) := by decide +kernel
theorem dX2_become_10 : decode cX2_become 10 = .ok (.getfield 15, 3) := by decide +kernel
theorem dX2_become_13 : decode cX2_become 13 = .ok (.putfield 15, 3) := by decide +kernel
theorem dX2_become_16 : decode cX2_become 16 = .ok (.aload_n 0, 1) := by decide +kernel
theorem dX2_become_17 : decode cX2_become 17 = .ok (.aload_n 1, 1) := by decide +kernel
theorem dX2_become_18 : decode cX2_become 18 = .ok (.getfield 18, 3) := by decide +kernel
theorem dX2_become_21 : decode cX2_become 21 = .ok (.putfield 18, 3) := by decide +kernel
theorem dX2_become_24 : decode cX2_become 24 = .ok (.aload_n 1, 1) := by decide +kernel
theorem dX2_become_25 : decode cX2_become 25 = .ok (.getfield 21, 3) := by decide +kernel
theorem dX2_become_28 : decode cX2_become 28 = .ok (.iconst 0, 1) := by decide +kernel
theorem dX2_become_29 : decode cX2_become 29 = .ok (.aload_n 0, 1) := by decide +kernel
theorem dX2_become_30 : decode cX2_become 30 = .ok (.getfield 21, 3) := by decide +kernel
theorem dX2_become_33 : decode cX2_become 33 = .ok (.iconst 0, 1) := by decide +kernel
theorem dX2_become_34 : decode cX2_become 34 = .ok (.bipush 6, 2) := by decide +kernel
theorem dX2_become_36 : decode cX2_become 36 = .ok (.invokestatic 37, 3) := by decide +kernel
theorem dX2_become_39 : decode cX2_become 39 = .ok (.aload_n 1, 1) := by decide +kernel
theorem dX2_become_40 : decode cX2_become 40 = .ok (.getfield 25, 3) := by decide +kernel
theorem dX2_become_43 : decode cX2_become 43 = .ok (.iconst 0, 1) := by decide +kernel
theorem dX2_become_44 : decode cX2_become 44 = .ok (.aload_n 0, 1) := by decide +kernel
theorem dX2_become_45 : decode cX2_become 45 = .ok (.getfield 25, 3) := by decide +kernel
theorem dX2_become_48 : decode cX2_become 48 = .ok (.iconst 0, 1) := by decide +kernel
theorem dX2_become_49 : decode cX2_become 49 = .ok (.iconst 4, 1) := by decide +kernel
theorem dX2_become_50 : decode cX2_become 50 = .ok (.invokestatic 37, 3) := by decide +kernel
theorem dX2_become_53 : decode cX2_become 53 = .ok (.aload_n 1, 1) := by decide +kernel
theorem dX2_become_54 : decode cX2_become 54 = .ok (.getfield 28, 3) := by decide +kernel
theorem dX2_become_57 : decode cX2_become 57 = .ok (.iconst 0, 1) := by decide +kernel
theorem dX2_become_58 : decode cX2_become 58 = .ok (.aload_n 0, 1) := by decide +kernel
theorem dX2_become_59 : decode cX2_become 59 = .ok (.getfield 28, 3) := by decide +kernel
theorem dX2_become_62 : decode cX2_become 62 = .ok (.iconst 0, 1) := by decide +kernel
theorem dX2_become_63 : decode cX2_become 63 = .ok (.iconst 4, 1) := by decide +kernel
theorem dX2_become_64 : decode cX2_become 64 = .ok (.invokestatic 37, 3) := by decide +kernel
theorem dX2_become_67 : decode cX2_become 67 = .ok (.aload_n 1, 1) := by decide +kernel
theorem dX2_become_68 : decode cX2_become 68 = .ok (.getfield 31, 3) := by decide +kernel
theorem dX2_become_71 : decode cX2_become 71 = .ok (.iconst 0, 1) := by decide +kernel
theorem dX2_become_72 : decode cX2_become 72 = .ok (.aload_n 0, 1) := by decide +kernel
theorem dX2_become_73 : decode cX2_become 73 = .ok (.getfield 31, 3) := by decide +kernel
theorem dX2_become_76 : decode cX2_become 76 = .ok (.iconst 0, 1) := by decide +kernel
theorem dX2_become_77 : decode cX2_become 77 = .ok (.iconst 4, 1) := by decide +kernel
theorem dX2_become_78 : decode cX2_become 78 = .ok (.invokestatic 37, 3) := by decide +kernel
theorem dX2_become_81 : decode cX2_become 81 = .ok (.aload_n 1, 1) := by decide +kernel
theorem dX2_become_82 : decode cX2_become 82 = .ok (.getfield 34, 3) := by decide +kernel
theorem dX2_become_85 : decode cX2_become 85 = .ok (.iconst 0, 1) := by decide +kernel
theorem dX2_become_86 : decode cX2_become 86 = .ok (.aload_n 0, 1) := by decide +kernel
theorem dX2_become_87 : decode cX2_become 87 = .ok (.getfield 34, 3) := by decide +kernel
theorem dX2_become_90 : decode cX2_become 90 = .ok (.iconst 0, 1) := by decide +kernel
theorem dX2_become_91 : decode cX2_become 91 = .ok (.iconst 4, 1) := by decide +kernel
theorem dX2_become_92 : decode cX2_become 92 = .ok (.invokestatic 37, 3) := by decide +kernel
theorem dX2_become_95 : decode cX2_become 95 = .ok (.return_, 1) := by decide +kernel
theorem dX2_daylight_0 : decode cX2_daylight 0 = .ok (.iconst 0, 1) := by decide +kernel
theorem dX2_daylight_1 : decode cX2_daylight 1 = .ok (.aload_n 0, 1) := by decide +kernel
theorem dX2_daylight_2 : decode cX2_daylight 2 = .ok (.getfield 21, 3) := by decide +kernel
theorem dX2_daylight_5 : decode cX2_daylight 5 = .ok (.iload_n 2, 1) := by decide +kernel
theorem dX2_daylight_6 : decode cX2_daylight 6 = .ok (.bipush 6, 2) := by decide +kernel
theorem dX2_daylight_8 : decode cX2_daylight 8 = .ok (.irem, 1) := by decide +kernel
theorem dX2_daylight_9 : decode cX2_daylight 9 = .ok (.iaload, 1) := by decide +kernel
theorem dX2_daylight_10 : decode cX2_daylight 10 = .ok (.aload_n 0, 1) := by decide +kernel
theorem dX2_daylight_11 : decode cX2_daylight 11 = .ok (.getfield 25, 3) := by decide +kernel
theorem dX2_daylight_14 : decode cX2_daylight 14 = .ok (.iload_n 1, 1) := by decide +kernel
theorem dX2_daylight_15 : decode cX2_daylight 15 = .ok (.iaload, 1) := by decide +kernel
theorem dX2_daylight_16 : decode cX2_daylight 16 = .ok (.isub, 1) := by decide +kernel
theorem dX2_daylight_17 : decode cX2_daylight 17 = .ok (.aload_n 0, 1) := by decide +kernel
theorem dX2_daylight_18 : decode cX2_daylight 18 = .ok (.getfield 34, 3) := by decide +kernel
theorem dX2_daylight_21 : decode cX2_daylight 21 = .ok (.iload_n 2, 1) := by decide +kernel
theorem dX2_daylight_22 : decode cX2_daylight 22 = .ok (.bipush 6, 2) := by decide +kernel
theorem dX2_daylight_24 : decode cX2_daylight 24 = .ok (.idiv, 1) := by decide +kernel
theorem dX2_daylight_25 : decode cX2_daylight 25 = .ok (.iaload, 1) := by decide +kernel
theorem dX2_daylight_26 : decode cX2_daylight 26 = .ok (.isub, 1) := by decide +kernel
theorem dX2_daylight_27 : decode cX2_daylight 27 = .ok (.invokestatic 43, 3) := by decide +kernel
theorem dX2_daylight_30 : decode cX2_daylight 30 = .ok (.ireturn, 1) := by decide +kernel
set_option maxRecDepth 20000 in
theorem ggX3_init_X0_init : GoodIn wsX3_init wsX0_init := goodIn_r _ [6, 7, 8, 9] rfl (by decide +kernel)
set_option maxRecDepth 20000 in
theorem gX3_init_X0_init : GoodIn wsX3_init (wsX0_init) := ggX3_init_X0_init
theorem dX3_init_0 : decode cX3_init 0 = .ok (.aload_n 0, 1) := by decide +kernel
theorem dX3_init_1 : decode cX3_init 1 = .ok (.invokespecial 3, 3) := by decide +kernel
theorem dX3_init_4 : decode cX3_init 4 = .ok (.aload_n 0, 1) := by decide +kernel
theorem dX3_init_5 : decode cX3_init 5 = .ok (.iload_n 1, 1) := by decide +kernel
theorem dX3_init_6 : decode cX3_init 6 = .ok (.putfield 9, 3) := by decide +kernel
theorem dX3_init_9 : decode cX3_init 9 = .ok (.aload_n 0, 1) := by decide +kernel
theorem dX3_init_10 : decode cX3_init 10 = .ok (.iload_n 2, 1) := by decide +kernel
theorem dX3_init_11 : decode cX3_init 11 = .ok (.putfield 15, 3) := by decide +kernel
theorem dX3_init_14 : decode cX3_init 14 = .ok (.return_, 1) := by decide +kernel
set_option maxRecDepth 20000 in
theorem ggX3_score_X8_countBelow : GoodIn wsX3_score wsX8_countBelow := goodIn_r _ [7, 8, 9, 10, 6, 11, 14, 15, 16, 17, 18] rfl (by decide +kernel)
set_option maxRecDepth 20000 in
theorem gX3_score_X8_countBelow : GoodIn wsX3_score (wsV RX3 18 RX8 yX8_countBelow wsX8_countBelow) := goodIn_app (goodIn_of _ (by decide +kernel)) ggX3_score_X8_countBelow
theorem dX3_score_0 : decode cX3_score 0 = .ok (.aload_n 1, 1) := by decide +kernel
theorem dX3_score_1 : decode cX3_score 1 = .ok (.aload_n 0, 1) := by decide +kernel
theorem dX3_score_2 : decode cX3_score 2 = .ok (.getfield 9, 3) := by decide +kernel
theorem dX3_score_5 : decode cX3_score 5 = .ok (.aload_n 0, 1) := by decide +kernel
theorem dX3_score_6 : decode cX3_score 6 = .ok (.getfield 15, 3) := by decide +kernel
theorem dX3_score_9 : decode cX3_score 9 = .ok (.invokevirtual 18, 3) := by decide +kernel
theorem dX3_score_12 : decode cX3_score 12 = .ok (.ineg, 1) := by decide +kernel
theorem dX3_score_13 : decode cX3_score 13 = .ok (.ireturn, 1) := by decide +kernel
theorem dX3_lastWatch_0 : decode cX3_lastWatch 0 = .ok (.bipush 23, 2) := by decide +kernel
theorem dX3_lastWatch_2 : decode cX3_lastWatch 2 = .ok (.ireturn, 1) := by decide +kernel
set_option maxRecDepth 20000 in
theorem ggX4_init_X0_init : GoodIn wsX4_init wsX0_init := goodIn_r _ [6, 7, 8, 9] rfl (by decide +kernel)
set_option maxRecDepth 20000 in
theorem gX4_init_X0_init : GoodIn wsX4_init (wsX0_init) := ggX4_init_X0_init
theorem dX4_init_0 : decode cX4_init 0 = .ok (.aload_n 0, 1) := by decide +kernel
theorem dX4_init_1 : decode cX4_init 1 = .ok (.invokespecial 1, 3) := by decide +kernel
theorem dX4_init_4 : decode cX4_init 4 = .ok (.aload_n 0, 1) := by decide +kernel
theorem dX4_init_5 : decode cX4_init 5 = .ok (.iload_n 1, 1) := by decide +kernel
theorem dX4_init_6 : decode cX4_init 6 = .ok (.putfield 7, 3) := by decide +kernel
theorem dX4_init_9 : decode cX4_init 9 = .ok (.aload_n 0, 1) := by decide +kernel
theorem dX4_init_10 : decode cX4_init 10 = .ok (.iload_n 2, 1) := by decide +kernel
theorem dX4_init_11 : decode cX4_init 11 = .ok (.putfield 13, 3) := by decide +kernel
theorem dX4_init_14 : decode cX4_init 14 = .ok (.return_, 1) := by decide +kernel
set_option maxRecDepth 20000 in
theorem ggX4_score_X8_lightOf : GoodIn wsX4_score wsX8_lightOf := goodIn_r _ [7, 8, 9, 10, 6, 11, 14, 15, 16, 17, 18] rfl (by decide +kernel)
set_option maxRecDepth 20000 in
theorem gX4_score_X8_lightOf : GoodIn wsX4_score (wsV RX4 16 RX8 yX8_lightOf wsX8_lightOf) := goodIn_app (goodIn_of _ (by decide +kernel)) ggX4_score_X8_lightOf
theorem dX4_score_0 : decode cX4_score 0 = .ok (.aload_n 1, 1) := by decide +kernel
theorem dX4_score_1 : decode cX4_score 1 = .ok (.aload_n 0, 1) := by decide +kernel
theorem dX4_score_2 : decode cX4_score 2 = .ok (.getfield 7, 3) := by decide +kernel
theorem dX4_score_5 : decode cX4_score 5 = .ok (.aload_n 0, 1) := by decide +kernel
theorem dX4_score_6 : decode cX4_score 6 = .ok (.getfield 13, 3) := by decide +kernel
theorem dX4_score_9 : decode cX4_score 9 = .ok (.invokevirtual 16, 3) := by decide +kernel
theorem dX4_score_12 : decode cX4_score 12 = .ok (.ireturn, 1) := by decide +kernel
theorem dX4_lastWatch_0 : decode cX4_lastWatch 0 = .ok (.aload_n 0, 1) := by decide +kernel
theorem dX4_lastWatch_1 : decode cX4_lastWatch 1 = .ok (.getfield 13, 3) := by decide +kernel
theorem dX4_lastWatch_4 : decode cX4_lastWatch 4 = .ok (.ireturn, 1) := by decide +kernel
set_option maxRecDepth 20000 in
theorem ggX5_init_X8_init : GoodIn wsX5_init wsX8_init := goodIn_r _ [13, 14, 2, 3, 15, 16, 17, 18, 19, 20, 21, 22, 23, 24, 25] rfl (by decide +kernel)
set_option maxRecDepth 20000 in
theorem gX5_init_X8_init : GoodIn wsX5_init (wsX8_init) := ggX5_init_X8_init
theorem dX5_init_0 : decode cX5_init 0 = .ok (.aload_n 0, 1) := by decide +kernel
theorem dX5_init_1 : decode cX5_init 1 = .ok (.invokespecial 3, 3) := by decide +kernel
theorem dX5_init_4 : decode cX5_init 4 = .ok (.aload_n 0, 1) := by decide +kernel
theorem dX5_init_5 : decode cX5_init 5 = .ok (.new 9, 3) := by decide +kernel
theorem dX5_init_8 : decode cX5_init 8 = .ok (.dup, 1) := by decide +kernel
theorem dX5_init_9 : decode cX5_init 9 = .ok (.invokespecial 11, 3) := by decide +kernel
theorem dX5_init_12 : decode cX5_init 12 = .ok (.putfield 12, 3) := by decide +kernel
theorem dX5_init_15 : decode cX5_init 15 = .ok (.aload_n 0, 1) := by decide +kernel
theorem dX5_init_16 : decode cX5_init 16 = .ok (.new 9, 3) := by decide +kernel
theorem dX5_init_19 : decode cX5_init 19 = .ok (.dup, 1) := by decide +kernel
theorem dX5_init_20 : decode cX5_init 20 = .ok (.invokespecial 11, 3) := by decide +kernel
theorem dX5_init_23 : decode cX5_init 23 = .ok (.putfield 18, 3) := by decide +kernel
theorem dX5_init_26 : decode cX5_init 26 = .ok (.aload_n 0, 1) := by decide +kernel
theorem dX5_init_27 : decode cX5_init 27 = .ok (.bipush (-9), 2) := by decide +kernel
theorem dX5_init_29 : decode cX5_init 29 = .ok (.putfield 21, 3) := by decide +kernel
theorem dX5_init_32 : decode cX5_init 32 = .ok (.aload_n 0, 1) := by decide +kernel
theorem dX5_init_33 : decode cX5_init 33 = .ok (.iconst 0, 1) := by decide +kernel
theorem dX5_init_34 : decode cX5_init 34 = .ok (.putfield 25, 3) := by decide +kernel
theorem dX5_init_37 : decode cX5_init 37 = .ok (.return_, 1) := by decide +kernel
set_option maxRecDepth 20000 in
theorem ggX5_run_X8_reckon : GoodIn wsX5_run wsX8_reckon := goodIn_r _ [9, 10, 11, 12, 13, 14, 8, 15, 16, 17, 18, 19, 20, 21, 22, 23, 24, 25, 26, 27, 28, 29, 30, 31, 32, 33, 34, 35, 36, 37, 38, 39, 40, 41, 42, 43, 44, 45, 46, 47, 48, 49, 50, 51, 52, 53, 54, 55, 56, 118, 119, 120, 121, 122, 123, 124, 125, 126, 127, 128, 129, 130, 131, 132, 133, 134] rfl (by decide +kernel)
set_option maxRecDepth 20000 in
theorem gX5_run_X8_reckon : GoodIn wsX5_run (wsV RX5 28 RX8 yX8_reckon wsX8_reckon) := goodIn_app (goodIn_of _ (by decide +kernel)) ggX5_run_X8_reckon
set_option maxRecDepth 20000 in
theorem ggX5_run_X3_score : GoodIn wsX5_run wsX3_score := goodIn_r _ [62, 63, 64, 65, 66, 67, 8, 68, 43, 23, 24, 25, 135, 136, 126, 127, 128, 129, 130] rfl (by decide +kernel)
set_option maxRecDepth 20000 in
theorem gX5_run_X3_score_u32X3 : GoodIn wsX5_run (va_wsU RX5 32 RX3 "OldLamps$Aim" ⟨"OldLamps$Aim", "score", "(LOldLamps$Watches;)I"⟩ yX3_score wsX3_score) := goodIn_app (goodIn_of _ (by decide +kernel)) ggX5_run_X3_score
set_option maxRecDepth 20000 in
theorem ggX5_run_X4_score : GoodIn wsX5_run wsX4_score := goodIn_r _ [72, 73, 74, 75, 76, 77, 8, 78, 43, 23, 24, 25, 137, 138, 126, 127, 128, 129, 130] rfl (by decide +kernel)
set_option maxRecDepth 20000 in
theorem gX5_run_X4_score_u32X4 : GoodIn wsX5_run (va_wsU RX5 32 RX4 "OldLamps$Aim" ⟨"OldLamps$Aim", "score", "(LOldLamps$Watches;)I"⟩ yX4_score wsX4_score) := goodIn_app (goodIn_of _ (by decide +kernel)) ggX5_run_X4_score
set_option maxRecDepth 20000 in
theorem ggX5_run_X3_lastWatch : GoodIn wsX5_run wsX3_lastWatch := goodIn_r _ [83] rfl (by decide +kernel)
set_option maxRecDepth 20000 in
theorem gX5_run_X3_lastWatch_u43X3 : GoodIn wsX5_run (va_wsU RX5 43 RX3 "OldLamps$Aim" ⟨"OldLamps$Aim", "lastWatch", "()I"⟩ yX3_lastWatch wsX3_lastWatch) := goodIn_app (goodIn_of _ (by decide +kernel)) ggX5_run_X3_lastWatch
set_option maxRecDepth 20000 in
theorem ggX5_run_X4_lastWatch : GoodIn wsX5_run wsX4_lastWatch := goodIn_r _ [86, 74, 137, 138] rfl (by decide +kernel)
set_option maxRecDepth 20000 in
theorem gX5_run_X4_lastWatch_u43X4 : GoodIn wsX5_run (va_wsU RX5 43 RX4 "OldLamps$Aim" ⟨"OldLamps$Aim", "lastWatch", "()I"⟩ yX4_lastWatch wsX4_lastWatch) := goodIn_app (goodIn_of _ (by decide +kernel)) ggX5_run_X4_lastWatch
set_option maxRecDepth 20000 in
theorem ggX5_run_X1_nextWatch : GoodIn wsX5_run wsX1_nextWatch := goodIn_r _ [91, 92, 93, 94, 95, 52, 36, 53, 131, 132, 133, 134] rfl (by decide +kernel)
set_option maxRecDepth 20000 in
theorem gX5_run_X1_nextWatch : GoodIn wsX5_run (wsV RX5 47 RX1 yX1_nextWatch wsX1_nextWatch) := goodIn_app (goodIn_of _ (by decide +kernel)) ggX5_run_X1_nextWatch
set_option maxRecDepth 20000 in
theorem ggX5_run_X5_tryAllSpots : GoodIn wsX5_run wsX5_tryAllSpots := goodIn_r _ [100, 1, 101, 102, 103, 3, 2, 104, 24, 8, 25, 105, 106, 107, 108, 17, 44, 45, 46, 47, 50, 49, 11, 43, 109, 110, 111, 112, 23, 79, 80, 81, 82, 61, 83, 84, 85, 71, 86, 74, 113, 39, 40, 41, 42, 16, 48, 51, 52, 36, 53, 54, 55, 56, 57, 58, 59, 60, 62, 63, 64, 65, 66, 67, 68, 69, 70, 72, 73, 75, 76, 77, 78, 114, 115, 116, 117, 126, 127, 128, 129, 130, 118, 119, 120, 121, 122, 123, 124, 125, 137, 138, 135, 136] rfl (by decide +kernel)
set_option maxRecDepth 20000 in
theorem gX5_run_X5_tryAllSpots : GoodIn wsX5_run (wsV RX5 53 RX5 yX5_tryAllSpots wsX5_tryAllSpots) := goodIn_app (goodIn_of _ (by decide +kernel)) ggX5_run_X5_tryAllSpots
theorem dX5_run_0 : decode cX5_run 0 = .ok (.aload_n 0, 1) := by decide +kernel
theorem dX5_run_1 : decode cX5_run 1 = .ok (.getfield 12, 3) := by decide +kernel
theorem dX5_run_4 : decode cX5_run 4 = .ok (.aload_n 1, 1) := by decide +kernel
theorem dX5_run_5 : decode cX5_run 5 = .ok (.aload_n 2, 1) := by decide +kernel
theorem dX5_run_6 : decode cX5_run 6 = .ok (.invokevirtual 28, 3) := by decide +kernel
theorem dX5_run_9 : decode cX5_run 9 = .ok (.aload_n 0, 1) := by decide +kernel
theorem dX5_run_10 : decode cX5_run 10 = .ok (.bipush (-9), 2) := by decide +kernel
theorem dX5_run_12 : decode cX5_run 12 = .ok (.putfield 21, 3) := by decide +kernel
theorem dX5_run_15 : decode cX5_run 15 = .ok (.aload_n 0, 1) := by decide +kernel
theorem dX5_run_16 : decode cX5_run 16 = .ok (.aload_n 3, 1) := by decide +kernel
theorem dX5_run_17 : decode cX5_run 17 = .ok (.aload_n 0, 1) := by decide +kernel
theorem dX5_run_18 : decode cX5_run 18 = .ok (.getfield 12, 3) := by decide +kernel
theorem dX5_run_21 : decode cX5_run 21 = .ok (.invokevirtual 32, 3) := by decide +kernel
theorem dX5_run_24 : decode cX5_run 24 = .ok (.putfield 25, 3) := by decide +kernel
theorem dX5_run_27 : decode cX5_run 27 = .ok (.iconst 0, 1) := by decide +kernel
theorem dX5_run_28 : decode cX5_run 28 = .ok (.istore 4, 2) := by decide +kernel
theorem dX5_run_30 : decode cX5_run 30 = .ok (.iload 4, 2) := by decide +kernel
theorem dX5_run_32 : decode cX5_run 32 = .ok (.aload_n 1, 1) := by decide +kernel
theorem dX5_run_33 : decode cX5_run 33 = .ok (.getfield 38, 3) := by decide +kernel
theorem dX5_run_36 : decode cX5_run 36 = .ok (.if_icmp .ge 45, 3) := by decide +kernel
theorem dX5_run_39 : decode cX5_run 39 = .ok (.iconst 0, 1) := by decide +kernel
theorem dX5_run_40 : decode cX5_run 40 = .ok (.istore 5, 2) := by decide +kernel
theorem dX5_run_42 : decode cX5_run 42 = .ok (.iload 5, 2) := by decide +kernel
theorem dX5_run_44 : decode cX5_run 44 = .ok (.aload_n 3, 1) := by decide +kernel
theorem dX5_run_45 : decode cX5_run 45 = .ok (.invokevirtual 43, 3) := by decide +kernel
theorem dX5_run_48 : decode cX5_run 48 = .ok (.if_icmp .gt 27, 3) := by decide +kernel
theorem dX5_run_51 : decode cX5_run 51 = .ok (.aload_n 0, 1) := by decide +kernel
theorem dX5_run_52 : decode cX5_run 52 = .ok (.aload_n 1, 1) := by decide +kernel
theorem dX5_run_53 : decode cX5_run 53 = .ok (.aload_n 3, 1) := by decide +kernel
theorem dX5_run_54 : decode cX5_run 54 = .ok (.iload 4, 2) := by decide +kernel
theorem dX5_run_56 : decode cX5_run 56 = .ok (.iload 5, 2) := by decide +kernel
theorem dX5_run_58 : decode cX5_run 58 = .ok (.aload_n 2, 1) := by decide +kernel
theorem dX5_run_59 : decode cX5_run 59 = .ok (.iload 4, 2) := by decide +kernel
theorem dX5_run_61 : decode cX5_run 61 = .ok (.iload 5, 2) := by decide +kernel
theorem dX5_run_63 : decode cX5_run 63 = .ok (.invokevirtual 47, 3) := by decide +kernel
theorem dX5_run_66 : decode cX5_run 66 = .ok (.invokevirtual 53, 3) := by decide +kernel
theorem dX5_run_69 : decode cX5_run 69 = .ok (.iinc 5 1, 3) := by decide +kernel
theorem dX5_run_72 : decode cX5_run 72 = .ok (.goto (-30), 3) := by decide +kernel
theorem dX5_run_75 : decode cX5_run 75 = .ok (.iinc 4 1, 3) := by decide +kernel
theorem dX5_run_78 : decode cX5_run 78 = .ok (.goto (-48), 3) := by decide +kernel
theorem dX5_run_81 : decode cX5_run 81 = .ok (.return_, 1) := by decide +kernel
set_option maxRecDepth 20000 in
theorem ggX5_tryAllSpots_X8_at : GoodIn wsX5_tryAllSpots wsX8_at := goodIn_r _ [10] rfl (by decide +kernel)
set_option maxRecDepth 20000 in
theorem gX5_tryAllSpots_X8_at : GoodIn wsX5_tryAllSpots (va_wsS RX5 61 yX8_at wsX8_at) := goodIn_app (goodIn_of _ (by decide +kernel)) ggX5_tryAllSpots_X8_at
set_option maxRecDepth 20000 in
theorem ggX5_tryAllSpots_X8_become : GoodIn wsX5_tryAllSpots wsX8_become := goodIn_r _ [14, 15, 16, 17, 18, 19, 20, 21, 22, 23, 77, 78, 79, 80, 81] rfl (by decide +kernel)
set_option maxRecDepth 20000 in
theorem gX5_tryAllSpots_X8_become : GoodIn wsX5_tryAllSpots (wsV RX5 67 RX8 yX8_become wsX8_become) := goodIn_app (goodIn_of _ (by decide +kernel)) ggX5_tryAllSpots_X8_become
set_option maxRecDepth 20000 in
theorem ggX5_tryAllSpots_X8_placeAt : GoodIn wsX5_tryAllSpots wsX8_placeAt := goodIn_r _ [27, 15, 28, 8, 9, 10, 77, 78, 79, 80, 81] rfl (by decide +kernel)
set_option maxRecDepth 20000 in
theorem gX5_tryAllSpots_X8_placeAt : GoodIn wsX5_tryAllSpots (wsV RX5 71 RX8 yX8_placeAt wsX8_placeAt) := goodIn_app (goodIn_of _ (by decide +kernel)) ggX5_tryAllSpots_X8_placeAt
set_option maxRecDepth 20000 in
theorem ggX5_tryAllSpots_X3_lastWatch : GoodIn wsX5_tryAllSpots wsX3_lastWatch := goodIn_r _ [34] rfl (by decide +kernel)
set_option maxRecDepth 20000 in
theorem gX5_tryAllSpots_X3_lastWatch_u43X3 : GoodIn wsX5_tryAllSpots (va_wsU RX5 43 RX3 "OldLamps$Aim" ⟨"OldLamps$Aim", "lastWatch", "()I"⟩ yX3_lastWatch wsX3_lastWatch) := goodIn_app (goodIn_of _ (by decide +kernel)) ggX5_tryAllSpots_X3_lastWatch
set_option maxRecDepth 20000 in
theorem ggX5_tryAllSpots_X4_lastWatch : GoodIn wsX5_tryAllSpots wsX4_lastWatch := goodIn_r _ [38, 39, 90, 91] rfl (by decide +kernel)
set_option maxRecDepth 20000 in
theorem gX5_tryAllSpots_X4_lastWatch_u43X4 : GoodIn wsX5_tryAllSpots (va_wsU RX5 43 RX4 "OldLamps$Aim" ⟨"OldLamps$Aim", "lastWatch", "()I"⟩ yX4_lastWatch wsX4_lastWatch) := goodIn_app (goodIn_of _ (by decide +kernel)) ggX5_tryAllSpots_X4_lastWatch
set_option maxRecDepth 20000 in
theorem ggX5_tryAllSpots_X8_reckonLight : GoodIn wsX5_tryAllSpots wsX8_reckonLight := goodIn_r _ [43, 44, 22, 23, 16, 17, 18, 19, 45, 46, 21, 20, 15, 47, 48, 49, 50, 28, 8, 9, 10, 51, 52, 53, 82, 83, 84, 85, 86, 87, 88, 89, 77, 78, 79, 80, 81] rfl (by decide +kernel)
set_option maxRecDepth 20000 in
theorem gX5_tryAllSpots_X8_reckonLight : GoodIn wsX5_tryAllSpots (wsV RX5 75 RX8 yX8_reckonLight wsX8_reckonLight) := goodIn_app (goodIn_of _ (by decide +kernel)) ggX5_tryAllSpots_X8_reckonLight
set_option maxRecDepth 20000 in
theorem ggX5_tryAllSpots_X3_score : GoodIn wsX5_tryAllSpots wsX3_score := goodIn_r _ [58, 59, 60, 61, 62, 63, 9, 64, 23, 28, 8, 10, 92, 93, 77, 78, 79, 80, 81] rfl (by decide +kernel)
set_option maxRecDepth 20000 in
theorem gX5_tryAllSpots_X3_score_u32X3 : GoodIn wsX5_tryAllSpots (va_wsU RX5 32 RX3 "OldLamps$Aim" ⟨"OldLamps$Aim", "score", "(LOldLamps$Watches;)I"⟩ yX3_score wsX3_score) := goodIn_app (goodIn_of _ (by decide +kernel)) ggX5_tryAllSpots_X3_score
set_option maxRecDepth 20000 in
theorem ggX5_tryAllSpots_X4_score : GoodIn wsX5_tryAllSpots wsX4_score := goodIn_r _ [67, 68, 39, 69, 70, 71, 9, 72, 23, 28, 8, 10, 90, 91, 77, 78, 79, 80, 81] rfl (by decide +kernel)
set_option maxRecDepth 20000 in
theorem gX5_tryAllSpots_X4_score_u32X4 : GoodIn wsX5_tryAllSpots (va_wsU RX5 32 RX4 "OldLamps$Aim" ⟨"OldLamps$Aim", "score", "(LOldLamps$Watches;)I"⟩ yX4_score wsX4_score) := goodIn_app (goodIn_of _ (by decide +kernel)) ggX5_tryAllSpots_X4_score
theorem dX5_tryAllSpots_0 : decode cX5_tryAllSpots 0 = .ok (.aload_n 0, 1) := by decide +kernel
theorem dX5_tryAllSpots_1 : decode cX5_tryAllSpots 1 = .ok (.getfield 12, 3) := by decide +kernel
theorem dX5_tryAllSpots_4 : decode cX5_tryAllSpots 4 = .ok (.getfield 57, 3) := by decide +kernel
theorem dX5_tryAllSpots_7 : decode cX5_tryAllSpots 7 = .ok (.iload 4, 2) := by decide +kernel
theorem dX5_tryAllSpots_9 : decode cX5_tryAllSpots 9 = .ok (.iload_n 3, 1) := by decide +kernel
theorem dX5_tryAllSpots_10 : decode cX5_tryAllSpots 10 = .ok (.invokestatic 61, 3) := by decide +kernel
theorem dX5_tryAllSpots_13 : decode cX5_tryAllSpots 13 = .ok (.iaload, 1) := by decide +kernel
theorem dX5_tryAllSpots_14 : decode cX5_tryAllSpots 14 = .ok (.istore 6, 2) := by decide +kernel
theorem dX5_tryAllSpots_16 : decode cX5_tryAllSpots 16 = .ok (.iconst 0, 1) := by decide +kernel
theorem dX5_tryAllSpots_17 : decode cX5_tryAllSpots 17 = .ok (.istore 7, 2) := by decide +kernel
theorem dX5_tryAllSpots_19 : decode cX5_tryAllSpots 19 = .ok (.iload 7, 2) := by decide +kernel
theorem dX5_tryAllSpots_21 : decode cX5_tryAllSpots 21 = .ok (.aload_n 1, 1) := by decide +kernel
theorem dX5_tryAllSpots_22 : decode cX5_tryAllSpots 22 = .ok (.getfield 64, 3) := by decide +kernel
theorem dX5_tryAllSpots_25 : decode cX5_tryAllSpots 25 = .ok (.if_icmp .ge 101, 3) := by decide +kernel
theorem dX5_tryAllSpots_28 : decode cX5_tryAllSpots 28 = .ok (.iload 7, 2) := by decide +kernel
theorem dX5_tryAllSpots_30 : decode cX5_tryAllSpots 30 = .ok (.iload 6, 2) := by decide +kernel
theorem dX5_tryAllSpots_32 : decode cX5_tryAllSpots 32 = .ok (.if_icmp .ne 6, 3) := by decide +kernel
theorem dX5_tryAllSpots_35 : decode cX5_tryAllSpots 35 = .ok (.goto 85, 3) := by decide +kernel
theorem dX5_tryAllSpots_38 : decode cX5_tryAllSpots 38 = .ok (.aload_n 0, 1) := by decide +kernel
theorem dX5_tryAllSpots_39 : decode cX5_tryAllSpots 39 = .ok (.getfield 18, 3) := by decide +kernel
theorem dX5_tryAllSpots_42 : decode cX5_tryAllSpots 42 = .ok (.aload_n 0, 1) := by decide +kernel
theorem dX5_tryAllSpots_43 : decode cX5_tryAllSpots 43 = .ok (.getfield 12, 3) := by decide +kernel
theorem dX5_tryAllSpots_46 : decode cX5_tryAllSpots 46 = .ok (.invokevirtual 67, 3) := by decide +kernel
theorem dX5_tryAllSpots_49 : decode cX5_tryAllSpots 49 = .ok (.aload_n 0, 1) := by decide +kernel
theorem dX5_tryAllSpots_50 : decode cX5_tryAllSpots 50 = .ok (.getfield 18, 3) := by decide +kernel
theorem dX5_tryAllSpots_53 : decode cX5_tryAllSpots 53 = .ok (.iload_n 3, 1) := by decide +kernel
theorem dX5_tryAllSpots_54 : decode cX5_tryAllSpots 54 = .ok (.iload 7, 2) := by decide +kernel
theorem dX5_tryAllSpots_56 : decode cX5_tryAllSpots 56 = .ok (.iload 4, 2) := by decide +kernel
theorem dX5_tryAllSpots_58 : decode cX5_tryAllSpots 58 = .ok (.iload 5, 2) := by decide +kernel
theorem dX5_tryAllSpots_60 : decode cX5_tryAllSpots 60 = .ok (.invokevirtual 71, 3) := by decide +kernel
theorem dX5_tryAllSpots_63 : decode cX5_tryAllSpots 63 = .ok (.aload_n 0, 1) := by decide +kernel
theorem dX5_tryAllSpots_64 : decode cX5_tryAllSpots 64 = .ok (.getfield 18, 3) := by decide +kernel
theorem dX5_tryAllSpots_67 : decode cX5_tryAllSpots 67 = .ok (.aload_n 1, 1) := by decide +kernel
theorem dX5_tryAllSpots_68 : decode cX5_tryAllSpots 68 = .ok (.iload 4, 2) := by decide +kernel
theorem dX5_tryAllSpots_70 : decode cX5_tryAllSpots 70 = .ok (.aload_n 2, 1) := by decide +kernel
theorem dX5_tryAllSpots_71 : decode cX5_tryAllSpots 71 = .ok (.invokevirtual 43, 3) := by decide +kernel
theorem dX5_tryAllSpots_74 : decode cX5_tryAllSpots 74 = .ok (.invokevirtual 75, 3) := by decide +kernel
theorem dX5_tryAllSpots_77 : decode cX5_tryAllSpots 77 = .ok (.aload_n 2, 1) := by decide +kernel
theorem dX5_tryAllSpots_78 : decode cX5_tryAllSpots 78 = .ok (.aload_n 0, 1) := by decide +kernel
theorem dX5_tryAllSpots_79 : decode cX5_tryAllSpots 79 = .ok (.getfield 18, 3) := by decide +kernel
theorem dX5_tryAllSpots_82 : decode cX5_tryAllSpots 82 = .ok (.invokevirtual 32, 3) := by decide +kernel
theorem dX5_tryAllSpots_85 : decode cX5_tryAllSpots 85 = .ok (.istore 8, 2) := by decide +kernel
theorem dX5_tryAllSpots_87 : decode cX5_tryAllSpots 87 = .ok (.iload 8, 2) := by decide +kernel
theorem dX5_tryAllSpots_89 : decode cX5_tryAllSpots 89 = .ok (.aload_n 0, 1) := by decide +kernel
theorem dX5_tryAllSpots_90 : decode cX5_tryAllSpots 90 = .ok (.getfield 25, 3) := by decide +kernel
theorem dX5_tryAllSpots_93 : decode cX5_tryAllSpots 93 = .ok (.if_icmp .le 27, 3) := by decide +kernel
theorem dX5_tryAllSpots_96 : decode cX5_tryAllSpots 96 = .ok (.aload_n 0, 1) := by decide +kernel
theorem dX5_tryAllSpots_97 : decode cX5_tryAllSpots 97 = .ok (.iload 8, 2) := by decide +kernel
theorem dX5_tryAllSpots_99 : decode cX5_tryAllSpots 99 = .ok (.putfield 25, 3) := by decide +kernel
theorem dX5_tryAllSpots_102 : decode cX5_tryAllSpots 102 = .ok (.aload_n 0, 1) := by decide +kernel
theorem dX5_tryAllSpots_103 : decode cX5_tryAllSpots 103 = .ok (.sipush 1000, 3) := by decide +kernel
theorem dX5_tryAllSpots_106 : decode cX5_tryAllSpots 106 = .ok (.iload_n 3, 1) := by decide +kernel
theorem dX5_tryAllSpots_107 : decode cX5_tryAllSpots 107 = .ok (.imul, 1) := by decide +kernel
theorem dX5_tryAllSpots_108 : decode cX5_tryAllSpots 108 = .ok (.bipush 10, 2) := by decide +kernel
theorem dX5_tryAllSpots_110 : decode cX5_tryAllSpots 110 = .ok (.iload 4, 2) := by decide +kernel
theorem dX5_tryAllSpots_112 : decode cX5_tryAllSpots 112 = .ok (.imul, 1) := by decide +kernel
theorem dX5_tryAllSpots_113 : decode cX5_tryAllSpots 113 = .ok (.iadd, 1) := by decide +kernel
theorem dX5_tryAllSpots_114 : decode cX5_tryAllSpots 114 = .ok (.iload 7, 2) := by decide +kernel
theorem dX5_tryAllSpots_116 : decode cX5_tryAllSpots 116 = .ok (.iadd, 1) := by decide +kernel
theorem dX5_tryAllSpots_117 : decode cX5_tryAllSpots 117 = .ok (.putfield 21, 3) := by decide +kernel
theorem dX5_tryAllSpots_120 : decode cX5_tryAllSpots 120 = .ok (.iinc 7 1, 3) := by decide +kernel
theorem dX5_tryAllSpots_123 : decode cX5_tryAllSpots 123 = .ok (.goto (-104), 3) := by decide +kernel
theorem dX5_tryAllSpots_126 : decode cX5_tryAllSpots 126 = .ok (.return_, 1) := by decide +kernel
theorem dX6_init_0 : decode cX6_init 0 = .ok (.aload_n 0, 1) := by decide +kernel
theorem dX6_init_1 : decode cX6_init 1 = .ok (.invokespecial 3, 3) := by decide +kernel
theorem dX6_init_4 : decode cX6_init 4 = .ok (.aload_n 0, 1) := by decide +kernel
theorem dX6_init_5 : decode cX6_init 5 = .ok (.bipush 60, 2) := by decide +kernel
theorem dX6_init_7 : decode cX6_init 7 = .ok (.newarray .int, 2) := by decide +kernel
theorem dX6_init_9 : decode cX6_init 9 = .ok (.putfield 9, 3) := by decide +kernel
theorem dX6_init_12 : decode cX6_init 12 = .ok (.aload_n 0, 1) := by decide +kernel
theorem dX6_init_13 : decode cX6_init 13 = .ok (.iconst 0, 1) := by decide +kernel
theorem dX6_init_14 : decode cX6_init 14 = .ok (.putfield 15, 3) := by decide +kernel
theorem dX6_init_17 : decode cX6_init 17 = .ok (.aload_n 0, 1) := by decide +kernel
theorem dX6_init_18 : decode cX6_init 18 = .ok (.iconst (-1), 1) := by decide +kernel
theorem dX6_init_19 : decode cX6_init 19 = .ok (.putfield 19, 3) := by decide +kernel
theorem dX6_init_22 : decode cX6_init 22 = .ok (.return_, 1) := by decide +kernel
theorem dX6_isNothing_0 : decode cX6_isNothing 0 = .ok (.aload_n 0, 1) := by decide +kernel
theorem dX6_isNothing_1 : decode cX6_isNothing 1 = .ok (.getfield 19, 3) := by decide +kernel
theorem dX6_isNothing_4 : decode cX6_isNothing 4 = .ok (.iconst (-1), 1) := by decide +kernel
theorem dX6_isNothing_5 : decode cX6_isNothing 5 = .ok (.if_icmp .ne 7, 3) := by decide +kernel
theorem dX6_isNothing_8 : decode cX6_isNothing 8 = .ok (.iconst 1, 1) := by decide +kernel
theorem dX6_isNothing_9 : decode cX6_isNothing 9 = .ok (.goto 4, 3) := by decide +kernel
theorem dX6_isNothing_12 : decode cX6_isNothing 12 = .ok (.iconst 0, 1) := by decide +kernel
theorem dX6_isNothing_13 : decode cX6_isNothing 13 = .ok (.ireturn, 1) := by decide +kernel
theorem dX6_isOfAnotherLane_0 : decode cX6_isOfAnotherLane 0 = .ok (.aload_n 0, 1) := by decide +kernel
theorem dX6_isOfAnotherLane_1 : decode cX6_isOfAnotherLane 1 = .ok (.getfield 19, 3) := by decide +kernel
theorem dX6_isOfAnotherLane_4 : decode cX6_isOfAnotherLane 4 = .ok (.iconst (-1), 1) := by decide +kernel
theorem dX6_isOfAnotherLane_5 : decode cX6_isOfAnotherLane 5 = .ok (.if_icmp .eq 15, 3) := by decide +kernel
theorem dX6_isOfAnotherLane_8 : decode cX6_isOfAnotherLane 8 = .ok (.aload_n 0, 1) := by decide +kernel
theorem dX6_isOfAnotherLane_9 : decode cX6_isOfAnotherLane 9 = .ok (.getfield 19, 3) := by decide +kernel
theorem dX6_isOfAnotherLane_12 : decode cX6_isOfAnotherLane 12 = .ok (.iload_n 1, 1) := by decide +kernel
theorem dX6_isOfAnotherLane_13 : decode cX6_isOfAnotherLane 13 = .ok (.if_icmp .eq 7, 3) := by decide +kernel
theorem dX6_isOfAnotherLane_16 : decode cX6_isOfAnotherLane 16 = .ok (.iconst 1, 1) := by decide +kernel
theorem dX6_isOfAnotherLane_17 : decode cX6_isOfAnotherLane 17 = .ok (.goto 4, 3) := by decide +kernel
theorem dX6_isOfAnotherLane_20 : decode cX6_isOfAnotherLane 20 = .ok (.iconst 0, 1) := by decide +kernel
theorem dX6_isOfAnotherLane_21 : decode cX6_isOfAnotherLane 21 = .ok (.ireturn, 1) := by decide +kernel
theorem dX6_hasCells_0 : decode cX6_hasCells 0 = .ok (.iload_n 1, 1) := by decide +kernel
theorem dX6_hasCells_1 : decode cX6_hasCells 1 = .ok (.ifCond .lt 29, 3) := by decide +kernel
theorem dX6_hasCells_4 : decode cX6_hasCells 4 = .ok (.iload_n 1, 1) := by decide +kernel
theorem dX6_hasCells_5 : decode cX6_hasCells 5 = .ok (.aload_n 0, 1) := by decide +kernel
theorem dX6_hasCells_6 : decode cX6_hasCells 6 = .ok (.getfield 15, 3) := by decide +kernel
theorem dX6_hasCells_9 : decode cX6_hasCells 9 = .ok (.if_icmp .gt 21, 3) := by decide +kernel
theorem dX6_hasCells_12 : decode cX6_hasCells 12 = .ok (.iload_n 2, 1) := by decide +kernel
theorem dX6_hasCells_13 : decode cX6_hasCells 13 = .ok (.ifCond .lt 17, 3) := by decide +kernel
theorem dX6_hasCells_16 : decode cX6_hasCells 16 = .ok (.iload_n 2, 1) := by decide +kernel
theorem dX6_hasCells_17 : decode cX6_hasCells 17 = .ok (.aload_n 0, 1) := by decide +kernel
theorem dX6_hasCells_18 : decode cX6_hasCells 18 = .ok (.getfield 15, 3) := by decide +kernel
theorem dX6_hasCells_21 : decode cX6_hasCells 21 = .ok (.iload_n 1, 1) := by decide +kernel
theorem dX6_hasCells_22 : decode cX6_hasCells 22 = .ok (.isub, 1) := by decide +kernel
theorem dX6_hasCells_23 : decode cX6_hasCells 23 = .ok (.if_icmp .gt 7, 3) := by decide +kernel
theorem dX6_hasCells_26 : decode cX6_hasCells 26 = .ok (.iconst 1, 1) := by decide +kernel
theorem dX6_hasCells_27 : decode cX6_hasCells 27 = .ok (.goto 4, 3) := by decide +kernel
theorem dX6_hasCells_30 : decode cX6_hasCells 30 = .ok (.iconst 0, 1) := by decide +kernel
theorem dX6_hasCells_31 : decode cX6_hasCells 31 = .ok (.ireturn, 1) := by decide +kernel
theorem dX6_cutToLane_0 : decode cX6_cutToLane 0 = .ok (.aload_n 0, 1) := by decide +kernel
theorem dX6_cutToLane_1 : decode cX6_cutToLane 1 = .ok (.getfield 19, 3) := by decide +kernel
theorem dX6_cutToLane_4 : decode cX6_cutToLane 4 = .ok (.ifCond .ne 6, 3) := by decide +kernel
theorem dX6_cutToLane_7 : decode cX6_cutToLane 7 = .ok (.iload_n 1, 1) := by decide +kernel
theorem dX6_cutToLane_8 : decode cX6_cutToLane 8 = .ok (.i2b, 1) := by decide +kernel
theorem dX6_cutToLane_9 : decode cX6_cutToLane 9 = .ok (.ireturn, 1) := by decide +kernel
theorem dX6_cutToLane_10 : decode cX6_cutToLane 10 = .ok (.aload_n 0, 1) := by decide +kernel
theorem dX6_cutToLane_11 : decode cX6_cutToLane 11 = .ok (.getfield 19, 3) := by decide +kernel
theorem dX6_cutToLane_14 : decode cX6_cutToLane 14 = .ok (.iconst 1, 1) := by decide +kernel
theorem dX6_cutToLane_15 : decode cX6_cutToLane 15 = .ok (.if_icmp .ne 8, 3) := by decide +kernel
theorem dX6_cutToLane_18 : decode cX6_cutToLane 18 = .ok (.iload_n 1, 1) := by decide +kernel
theorem dX6_cutToLane_19 : decode cX6_cutToLane 19 = .ok (.i2s, 1) := by decide +kernel
theorem dX6_cutToLane_20 : decode cX6_cutToLane 20 = .ok (.goto 4, 3) := by decide +kernel
theorem dX6_cutToLane_23 : decode cX6_cutToLane 23 = .ok (.iload_n 1, 1) := by decide +kernel
theorem dX6_cutToLane_24 : decode cX6_cutToLane 24 = .ok (.ireturn, 1) := by decide +kernel
theorem dX6_makeRow_0 : decode cX6_makeRow 0 = .ok (.aload_n 0, 1) := by decide +kernel
theorem dX6_makeRow_1 : decode cX6_makeRow 1 = .ok (.iload_n 1, 1) := by decide +kernel
theorem dX6_makeRow_2 : decode cX6_makeRow 2 = .ok (.putfield 19, 3) := by decide +kernel
theorem dX6_makeRow_5 : decode cX6_makeRow 5 = .ok (.aload_n 0, 1) := by decide +kernel
theorem dX6_makeRow_6 : decode cX6_makeRow 6 = .ok (.iload_n 2, 1) := by decide +kernel
theorem dX6_makeRow_7 : decode cX6_makeRow 7 = .ok (.putfield 15, 3) := by decide +kernel
theorem dX6_makeRow_10 : decode cX6_makeRow 10 = .ok (.iconst 0, 1) := by decide +kernel
theorem dX6_makeRow_11 : decode cX6_makeRow 11 = .ok (.istore_n 3, 1) := by decide +kernel
theorem dX6_makeRow_12 : decode cX6_makeRow 12 = .ok (.iload_n 3, 1) := by decide +kernel
theorem dX6_makeRow_13 : decode cX6_makeRow 13 = .ok (.iload_n 2, 1) := by decide +kernel
theorem dX6_makeRow_14 : decode cX6_makeRow 14 = .ok (.if_icmp .ge 16, 3) := by decide +kernel
theorem dX6_makeRow_17 : decode cX6_makeRow 17 = .ok (.aload_n 0, 1) := by decide +kernel
theorem dX6_makeRow_18 : decode cX6_makeRow 18 = .ok (.getfield 9, 3) := by decide +kernel
theorem dX6_makeRow_21 : decode cX6_makeRow 21 = .ok (.iload_n 3, 1) := by decide +kernel
theorem dX6_makeRow_22 : decode cX6_makeRow 22 = .ok (.iconst 0, 1) := by decide +kernel
theorem dX6_makeRow_23 : decode cX6_makeRow 23 = .ok (.iastore, 1) := by decide +kernel
theorem dX6_makeRow_24 : decode cX6_makeRow 24 = .ok (.iinc 3 1, 3) := by decide +kernel
theorem dX6_makeRow_27 : decode cX6_makeRow 27 = .ok (.goto (-15), 3) := by decide +kernel
theorem dX6_makeRow_30 : decode cX6_makeRow 30 = .ok (.return_, 1) := by decide +kernel
theorem dX6_makeNothing_0 : decode cX6_makeNothing 0 = .ok (.aload_n 0, 1) := by decide +kernel
theorem dX6_makeNothing_1 : decode cX6_makeNothing 1 = .ok (.iconst (-1), 1) := by decide +kernel
theorem dX6_makeNothing_2 : decode cX6_makeNothing 2 = .ok (.putfield 19, 3) := by decide +kernel
theorem dX6_makeNothing_5 : decode cX6_makeNothing 5 = .ok (.aload_n 0, 1) := by decide +kernel
theorem dX6_makeNothing_6 : decode cX6_makeNothing 6 = .ok (.iconst 0, 1) := by decide +kernel
theorem dX6_makeNothing_7 : decode cX6_makeNothing 7 = .ok (.putfield 15, 3) := by decide +kernel
theorem dX6_makeNothing_10 : decode cX6_makeNothing 10 = .ok (.return_, 1) := by decide +kernel
theorem dX7_init_0 : decode cX7_init 0 = .ok (.aload_n 0, 1) := by decide +kernel
theorem dX7_init_1 : decode cX7_init 1 = .ok (.invokespecial 3, 3) := by decide +kernel
theorem dX7_init_4 : decode cX7_init 4 = .ok (.aload_n 0, 1) := by decide +kernel
theorem dX7_init_5 : decode cX7_init 5 = .ok (.iconst 0, 1) := by decide +kernel
theorem dX7_init_6 : decode cX7_init 6 = .ok (.putfield 9, 3) := by decide +kernel
theorem dX7_init_9 : decode cX7_init 9 = .ok (.aload_n 0, 1) := by decide +kernel
theorem dX7_init_10 : decode cX7_init 10 = .ok (.aload_n 1, 1) := by decide +kernel
theorem dX7_init_11 : decode cX7_init 11 = .ok (.putfield 15, 3) := by decide +kernel
theorem dX7_init_14 : decode cX7_init 14 = .ok (.aload_n 0, 1) := by decide +kernel
theorem dX7_init_15 : decode cX7_init 15 = .ok (.iload_n 2, 1) := by decide +kernel
theorem dX7_init_16 : decode cX7_init 16 = .ok (.putfield 19, 3) := by decide +kernel
theorem dX7_init_19 : decode cX7_init 19 = .ok (.aload_n 0, 1) := by decide +kernel
theorem dX7_init_20 : decode cX7_init 20 = .ok (.iload_n 3, 1) := by decide +kernel
theorem dX7_init_21 : decode cX7_init 21 = .ok (.putfield 22, 3) := by decide +kernel
theorem dX7_init_24 : decode cX7_init 24 = .ok (.return_, 1) := by decide +kernel
set_option maxRecDepth 20000 in
theorem ggX7_reads_X2_makeNew : GoodIn wsX7_reads wsX2_makeNew := goodIn_r _ [7, 8, 9, 10, 11, 50, 51, 52, 53, 54, 55, 56, 57] rfl (by decide +kernel)
set_option maxRecDepth 20000 in
theorem gX7_reads_X2_makeNew : GoodIn wsX7_reads (wsV RX7 25 RX2 yX2_makeNew wsX2_makeNew) := goodIn_app (goodIn_of _ (by decide +kernel)) ggX7_reads_X2_makeNew
set_option maxRecDepth 20000 in
theorem ggX7_reads_X7_readsSky : GoodIn wsX7_reads wsX7_readsSky := goodIn_r _ [16, 17, 18, 19, 20, 15, 21, 1, 2, 22, 23, 24, 25, 26, 27, 28, 50, 51, 52, 53, 54, 55, 56, 57, 46, 47, 48, 49, 58, 59, 60] rfl (by decide +kernel)
set_option maxRecDepth 20000 in
theorem gX7_reads_X7_readsSky : GoodIn wsX7_reads (wsV RX7 30 RX7 yX7_readsSky wsX7_readsSky) := goodIn_app (goodIn_of _ (by decide +kernel)) ggX7_reads_X7_readsSky
set_option maxRecDepth 20000 in
theorem ggX7_reads_X7_readsSpots : GoodIn wsX7_reads wsX7_readsSpots := goodIn_r _ [32, 33, 34, 18, 19, 20, 15, 21, 1, 2, 22, 23, 24, 25, 26, 27, 28, 50, 51, 52, 53, 54, 55, 56, 57, 46, 47, 48, 49, 58, 59, 60] rfl (by decide +kernel)
set_option maxRecDepth 20000 in
theorem gX7_reads_X7_readsSpots : GoodIn wsX7_reads (wsV RX7 34 RX7 yX7_readsSpots wsX7_readsSpots) := goodIn_app (goodIn_of _ (by decide +kernel)) ggX7_reads_X7_readsSpots
set_option maxRecDepth 20000 in
theorem ggX7_reads_X7_readsLamps : GoodIn wsX7_reads wsX7_readsLamps := goodIn_r _ [38, 34, 39, 40, 41, 18, 19, 20, 15, 21, 1, 2, 22, 23, 24, 42, 43, 44, 45, 25, 26, 27, 28, 50, 51, 52, 53, 54, 55, 56, 57, 46, 47, 48, 49, 58, 59, 60] rfl (by decide +kernel)
set_option maxRecDepth 20000 in
theorem gX7_reads_X7_readsLamps : GoodIn wsX7_reads (wsV RX7 37 RX7 yX7_readsLamps wsX7_readsLamps) := goodIn_app (goodIn_of _ (by decide +kernel)) ggX7_reads_X7_readsLamps
theorem dX7_reads_0 : decode cX7_reads 0 = .ok (.aload_n 1, 1) := by decide +kernel
theorem dX7_reads_1 : decode cX7_reads 1 = .ok (.invokevirtual 25, 3) := by decide +kernel
theorem dX7_reads_4 : decode cX7_reads 4 = .ok (.aload_n 0, 1) := by decide +kernel
theorem dX7_reads_5 : decode cX7_reads 5 = .ok (.aload_n 1, 1) := by decide +kernel
theorem dX7_reads_6 : decode cX7_reads 6 = .ok (.invokevirtual 30, 3) := by decide +kernel
theorem dX7_reads_9 : decode cX7_reads 9 = .ok (.ifCond .eq 34, 3) := by decide +kernel
theorem dX7_reads_12 : decode cX7_reads 12 = .ok (.aload_n 0, 1) := by decide +kernel
theorem dX7_reads_13 : decode cX7_reads 13 = .ok (.aload_n 1, 1) := by decide +kernel
theorem dX7_reads_14 : decode cX7_reads 14 = .ok (.invokevirtual 34, 3) := by decide +kernel
theorem dX7_reads_17 : decode cX7_reads 17 = .ok (.ifCond .eq 26, 3) := by decide +kernel
theorem dX7_reads_20 : decode cX7_reads 20 = .ok (.aload_n 0, 1) := by decide +kernel
theorem dX7_reads_21 : decode cX7_reads 21 = .ok (.aload_n 1, 1) := by decide +kernel
theorem dX7_reads_22 : decode cX7_reads 22 = .ok (.invokevirtual 37, 3) := by decide +kernel
theorem dX7_reads_25 : decode cX7_reads 25 = .ok (.ifCond .eq 18, 3) := by decide +kernel
theorem dX7_reads_28 : decode cX7_reads 28 = .ok (.aload_n 0, 1) := by decide +kernel
theorem dX7_reads_29 : decode cX7_reads 29 = .ok (.getfield 9, 3) := by decide +kernel
theorem dX7_reads_32 : decode cX7_reads 32 = .ok (.aload_n 0, 1) := by decide +kernel
theorem dX7_reads_33 : decode cX7_reads 33 = .ok (.getfield 22, 3) := by decide +kernel
theorem dX7_reads_36 : decode cX7_reads 36 = .ok (.if_icmp .ne 7, 3) := by decide +kernel
theorem dX7_reads_39 : decode cX7_reads 39 = .ok (.iconst 1, 1) := by decide +kernel
theorem dX7_reads_40 : decode cX7_reads 40 = .ok (.goto 4, 3) := by decide +kernel
theorem dX7_reads_43 : decode cX7_reads 43 = .ok (.iconst 0, 1) := by decide +kernel
theorem dX7_reads_44 : decode cX7_reads 44 = .ok (.ireturn, 1) := by decide +kernel
set_option maxRecDepth 20000 in
theorem ggX7_readsSky_X7_takes : GoodIn wsX7_readsSky wsX7_takes := goodIn_r _ [6, 7, 8, 9, 10, 11, 24, 25, 26, 27, 28, 29, 30] rfl (by decide +kernel)
set_option maxRecDepth 20000 in
theorem gX7_readsSky_X7_takes : GoodIn wsX7_readsSky (wsV RX7 40 RX7 yX7_takes wsX7_takes) := goodIn_app (goodIn_of _ (by decide +kernel)) ggX7_readsSky_X7_takes
set_option maxRecDepth 20000 in
theorem ggX7_readsSky_X7_takeDigit : GoodIn wsX7_readsSky wsX7_takeDigit := goodIn_r _ [15, 7, 8, 9, 10, 11, 24, 25, 26, 27, 28, 29, 30] rfl (by decide +kernel)
set_option maxRecDepth 20000 in
theorem gX7_readsSky_X7_takeDigit : GoodIn wsX7_readsSky (wsV RX7 44 RX7 yX7_takeDigit wsX7_takeDigit) := goodIn_app (goodIn_of _ (by decide +kernel)) ggX7_readsSky_X7_takeDigit
theorem dX7_readsSky_0 : decode cX7_readsSky 0 = .ok (.aload_n 0, 1) := by decide +kernel
theorem dX7_readsSky_1 : decode cX7_readsSky 1 = .ok (.bipush 111, 2) := by decide +kernel
theorem dX7_readsSky_3 : decode cX7_readsSky 3 = .ok (.invokevirtual 40, 3) := by decide +kernel
theorem dX7_readsSky_6 : decode cX7_readsSky 6 = .ok (.ifCond .ne 5, 3) := by decide +kernel
theorem dX7_readsSky_9 : decode cX7_readsSky 9 = .ok (.iconst 0, 1) := by decide +kernel
theorem dX7_readsSky_10 : decode cX7_readsSky 10 = .ok (.ireturn, 1) := by decide +kernel
theorem dX7_readsSky_11 : decode cX7_readsSky 11 = .ok (.iconst 0, 1) := by decide +kernel
theorem dX7_readsSky_12 : decode cX7_readsSky 12 = .ok (.istore_n 2, 1) := by decide +kernel
theorem dX7_readsSky_13 : decode cX7_readsSky 13 = .ok (.iload_n 2, 1) := by decide +kernel
theorem dX7_readsSky_14 : decode cX7_readsSky 14 = .ok (.bipush 6, 2) := by decide +kernel
theorem dX7_readsSky_16 : decode cX7_readsSky 16 = .ok (.if_icmp .ge 29, 3) := by decide +kernel
theorem dX7_readsSky_19 : decode cX7_readsSky 19 = .ok (.aload_n 0, 1) := by decide +kernel
theorem dX7_readsSky_20 : decode cX7_readsSky 20 = .ok (.bipush 10, 2) := by decide +kernel
theorem dX7_readsSky_22 : decode cX7_readsSky 22 = .ok (.invokevirtual 44, 3) := by decide +kernel
theorem dX7_readsSky_25 : decode cX7_readsSky 25 = .ok (.istore_n 3, 1) := by decide +kernel
theorem dX7_readsSky_26 : decode cX7_readsSky 26 = .ok (.iload_n 3, 1) := by decide +kernel
theorem dX7_readsSky_27 : decode cX7_readsSky 27 = .ok (.ifCond .ge 5, 3) := by decide +kernel
theorem dX7_readsSky_30 : decode cX7_readsSky 30 = .ok (.iconst 0, 1) := by decide +kernel
theorem dX7_readsSky_31 : decode cX7_readsSky 31 = .ok (.ireturn, 1) := by decide +kernel
theorem dX7_readsSky_32 : decode cX7_readsSky 32 = .ok (.aload_n 1, 1) := by decide +kernel
theorem dX7_readsSky_33 : decode cX7_readsSky 33 = .ok (.getfield 48, 3) := by decide +kernel
theorem dX7_readsSky_36 : decode cX7_readsSky 36 = .ok (.iload_n 2, 1) := by decide +kernel
theorem dX7_readsSky_37 : decode cX7_readsSky 37 = .ok (.iload_n 3, 1) := by decide +kernel
theorem dX7_readsSky_38 : decode cX7_readsSky 38 = .ok (.iastore, 1) := by decide +kernel
theorem dX7_readsSky_39 : decode cX7_readsSky 39 = .ok (.iinc 2 1, 3) := by decide +kernel
theorem dX7_readsSky_42 : decode cX7_readsSky 42 = .ok (.goto (-29), 3) := by decide +kernel
theorem dX7_readsSky_45 : decode cX7_readsSky 45 = .ok (.iconst 1, 1) := by decide +kernel
theorem dX7_readsSky_46 : decode cX7_readsSky 46 = .ok (.ireturn, 1) := by decide +kernel
set_option maxRecDepth 20000 in
theorem ggX7_readsSpots_X7_takes : GoodIn wsX7_readsSpots wsX7_takes := goodIn_r _ [7, 8, 9, 10, 11, 12, 25, 26, 27, 28, 29, 30, 31] rfl (by decide +kernel)
set_option maxRecDepth 20000 in
theorem gX7_readsSpots_X7_takes : GoodIn wsX7_readsSpots (wsV RX7 40 RX7 yX7_takes wsX7_takes) := goodIn_app (goodIn_of _ (by decide +kernel)) ggX7_readsSpots_X7_takes
set_option maxRecDepth 20000 in
theorem ggX7_readsSpots_X7_takeDigit : GoodIn wsX7_readsSpots wsX7_takeDigit := goodIn_r _ [16, 8, 9, 10, 11, 12, 25, 26, 27, 28, 29, 30, 31] rfl (by decide +kernel)
set_option maxRecDepth 20000 in
theorem gX7_readsSpots_X7_takeDigit : GoodIn wsX7_readsSpots (wsV RX7 44 RX7 yX7_takeDigit wsX7_takeDigit) := goodIn_app (goodIn_of _ (by decide +kernel)) ggX7_readsSpots_X7_takeDigit
theorem dX7_readsSpots_0 : decode cX7_readsSpots 0 = .ok (.iconst 0, 1) := by decide +kernel
theorem dX7_readsSpots_1 : decode cX7_readsSpots 1 = .ok (.istore_n 2, 1) := by decide +kernel
theorem dX7_readsSpots_2 : decode cX7_readsSpots 2 = .ok (.iload_n 2, 1) := by decide +kernel
theorem dX7_readsSpots_3 : decode cX7_readsSpots 3 = .ok (.iconst 4, 1) := by decide +kernel
theorem dX7_readsSpots_4 : decode cX7_readsSpots 4 = .ok (.if_icmp .ge 45, 3) := by decide +kernel
theorem dX7_readsSpots_7 : decode cX7_readsSpots 7 = .ok (.aload_n 0, 1) := by decide +kernel
theorem dX7_readsSpots_8 : decode cX7_readsSpots 8 = .ok (.bipush 59, 2) := by decide +kernel
theorem dX7_readsSpots_10 : decode cX7_readsSpots 10 = .ok (.invokevirtual 40, 3) := by decide +kernel
theorem dX7_readsSpots_13 : decode cX7_readsSpots 13 = .ok (.ifCond .eq 36, 3) := by decide +kernel
theorem dX7_readsSpots_16 : decode cX7_readsSpots 16 = .ok (.aload_n 0, 1) := by decide +kernel
theorem dX7_readsSpots_17 : decode cX7_readsSpots 17 = .ok (.bipush 10, 2) := by decide +kernel
theorem dX7_readsSpots_19 : decode cX7_readsSpots 19 = .ok (.invokevirtual 44, 3) := by decide +kernel
theorem dX7_readsSpots_22 : decode cX7_readsSpots 22 = .ok (.istore_n 3, 1) := by decide +kernel
theorem dX7_readsSpots_23 : decode cX7_readsSpots 23 = .ok (.iload_n 3, 1) := by decide +kernel
theorem dX7_readsSpots_24 : decode cX7_readsSpots 24 = .ok (.ifCond .ge 5, 3) := by decide +kernel
theorem dX7_readsSpots_27 : decode cX7_readsSpots 27 = .ok (.iconst 0, 1) := by decide +kernel
theorem dX7_readsSpots_28 : decode cX7_readsSpots 28 = .ok (.ireturn, 1) := by decide +kernel
theorem dX7_readsSpots_29 : decode cX7_readsSpots 29 = .ok (.aload_n 1, 1) := by decide +kernel
theorem dX7_readsSpots_30 : decode cX7_readsSpots 30 = .ok (.getfield 52, 3) := by decide +kernel
theorem dX7_readsSpots_33 : decode cX7_readsSpots 33 = .ok (.iload_n 2, 1) := by decide +kernel
theorem dX7_readsSpots_34 : decode cX7_readsSpots 34 = .ok (.iload_n 3, 1) := by decide +kernel
theorem dX7_readsSpots_35 : decode cX7_readsSpots 35 = .ok (.iastore, 1) := by decide +kernel
theorem dX7_readsSpots_36 : decode cX7_readsSpots 36 = .ok (.aload_n 1, 1) := by decide +kernel
theorem dX7_readsSpots_37 : decode cX7_readsSpots 37 = .ok (.iload_n 2, 1) := by decide +kernel
theorem dX7_readsSpots_38 : decode cX7_readsSpots 38 = .ok (.iconst 1, 1) := by decide +kernel
theorem dX7_readsSpots_39 : decode cX7_readsSpots 39 = .ok (.iadd, 1) := by decide +kernel
theorem dX7_readsSpots_40 : decode cX7_readsSpots 40 = .ok (.putfield 55, 3) := by decide +kernel
theorem dX7_readsSpots_43 : decode cX7_readsSpots 43 = .ok (.iinc 2 1, 3) := by decide +kernel
theorem dX7_readsSpots_46 : decode cX7_readsSpots 46 = .ok (.goto (-44), 3) := by decide +kernel
theorem dX7_readsSpots_49 : decode cX7_readsSpots 49 = .ok (.aload_n 1, 1) := by decide +kernel
theorem dX7_readsSpots_50 : decode cX7_readsSpots 50 = .ok (.getfield 55, 3) := by decide +kernel
theorem dX7_readsSpots_53 : decode cX7_readsSpots 53 = .ok (.ifCond .le 7, 3) := by decide +kernel
theorem dX7_readsSpots_56 : decode cX7_readsSpots 56 = .ok (.iconst 1, 1) := by decide +kernel
theorem dX7_readsSpots_57 : decode cX7_readsSpots 57 = .ok (.goto 4, 3) := by decide +kernel
theorem dX7_readsSpots_60 : decode cX7_readsSpots 60 = .ok (.iconst 0, 1) := by decide +kernel
theorem dX7_readsSpots_61 : decode cX7_readsSpots 61 = .ok (.ireturn, 1) := by decide +kernel
set_option maxRecDepth 20000 in
theorem ggX7_readsLamps_X7_takes : GoodIn wsX7_readsLamps wsX7_takes := goodIn_r _ [9, 10, 11, 12, 13, 14, 31, 32, 33, 34, 35, 36, 37] rfl (by decide +kernel)
set_option maxRecDepth 20000 in
theorem gX7_readsLamps_X7_takes : GoodIn wsX7_readsLamps (wsV RX7 40 RX7 yX7_takes wsX7_takes) := goodIn_app (goodIn_of _ (by decide +kernel)) ggX7_readsLamps_X7_takes
set_option maxRecDepth 20000 in
theorem ggX7_readsLamps_X7_takeKind : GoodIn wsX7_readsLamps wsX7_takeKind := goodIn_r _ [18, 5, 6, 7, 8, 9, 10, 11, 12, 13, 14, 31, 32, 33, 34, 35, 36, 37] rfl (by decide +kernel)
set_option maxRecDepth 20000 in
theorem gX7_readsLamps_X7_takeKind : GoodIn wsX7_readsLamps (wsV RX7 58 RX7 yX7_takeKind wsX7_takeKind) := goodIn_app (goodIn_of _ (by decide +kernel)) ggX7_readsLamps_X7_takeKind
set_option maxRecDepth 20000 in
theorem ggX7_readsLamps_X7_takeDigit : GoodIn wsX7_readsLamps wsX7_takeDigit := goodIn_r _ [22, 10, 11, 12, 13, 14, 31, 32, 33, 34, 35, 36, 37] rfl (by decide +kernel)
set_option maxRecDepth 20000 in
theorem gX7_readsLamps_X7_takeDigit : GoodIn wsX7_readsLamps (wsV RX7 44 RX7 yX7_takeDigit wsX7_takeDigit) := goodIn_app (goodIn_of _ (by decide +kernel)) ggX7_readsLamps_X7_takeDigit
theorem dX7_readsLamps_0 : decode cX7_readsLamps 0 = .ok (.iconst 0, 1) := by decide +kernel
theorem dX7_readsLamps_1 : decode cX7_readsLamps 1 = .ok (.istore_n 2, 1) := by decide +kernel
theorem dX7_readsLamps_2 : decode cX7_readsLamps 2 = .ok (.iload_n 2, 1) := by decide +kernel
theorem dX7_readsLamps_3 : decode cX7_readsLamps 3 = .ok (.iconst 4, 1) := by decide +kernel
theorem dX7_readsLamps_4 : decode cX7_readsLamps 4 = .ok (.if_icmp .ge 68, 3) := by decide +kernel
theorem dX7_readsLamps_7 : decode cX7_readsLamps 7 = .ok (.aload_n 0, 1) := by decide +kernel
theorem dX7_readsLamps_8 : decode cX7_readsLamps 8 = .ok (.bipush 44, 2) := by decide +kernel
theorem dX7_readsLamps_10 : decode cX7_readsLamps 10 = .ok (.invokevirtual 40, 3) := by decide +kernel
theorem dX7_readsLamps_13 : decode cX7_readsLamps 13 = .ok (.ifCond .eq 59, 3) := by decide +kernel
theorem dX7_readsLamps_16 : decode cX7_readsLamps 16 = .ok (.aload_n 0, 1) := by decide +kernel
theorem dX7_readsLamps_17 : decode cX7_readsLamps 17 = .ok (.invokevirtual 58, 3) := by decide +kernel
theorem dX7_readsLamps_20 : decode cX7_readsLamps 20 = .ok (.istore_n 3, 1) := by decide +kernel
theorem dX7_readsLamps_21 : decode cX7_readsLamps 21 = .ok (.iload_n 3, 1) := by decide +kernel
theorem dX7_readsLamps_22 : decode cX7_readsLamps 22 = .ok (.ifCond .ge 5, 3) := by decide +kernel
theorem dX7_readsLamps_25 : decode cX7_readsLamps 25 = .ok (.iconst 0, 1) := by decide +kernel
theorem dX7_readsLamps_26 : decode cX7_readsLamps 26 = .ok (.ireturn, 1) := by decide +kernel
theorem dX7_readsLamps_27 : decode cX7_readsLamps 27 = .ok (.aload_n 0, 1) := by decide +kernel
theorem dX7_readsLamps_28 : decode cX7_readsLamps 28 = .ok (.aload_n 1, 1) := by decide +kernel
theorem dX7_readsLamps_29 : decode cX7_readsLamps 29 = .ok (.getfield 55, 3) := by decide +kernel
theorem dX7_readsLamps_32 : decode cX7_readsLamps 32 = .ok (.invokevirtual 44, 3) := by decide +kernel
theorem dX7_readsLamps_35 : decode cX7_readsLamps 35 = .ok (.istore 4, 2) := by decide +kernel
theorem dX7_readsLamps_37 : decode cX7_readsLamps 37 = .ok (.iload 4, 2) := by decide +kernel
theorem dX7_readsLamps_39 : decode cX7_readsLamps 39 = .ok (.ifCond .ge 5, 3) := by decide +kernel
theorem dX7_readsLamps_42 : decode cX7_readsLamps 42 = .ok (.iconst 0, 1) := by decide +kernel
theorem dX7_readsLamps_43 : decode cX7_readsLamps 43 = .ok (.ireturn, 1) := by decide +kernel
theorem dX7_readsLamps_44 : decode cX7_readsLamps 44 = .ok (.aload_n 1, 1) := by decide +kernel
theorem dX7_readsLamps_45 : decode cX7_readsLamps 45 = .ok (.getfield 62, 3) := by decide +kernel
theorem dX7_readsLamps_48 : decode cX7_readsLamps 48 = .ok (.iload_n 2, 1) := by decide +kernel
theorem dX7_readsLamps_49 : decode cX7_readsLamps 49 = .ok (.iload_n 3, 1) := by decide +kernel
theorem dX7_readsLamps_50 : decode cX7_readsLamps 50 = .ok (.iastore, 1) := by decide +kernel
theorem dX7_readsLamps_51 : decode cX7_readsLamps 51 = .ok (.aload_n 1, 1) := by decide +kernel
theorem dX7_readsLamps_52 : decode cX7_readsLamps 52 = .ok (.getfield 65, 3) := by decide +kernel
theorem dX7_readsLamps_55 : decode cX7_readsLamps 55 = .ok (.iload_n 2, 1) := by decide +kernel
theorem dX7_readsLamps_56 : decode cX7_readsLamps 56 = .ok (.iload 4, 2) := by decide +kernel
theorem dX7_readsLamps_58 : decode cX7_readsLamps 58 = .ok (.iastore, 1) := by decide +kernel
theorem dX7_readsLamps_59 : decode cX7_readsLamps 59 = .ok (.aload_n 1, 1) := by decide +kernel
theorem dX7_readsLamps_60 : decode cX7_readsLamps 60 = .ok (.iload_n 2, 1) := by decide +kernel
theorem dX7_readsLamps_61 : decode cX7_readsLamps 61 = .ok (.iconst 1, 1) := by decide +kernel
theorem dX7_readsLamps_62 : decode cX7_readsLamps 62 = .ok (.iadd, 1) := by decide +kernel
theorem dX7_readsLamps_63 : decode cX7_readsLamps 63 = .ok (.putfield 68, 3) := by decide +kernel
theorem dX7_readsLamps_66 : decode cX7_readsLamps 66 = .ok (.iinc 2 1, 3) := by decide +kernel
theorem dX7_readsLamps_69 : decode cX7_readsLamps 69 = .ok (.goto (-67), 3) := by decide +kernel
theorem dX7_readsLamps_72 : decode cX7_readsLamps 72 = .ok (.aload_n 1, 1) := by decide +kernel
theorem dX7_readsLamps_73 : decode cX7_readsLamps 73 = .ok (.getfield 68, 3) := by decide +kernel
theorem dX7_readsLamps_76 : decode cX7_readsLamps 76 = .ok (.ifCond .le 7, 3) := by decide +kernel
theorem dX7_readsLamps_79 : decode cX7_readsLamps 79 = .ok (.iconst 1, 1) := by decide +kernel
theorem dX7_readsLamps_80 : decode cX7_readsLamps 80 = .ok (.goto 4, 3) := by decide +kernel
theorem dX7_readsLamps_83 : decode cX7_readsLamps 83 = .ok (.iconst 0, 1) := by decide +kernel
theorem dX7_readsLamps_84 : decode cX7_readsLamps 84 = .ok (.ireturn, 1) := by decide +kernel
theorem dX7_takes_0 : decode cX7_takes 0 = .ok (.aload_n 0, 1) := by decide +kernel
theorem dX7_takes_1 : decode cX7_takes 1 = .ok (.getfield 9, 3) := by decide +kernel
theorem dX7_takes_4 : decode cX7_takes 4 = .ok (.aload_n 0, 1) := by decide +kernel
theorem dX7_takes_5 : decode cX7_takes 5 = .ok (.getfield 22, 3) := by decide +kernel
theorem dX7_takes_8 : decode cX7_takes 8 = .ok (.if_icmp .ge 24, 3) := by decide +kernel
theorem dX7_takes_11 : decode cX7_takes 11 = .ok (.aload_n 0, 1) := by decide +kernel
theorem dX7_takes_12 : decode cX7_takes 12 = .ok (.getfield 15, 3) := by decide +kernel
theorem dX7_takes_15 : decode cX7_takes 15 = .ok (.getfield 71, 3) := by decide +kernel
theorem dX7_takes_18 : decode cX7_takes 18 = .ok (.aload_n 0, 1) := by decide +kernel
theorem dX7_takes_19 : decode cX7_takes 19 = .ok (.getfield 19, 3) := by decide +kernel
theorem dX7_takes_22 : decode cX7_takes 22 = .ok (.aload_n 0, 1) := by decide +kernel
theorem dX7_takes_23 : decode cX7_takes 23 = .ok (.getfield 9, 3) := by decide +kernel
theorem dX7_takes_26 : decode cX7_takes 26 = .ok (.iadd, 1) := by decide +kernel
theorem dX7_takes_27 : decode cX7_takes 27 = .ok (.iaload, 1) := by decide +kernel
theorem dX7_takes_28 : decode cX7_takes 28 = .ok (.iload_n 1, 1) := by decide +kernel
theorem dX7_takes_29 : decode cX7_takes 29 = .ok (.if_icmp .eq 5, 3) := by decide +kernel
theorem dX7_takes_32 : decode cX7_takes 32 = .ok (.iconst 0, 1) := by decide +kernel
theorem dX7_takes_33 : decode cX7_takes 33 = .ok (.ireturn, 1) := by decide +kernel
theorem dX7_takes_34 : decode cX7_takes 34 = .ok (.aload_n 0, 1) := by decide +kernel
theorem dX7_takes_35 : decode cX7_takes 35 = .ok (.dup, 1) := by decide +kernel
theorem dX7_takes_36 : decode cX7_takes 36 = .ok (.getfield 9, 3) := by decide +kernel
theorem dX7_takes_39 : decode cX7_takes 39 = .ok (.iconst 1, 1) := by decide +kernel
theorem dX7_takes_40 : decode cX7_takes 40 = .ok (.iadd, 1) := by decide +kernel
theorem dX7_takes_41 : decode cX7_takes 41 = .ok (.putfield 9, 3) := by decide +kernel
theorem dX7_takes_44 : decode cX7_takes 44 = .ok (.iconst 1, 1) := by decide +kernel
theorem dX7_takes_45 : decode cX7_takes 45 = .ok (.ireturn, 1) := by decide +kernel
theorem dX7_takeDigit_0 : decode cX7_takeDigit 0 = .ok (.aload_n 0, 1) := by decide +kernel
theorem dX7_takeDigit_1 : decode cX7_takeDigit 1 = .ok (.getfield 9, 3) := by decide +kernel
theorem dX7_takeDigit_4 : decode cX7_takeDigit 4 = .ok (.aload_n 0, 1) := by decide +kernel
theorem dX7_takeDigit_5 : decode cX7_takeDigit 5 = .ok (.getfield 22, 3) := by decide +kernel
theorem dX7_takeDigit_8 : decode cX7_takeDigit 8 = .ok (.if_icmp .lt 6, 3) := by decide +kernel
theorem dX7_takeDigit_11 : decode cX7_takeDigit 11 = .ok (.bipush (-9), 2) := by decide +kernel
theorem dX7_takeDigit_13 : decode cX7_takeDigit 13 = .ok (.ireturn, 1) := by decide +kernel
theorem dX7_takeDigit_14 : decode cX7_takeDigit 14 = .ok (.aload_n 0, 1) := by decide +kernel
theorem dX7_takeDigit_15 : decode cX7_takeDigit 15 = .ok (.getfield 15, 3) := by decide +kernel
theorem dX7_takeDigit_18 : decode cX7_takeDigit 18 = .ok (.getfield 71, 3) := by decide +kernel
theorem dX7_takeDigit_21 : decode cX7_takeDigit 21 = .ok (.aload_n 0, 1) := by decide +kernel
theorem dX7_takeDigit_22 : decode cX7_takeDigit 22 = .ok (.getfield 19, 3) := by decide +kernel
theorem dX7_takeDigit_25 : decode cX7_takeDigit 25 = .ok (.aload_n 0, 1) := by decide +kernel
theorem dX7_takeDigit_26 : decode cX7_takeDigit 26 = .ok (.getfield 9, 3) := by decide +kernel
theorem dX7_takeDigit_29 : decode cX7_takeDigit 29 = .ok (.iadd, 1) := by decide +kernel
theorem dX7_takeDigit_30 : decode cX7_takeDigit 30 = .ok (.iaload, 1) := by decide +kernel
theorem dX7_takeDigit_31 : decode cX7_takeDigit 31 = .ok (.bipush 48, 2) := by decide +kernel
theorem dX7_takeDigit_33 : decode cX7_takeDigit 33 = .ok (.isub, 1) := by decide +kernel
theorem dX7_takeDigit_34 : decode cX7_takeDigit 34 = .ok (.istore_n 2, 1) := by decide +kernel
theorem dX7_takeDigit_35 : decode cX7_takeDigit 35 = .ok (.iload_n 2, 1) := by decide +kernel
theorem dX7_takeDigit_36 : decode cX7_takeDigit 36 = .ok (.ifCond .lt 8, 3) := by decide +kernel
theorem dX7_takeDigit_39 : decode cX7_takeDigit 39 = .ok (.iload_n 2, 1) := by decide +kernel
theorem dX7_takeDigit_40 : decode cX7_takeDigit 40 = .ok (.iload_n 1, 1) := by decide +kernel
theorem dX7_takeDigit_41 : decode cX7_takeDigit 41 = .ok (.if_icmp .lt 6, 3) := by decide +kernel
theorem dX7_takeDigit_44 : decode cX7_takeDigit 44 = .ok (.bipush (-9), 2) := by decide +kernel
theorem dX7_takeDigit_46 : decode cX7_takeDigit 46 = .ok (.ireturn, 1) := by decide +kernel
theorem dX7_takeDigit_47 : decode cX7_takeDigit 47 = .ok (.aload_n 0, 1) := by decide +kernel
theorem dX7_takeDigit_48 : decode cX7_takeDigit 48 = .ok (.dup, 1) := by decide +kernel
theorem dX7_takeDigit_49 : decode cX7_takeDigit 49 = .ok (.getfield 9, 3) := by decide +kernel
theorem dX7_takeDigit_52 : decode cX7_takeDigit 52 = .ok (.iconst 1, 1) := by decide +kernel
theorem dX7_takeDigit_53 : decode cX7_takeDigit 53 = .ok (.iadd, 1) := by decide +kernel
theorem dX7_takeDigit_54 : decode cX7_takeDigit 54 = .ok (.putfield 9, 3) := by decide +kernel
theorem dX7_takeDigit_57 : decode cX7_takeDigit 57 = .ok (.iload_n 2, 1) := by decide +kernel
theorem dX7_takeDigit_58 : decode cX7_takeDigit 58 = .ok (.ireturn, 1) := by decide +kernel
set_option maxRecDepth 20000 in
theorem ggX7_takeKind_X7_takes : GoodIn wsX7_takeKind wsX7_takes := goodIn_r _ [5, 6, 7, 8, 9, 10, 11, 12, 13, 14, 15, 16, 17] rfl (by decide +kernel)
set_option maxRecDepth 20000 in
theorem gX7_takeKind_X7_takes : GoodIn wsX7_takeKind (wsV RX7 40 RX7 yX7_takes wsX7_takes) := goodIn_app (goodIn_of _ (by decide +kernel)) ggX7_takeKind_X7_takes
theorem dX7_takeKind_0 : decode cX7_takeKind 0 = .ok (.aload_n 0, 1) := by decide +kernel
theorem dX7_takeKind_1 : decode cX7_takeKind 1 = .ok (.bipush 108, 2) := by decide +kernel
theorem dX7_takeKind_3 : decode cX7_takeKind 3 = .ok (.invokevirtual 40, 3) := by decide +kernel
theorem dX7_takeKind_6 : decode cX7_takeKind 6 = .ok (.ifCond .eq 5, 3) := by decide +kernel
theorem dX7_takeKind_9 : decode cX7_takeKind 9 = .ok (.iconst 0, 1) := by decide +kernel
theorem dX7_takeKind_10 : decode cX7_takeKind 10 = .ok (.ireturn, 1) := by decide +kernel
theorem dX7_takeKind_11 : decode cX7_takeKind 11 = .ok (.aload_n 0, 1) := by decide +kernel
theorem dX7_takeKind_12 : decode cX7_takeKind 12 = .ok (.bipush 109, 2) := by decide +kernel
theorem dX7_takeKind_14 : decode cX7_takeKind 14 = .ok (.invokevirtual 40, 3) := by decide +kernel
theorem dX7_takeKind_17 : decode cX7_takeKind 17 = .ok (.ifCond .eq 5, 3) := by decide +kernel
theorem dX7_takeKind_20 : decode cX7_takeKind 20 = .ok (.iconst 1, 1) := by decide +kernel
theorem dX7_takeKind_21 : decode cX7_takeKind 21 = .ok (.ireturn, 1) := by decide +kernel
theorem dX7_takeKind_22 : decode cX7_takeKind 22 = .ok (.aload_n 0, 1) := by decide +kernel
theorem dX7_takeKind_23 : decode cX7_takeKind 23 = .ok (.bipush 102, 2) := by decide +kernel
theorem dX7_takeKind_25 : decode cX7_takeKind 25 = .ok (.invokevirtual 40, 3) := by decide +kernel
theorem dX7_takeKind_28 : decode cX7_takeKind 28 = .ok (.ifCond .eq 7, 3) := by decide +kernel
theorem dX7_takeKind_31 : decode cX7_takeKind 31 = .ok (.iconst 2, 1) := by decide +kernel
theorem dX7_takeKind_32 : decode cX7_takeKind 32 = .ok (.goto 5, 3) := by decide +kernel
theorem dX7_takeKind_35 : decode cX7_takeKind 35 = .ok (.bipush (-9), 2) := by decide +kernel
theorem dX7_takeKind_37 : decode cX7_takeKind 37 = .ok (.ireturn, 1) := by decide +kernel
theorem dX8_init_0 : decode cX8_init 0 = .ok (.aload_n 0, 1) := by decide +kernel
theorem dX8_init_1 : decode cX8_init 1 = .ok (.invokespecial 3, 3) := by decide +kernel
theorem dX8_init_4 : decode cX8_init 4 = .ok (.aload_n 0, 1) := by decide +kernel
theorem dX8_init_5 : decode cX8_init 5 = .ok (.bipush 96, 2) := by decide +kernel
theorem dX8_init_7 : decode cX8_init 7 = .ok (.newarray .int, 2) := by decide +kernel
theorem dX8_init_9 : decode cX8_init 9 = .ok (.putfield 11, 3) := by decide +kernel
theorem dX8_init_12 : decode cX8_init 12 = .ok (.aload_n 0, 1) := by decide +kernel
theorem dX8_init_13 : decode cX8_init 13 = .ok (.bipush 96, 2) := by decide +kernel
theorem dX8_init_15 : decode cX8_init 15 = .ok (.newarray .int, 2) := by decide +kernel
theorem dX8_init_17 : decode cX8_init 17 = .ok (.putfield 15, 3) := by decide +kernel
theorem dX8_init_20 : decode cX8_init 20 = .ok (.aload_n 0, 1) := by decide +kernel
theorem dX8_init_21 : decode cX8_init 21 = .ok (.bipush 96, 2) := by decide +kernel
theorem dX8_init_23 : decode cX8_init 23 = .ok (.newarray .int, 2) := by decide +kernel
theorem dX8_init_25 : decode cX8_init 25 = .ok (.putfield 18, 3) := by decide +kernel
theorem dX8_init_28 : decode cX8_init 28 = .ok (.aload_n 0, 1) := by decide +kernel
theorem dX8_init_29 : decode cX8_init 29 = .ok (.bipush 96, 2) := by decide +kernel
theorem dX8_init_31 : decode cX8_init 31 = .ok (.newarray .int, 2) := by decide +kernel
theorem dX8_init_33 : decode cX8_init 33 = .ok (.putfield 21, 3) := by decide +kernel
theorem dX8_init_36 : decode cX8_init 36 = .ok (.aload_n 0, 1) := by decide +kernel
theorem dX8_init_37 : decode cX8_init 37 = .ok (.bipush 96, 2) := by decide +kernel
theorem dX8_init_39 : decode cX8_init 39 = .ok (.newarray .int, 2) := by decide +kernel
theorem dX8_init_41 : decode cX8_init 41 = .ok (.putfield 24, 3) := by decide +kernel
theorem dX8_init_44 : decode cX8_init 44 = .ok (.return_, 1) := by decide +kernel
theorem dX8_at_0 : decode cX8_at 0 = .ok (.iload_n 0, 1) := by decide +kernel
theorem dX8_at_1 : decode cX8_at 1 = .ok (.iconst 4, 1) := by decide +kernel
theorem dX8_at_2 : decode cX8_at 2 = .ok (.imul, 1) := by decide +kernel
theorem dX8_at_3 : decode cX8_at 3 = .ok (.iload_n 1, 1) := by decide +kernel
theorem dX8_at_4 : decode cX8_at 4 = .ok (.iadd, 1) := by decide +kernel
theorem dX8_at_5 : decode cX8_at 5 = .ok (.ireturn, 1) := by decide +kernel
set_option maxRecDepth 20000 in
theorem ggX8_lightOf_X8_at : GoodIn wsX8_lightOf wsX8_at := goodIn_r _ [5] rfl (by decide +kernel)
set_option maxRecDepth 20000 in
theorem gX8_lightOf_X8_at : GoodIn wsX8_lightOf (va_wsS RX8 27 yX8_at wsX8_at) := goodIn_app (goodIn_of _ (by decide +kernel)) ggX8_lightOf_X8_at
theorem dX8_lightOf_0 : decode cX8_lightOf 0 = .ok (.aload_n 0, 1) := by decide +kernel
theorem dX8_lightOf_1 : decode cX8_lightOf 1 = .ok (.getfield 24, 3) := by decide +kernel
theorem dX8_lightOf_4 : decode cX8_lightOf 4 = .ok (.iload_n 2, 1) := by decide +kernel
theorem dX8_lightOf_5 : decode cX8_lightOf 5 = .ok (.iload_n 1, 1) := by decide +kernel
theorem dX8_lightOf_6 : decode cX8_lightOf 6 = .ok (.invokestatic 27, 3) := by decide +kernel
theorem dX8_lightOf_9 : decode cX8_lightOf 9 = .ok (.iaload, 1) := by decide +kernel
theorem dX8_lightOf_10 : decode cX8_lightOf 10 = .ok (.ireturn, 1) := by decide +kernel
set_option maxRecDepth 20000 in
theorem ggX8_allLight_X8_at : GoodIn wsX8_allLight wsX8_at := goodIn_r _ [5] rfl (by decide +kernel)
set_option maxRecDepth 20000 in
theorem gX8_allLight_X8_at : GoodIn wsX8_allLight (va_wsS RX8 27 yX8_at wsX8_at) := goodIn_app (goodIn_of _ (by decide +kernel)) ggX8_allLight_X8_at
theorem dX8_allLight_0 : decode cX8_allLight 0 = .ok (.iconst 0, 1) := by decide +kernel
theorem dX8_allLight_1 : decode cX8_allLight 1 = .ok (.istore_n 2, 1) := by decide +kernel
theorem dX8_allLight_2 : decode cX8_allLight 2 = .ok (.iconst 0, 1) := by decide +kernel
theorem dX8_allLight_3 : decode cX8_allLight 3 = .ok (.istore_n 3, 1) := by decide +kernel
theorem dX8_allLight_4 : decode cX8_allLight 4 = .ok (.iload_n 3, 1) := by decide +kernel
theorem dX8_allLight_5 : decode cX8_allLight 5 = .ok (.bipush 24, 2) := by decide +kernel
theorem dX8_allLight_7 : decode cX8_allLight 7 = .ok (.if_icmp .ge 38, 3) := by decide +kernel
theorem dX8_allLight_10 : decode cX8_allLight 10 = .ok (.iconst 0, 1) := by decide +kernel
theorem dX8_allLight_11 : decode cX8_allLight 11 = .ok (.istore 4, 2) := by decide +kernel
theorem dX8_allLight_13 : decode cX8_allLight 13 = .ok (.iload 4, 2) := by decide +kernel
theorem dX8_allLight_15 : decode cX8_allLight 15 = .ok (.iload_n 1, 1) := by decide +kernel
theorem dX8_allLight_16 : decode cX8_allLight 16 = .ok (.if_icmp .ge 23, 3) := by decide +kernel
theorem dX8_allLight_19 : decode cX8_allLight 19 = .ok (.iload_n 2, 1) := by decide +kernel
theorem dX8_allLight_20 : decode cX8_allLight 20 = .ok (.aload_n 0, 1) := by decide +kernel
theorem dX8_allLight_21 : decode cX8_allLight 21 = .ok (.getfield 24, 3) := by decide +kernel
theorem dX8_allLight_24 : decode cX8_allLight 24 = .ok (.iload_n 3, 1) := by decide +kernel
theorem dX8_allLight_25 : decode cX8_allLight 25 = .ok (.iload 4, 2) := by decide +kernel
theorem dX8_allLight_27 : decode cX8_allLight 27 = .ok (.invokestatic 27, 3) := by decide +kernel
theorem dX8_allLight_30 : decode cX8_allLight 30 = .ok (.iaload, 1) := by decide +kernel
theorem dX8_allLight_31 : decode cX8_allLight 31 = .ok (.iadd, 1) := by decide +kernel
theorem dX8_allLight_32 : decode cX8_allLight 32 = .ok (.istore_n 2, 1) := by decide +kernel
theorem dX8_allLight_33 : decode cX8_allLight 33 = .ok (.iinc 4 1, 3) := by decide +kernel
theorem dX8_allLight_36 : decode cX8_allLight 36 = .ok (.goto (-23), 3) := by decide +kernel
theorem dX8_allLight_39 : decode cX8_allLight 39 = .ok (.iinc 3 1, 3) := by decide +kernel
theorem dX8_allLight_42 : decode cX8_allLight 42 = .ok (.goto (-38), 3) := by decide +kernel
theorem dX8_allLight_45 : decode cX8_allLight 45 = .ok (.iload_n 2, 1) := by decide +kernel
theorem dX8_allLight_46 : decode cX8_allLight 46 = .ok (.ireturn, 1) := by decide +kernel
set_option maxRecDepth 20000 in
theorem ggX8_countBelow_X8_at : GoodIn wsX8_countBelow wsX8_at := goodIn_r _ [5] rfl (by decide +kernel)
set_option maxRecDepth 20000 in
theorem gX8_countBelow_X8_at : GoodIn wsX8_countBelow (va_wsS RX8 27 yX8_at wsX8_at) := goodIn_app (goodIn_of _ (by decide +kernel)) ggX8_countBelow_X8_at
theorem dX8_countBelow_0 : decode cX8_countBelow 0 = .ok (.iconst 0, 1) := by decide +kernel
theorem dX8_countBelow_1 : decode cX8_countBelow 1 = .ok (.istore_n 3, 1) := by decide +kernel
theorem dX8_countBelow_2 : decode cX8_countBelow 2 = .ok (.iconst 0, 1) := by decide +kernel
theorem dX8_countBelow_3 : decode cX8_countBelow 3 = .ok (.istore 4, 2) := by decide +kernel
theorem dX8_countBelow_5 : decode cX8_countBelow 5 = .ok (.iload 4, 2) := by decide +kernel
theorem dX8_countBelow_7 : decode cX8_countBelow 7 = .ok (.bipush 24, 2) := by decide +kernel
theorem dX8_countBelow_9 : decode cX8_countBelow 9 = .ok (.if_icmp .ge 27, 3) := by decide +kernel
theorem dX8_countBelow_12 : decode cX8_countBelow 12 = .ok (.aload_n 0, 1) := by decide +kernel
theorem dX8_countBelow_13 : decode cX8_countBelow 13 = .ok (.getfield 24, 3) := by decide +kernel
theorem dX8_countBelow_16 : decode cX8_countBelow 16 = .ok (.iload 4, 2) := by decide +kernel
theorem dX8_countBelow_18 : decode cX8_countBelow 18 = .ok (.iload_n 1, 1) := by decide +kernel
theorem dX8_countBelow_19 : decode cX8_countBelow 19 = .ok (.invokestatic 27, 3) := by decide +kernel
theorem dX8_countBelow_22 : decode cX8_countBelow 22 = .ok (.iaload, 1) := by decide +kernel
theorem dX8_countBelow_23 : decode cX8_countBelow 23 = .ok (.iload_n 2, 1) := by decide +kernel
theorem dX8_countBelow_24 : decode cX8_countBelow 24 = .ok (.if_icmp .ge 6, 3) := by decide +kernel
theorem dX8_countBelow_27 : decode cX8_countBelow 27 = .ok (.iinc 3 1, 3) := by decide +kernel
theorem dX8_countBelow_30 : decode cX8_countBelow 30 = .ok (.iinc 4 1, 3) := by decide +kernel
theorem dX8_countBelow_33 : decode cX8_countBelow 33 = .ok (.goto (-28), 3) := by decide +kernel
theorem dX8_countBelow_36 : decode cX8_countBelow 36 = .ok (.iload_n 3, 1) := by decide +kernel
theorem dX8_countBelow_37 : decode cX8_countBelow 37 = .ok (.ireturn, 1) := by decide +kernel
set_option maxRecDepth 20000 in
theorem ggX8_reckon_X8_placeLamps : GoodIn wsX8_reckon wsX8_placeLamps := goodIn_r _ [7, 8, 9, 10, 11, 12, 13, 14, 15, 16, 6, 17, 49, 50, 51, 52, 53, 54, 55, 56, 57, 58, 59, 60, 61, 62, 63, 64, 65] rfl (by decide +kernel)
set_option maxRecDepth 20000 in
theorem gX8_reckon_X8_placeLamps : GoodIn wsX8_reckon (wsV RX8 31 RX8 yX8_placeLamps wsX8_placeLamps) := goodIn_app (goodIn_of _ (by decide +kernel)) ggX8_reckon_X8_placeLamps
set_option maxRecDepth 20000 in
theorem ggX8_reckon_X8_at : GoodIn wsX8_reckon wsX8_at := goodIn_r _ [17] rfl (by decide +kernel)
set_option maxRecDepth 20000 in
theorem gX8_reckon_X8_at : GoodIn wsX8_reckon (va_wsS RX8 27 yX8_at wsX8_at) := goodIn_app (goodIn_of _ (by decide +kernel)) ggX8_reckon_X8_at
set_option maxRecDepth 20000 in
theorem ggX8_reckon_X2_daylight : GoodIn wsX8_reckon wsX2_daylight := goodIn_r _ [22, 23, 24, 25, 26, 27, 28, 29, 49, 50, 51, 52, 53, 54, 55, 56] rfl (by decide +kernel)
set_option maxRecDepth 20000 in
theorem gX8_reckon_X2_daylight : GoodIn wsX8_reckon (wsV RX8 41 RX2 yX2_daylight wsX2_daylight) := goodIn_app (goodIn_of _ (by decide +kernel)) ggX8_reckon_X2_daylight
set_option maxRecDepth 20000 in
theorem ggX8_reckon_X8_reckonLight : GoodIn wsX8_reckon wsX8_reckonLight := goodIn_r _ [33, 34, 2, 35, 36, 37, 38, 39, 8, 40, 41, 42, 9, 43, 44, 28, 45, 15, 16, 6, 17, 46, 47, 48, 49, 50, 51, 52, 53, 54, 55, 56, 57, 58, 59, 60, 61] rfl (by decide +kernel)
set_option maxRecDepth 20000 in
theorem gX8_reckon_X8_reckonLight : GoodIn wsX8_reckon (wsV RX8 44 RX8 yX8_reckonLight wsX8_reckonLight) := goodIn_app (goodIn_of _ (by decide +kernel)) ggX8_reckon_X8_reckonLight
theorem dX8_reckon_0 : decode cX8_reckon 0 = .ok (.iconst 0, 1) := by decide +kernel
theorem dX8_reckon_1 : decode cX8_reckon 1 = .ok (.istore_n 3, 1) := by decide +kernel
theorem dX8_reckon_2 : decode cX8_reckon 2 = .ok (.iload_n 3, 1) := by decide +kernel
theorem dX8_reckon_3 : decode cX8_reckon 3 = .ok (.bipush 24, 2) := by decide +kernel
theorem dX8_reckon_5 : decode cX8_reckon 5 = .ok (.if_icmp .ge 52, 3) := by decide +kernel
theorem dX8_reckon_8 : decode cX8_reckon 8 = .ok (.aload_n 0, 1) := by decide +kernel
theorem dX8_reckon_9 : decode cX8_reckon 9 = .ok (.aload_n 1, 1) := by decide +kernel
theorem dX8_reckon_10 : decode cX8_reckon 10 = .ok (.aload_n 2, 1) := by decide +kernel
theorem dX8_reckon_11 : decode cX8_reckon 11 = .ok (.iload_n 3, 1) := by decide +kernel
theorem dX8_reckon_12 : decode cX8_reckon 12 = .ok (.invokevirtual 31, 3) := by decide +kernel
theorem dX8_reckon_15 : decode cX8_reckon 15 = .ok (.iconst 0, 1) := by decide +kernel
theorem dX8_reckon_16 : decode cX8_reckon 16 = .ok (.istore 4, 2) := by decide +kernel
theorem dX8_reckon_18 : decode cX8_reckon 18 = .ok (.iload 4, 2) := by decide +kernel
theorem dX8_reckon_20 : decode cX8_reckon 20 = .ok (.aload_n 1, 1) := by decide +kernel
theorem dX8_reckon_21 : decode cX8_reckon 21 = .ok (.getfield 35, 3) := by decide +kernel
theorem dX8_reckon_24 : decode cX8_reckon 24 = .ok (.if_icmp .ge 27, 3) := by decide +kernel
theorem dX8_reckon_27 : decode cX8_reckon 27 = .ok (.aload_n 0, 1) := by decide +kernel
theorem dX8_reckon_28 : decode cX8_reckon 28 = .ok (.getfield 21, 3) := by decide +kernel
theorem dX8_reckon_31 : decode cX8_reckon 31 = .ok (.iload_n 3, 1) := by decide +kernel
theorem dX8_reckon_32 : decode cX8_reckon 32 = .ok (.iload 4, 2) := by decide +kernel
theorem dX8_reckon_34 : decode cX8_reckon 34 = .ok (.invokestatic 27, 3) := by decide +kernel
theorem dX8_reckon_37 : decode cX8_reckon 37 = .ok (.aload_n 1, 1) := by decide +kernel
theorem dX8_reckon_38 : decode cX8_reckon 38 = .ok (.iload 4, 2) := by decide +kernel
theorem dX8_reckon_40 : decode cX8_reckon 40 = .ok (.iload_n 3, 1) := by decide +kernel
theorem dX8_reckon_41 : decode cX8_reckon 41 = .ok (.invokevirtual 41, 3) := by decide +kernel
theorem dX8_reckon_44 : decode cX8_reckon 44 = .ok (.iastore, 1) := by decide +kernel
theorem dX8_reckon_45 : decode cX8_reckon 45 = .ok (.iinc 4 1, 3) := by decide +kernel
theorem dX8_reckon_48 : decode cX8_reckon 48 = .ok (.goto (-30), 3) := by decide +kernel
theorem dX8_reckon_51 : decode cX8_reckon 51 = .ok (.iinc 3 1, 3) := by decide +kernel
theorem dX8_reckon_54 : decode cX8_reckon 54 = .ok (.goto (-52), 3) := by decide +kernel
theorem dX8_reckon_57 : decode cX8_reckon 57 = .ok (.aload_n 0, 1) := by decide +kernel
theorem dX8_reckon_58 : decode cX8_reckon 58 = .ok (.aload_n 1, 1) := by decide +kernel
theorem dX8_reckon_59 : decode cX8_reckon 59 = .ok (.iconst 0, 1) := by decide +kernel
theorem dX8_reckon_60 : decode cX8_reckon 60 = .ok (.bipush 23, 2) := by decide +kernel
theorem dX8_reckon_62 : decode cX8_reckon 62 = .ok (.invokevirtual 44, 3) := by decide +kernel
theorem dX8_reckon_65 : decode cX8_reckon 65 = .ok (.return_, 1) := by decide +kernel
theorem dX8_become_0 : decode cX8_become 0 = .ok (.aload_n 1, 1) := by decide +kernel
theorem dX8_become_1 : decode cX8_become 1 = .ok (.getfield 11, 3) := by decide +kernel
theorem dX8_become_4 : decode cX8_become 4 = .ok (.iconst 0, 1) := by decide +kernel
theorem dX8_become_5 : decode cX8_become 5 = .ok (.aload_n 0, 1) := by decide +kernel
theorem dX8_become_6 : decode cX8_become 6 = .ok (.getfield 11, 3) := by decide +kernel
theorem dX8_become_9 : decode cX8_become 9 = .ok (.iconst 0, 1) := by decide +kernel
theorem dX8_become_10 : decode cX8_become 10 = .ok (.bipush 96, 2) := by decide +kernel
theorem dX8_become_12 : decode cX8_become 12 = .ok (.invokestatic 48, 3) := by decide +kernel
theorem dX8_become_15 : decode cX8_become 15 = .ok (.aload_n 1, 1) := by decide +kernel
theorem dX8_become_16 : decode cX8_become 16 = .ok (.getfield 15, 3) := by decide +kernel
theorem dX8_become_19 : decode cX8_become 19 = .ok (.iconst 0, 1) := by decide +kernel
theorem dX8_become_20 : decode cX8_become 20 = .ok (.aload_n 0, 1) := by decide +kernel
theorem dX8_become_21 : decode cX8_become 21 = .ok (.getfield 15, 3) := by decide +kernel
theorem dX8_become_24 : decode cX8_become 24 = .ok (.iconst 0, 1) := by decide +kernel
theorem dX8_become_25 : decode cX8_become 25 = .ok (.bipush 96, 2) := by decide +kernel
theorem dX8_become_27 : decode cX8_become 27 = .ok (.invokestatic 48, 3) := by decide +kernel
theorem dX8_become_30 : decode cX8_become 30 = .ok (.aload_n 1, 1) := by decide +kernel
theorem dX8_become_31 : decode cX8_become 31 = .ok (.getfield 18, 3) := by decide +kernel
theorem dX8_become_34 : decode cX8_become 34 = .ok (.iconst 0, 1) := by decide +kernel
theorem dX8_become_35 : decode cX8_become 35 = .ok (.aload_n 0, 1) := by decide +kernel
theorem dX8_become_36 : decode cX8_become 36 = .ok (.getfield 18, 3) := by decide +kernel
theorem dX8_become_39 : decode cX8_become 39 = .ok (.iconst 0, 1) := by decide +kernel
theorem dX8_become_40 : decode cX8_become 40 = .ok (.bipush 96, 2) := by decide +kernel
theorem dX8_become_42 : decode cX8_become 42 = .ok (.invokestatic 48, 3) := by decide +kernel
theorem dX8_become_45 : decode cX8_become 45 = .ok (.aload_n 1, 1) := by decide +kernel
theorem dX8_become_46 : decode cX8_become 46 = .ok (.getfield 21, 3) := by decide +kernel
theorem dX8_become_49 : decode cX8_become 49 = .ok (.iconst 0, 1) := by decide +kernel
theorem dX8_become_50 : decode cX8_become 50 = .ok (.aload_n 0, 1) := by decide +kernel
theorem dX8_become_51 : decode cX8_become 51 = .ok (.getfield 21, 3) := by decide +kernel
theorem dX8_become_54 : decode cX8_become 54 = .ok (.iconst 0, 1) := by decide +kernel
theorem dX8_become_55 : decode cX8_become 55 = .ok (.bipush 96, 2) := by decide +kernel
theorem dX8_become_57 : decode cX8_become 57 = .ok (.invokestatic 48, 3) := by decide +kernel
theorem dX8_become_60 : decode cX8_become 60 = .ok (.aload_n 1, 1) := by decide +kernel
theorem dX8_become_61 : decode cX8_become 61 = .ok (.getfield 24, 3) := by decide +kernel
theorem dX8_become_64 : decode cX8_become 64 = .ok (.iconst 0, 1) := by decide +kernel
theorem dX8_become_65 : decode cX8_become 65 = .ok (.aload_n 0, 1) := by decide +kernel
theorem dX8_become_66 : decode cX8_become 66 = .ok (.getfield 24, 3) := by decide +kernel
theorem dX8_become_69 : decode cX8_become 69 = .ok (.iconst 0, 1) := by decide +kernel
theorem dX8_become_70 : decode cX8_become 70 = .ok (.bipush 96, 2) := by decide +kernel
theorem dX8_become_72 : decode cX8_become 72 = .ok (.invokestatic 48, 3) := by decide +kernel
theorem dX8_become_75 : decode cX8_become 75 = .ok (.return_, 1) := by decide +kernel
set_option maxRecDepth 20000 in
theorem ggX8_placeAt_X8_at : GoodIn wsX8_placeAt wsX8_at := goodIn_r _ [5] rfl (by decide +kernel)
set_option maxRecDepth 20000 in
theorem gX8_placeAt_X8_at : GoodIn wsX8_placeAt (va_wsS RX8 27 yX8_at wsX8_at) := goodIn_app (goodIn_of _ (by decide +kernel)) ggX8_placeAt_X8_at
theorem dX8_placeAt_0 : decode cX8_placeAt 0 = .ok (.iload_n 3, 1) := by decide +kernel
theorem dX8_placeAt_1 : decode cX8_placeAt 1 = .ok (.istore 5, 2) := by decide +kernel
theorem dX8_placeAt_3 : decode cX8_placeAt 3 = .ok (.iload 5, 2) := by decide +kernel
theorem dX8_placeAt_5 : decode cX8_placeAt 5 = .ok (.iload 4, 2) := by decide +kernel
theorem dX8_placeAt_7 : decode cX8_placeAt 7 = .ok (.if_icmp .ge 21, 3) := by decide +kernel
theorem dX8_placeAt_10 : decode cX8_placeAt 10 = .ok (.aload_n 0, 1) := by decide +kernel
theorem dX8_placeAt_11 : decode cX8_placeAt 11 = .ok (.getfield 11, 3) := by decide +kernel
theorem dX8_placeAt_14 : decode cX8_placeAt 14 = .ok (.iload 5, 2) := by decide +kernel
theorem dX8_placeAt_16 : decode cX8_placeAt 16 = .ok (.iload_n 1, 1) := by decide +kernel
theorem dX8_placeAt_17 : decode cX8_placeAt 17 = .ok (.invokestatic 27, 3) := by decide +kernel
theorem dX8_placeAt_20 : decode cX8_placeAt 20 = .ok (.iload_n 2, 1) := by decide +kernel
theorem dX8_placeAt_21 : decode cX8_placeAt 21 = .ok (.iastore, 1) := by decide +kernel
theorem dX8_placeAt_22 : decode cX8_placeAt 22 = .ok (.iinc 5 1, 3) := by decide +kernel
theorem dX8_placeAt_25 : decode cX8_placeAt 25 = .ok (.goto (-22), 3) := by decide +kernel
theorem dX8_placeAt_28 : decode cX8_placeAt 28 = .ok (.return_, 1) := by decide +kernel
set_option maxRecDepth 20000 in
theorem ggX8_reckonLight_X8_at : GoodIn wsX8_reckonLight wsX8_at := goodIn_r _ [20] rfl (by decide +kernel)
set_option maxRecDepth 20000 in
theorem gX8_reckonLight_X8_at : GoodIn wsX8_reckonLight (va_wsS RX8 27 yX8_at wsX8_at) := goodIn_app (goodIn_of _ (by decide +kernel)) ggX8_reckonLight_X8_at
set_option maxRecDepth 20000 in
theorem ggX8_reckonLight_X8_glow : GoodIn wsX8_reckonLight wsX8_glow := goodIn_r _ [23, 13, 14, 15, 16] rfl (by decide +kernel)
set_option maxRecDepth 20000 in
theorem gX8_reckonLight_X8_glow : GoodIn wsX8_reckonLight (va_wsS RX8 63 yX8_glow wsX8_glow) := goodIn_app (goodIn_of _ (by decide +kernel)) ggX8_reckonLight_X8_glow
theorem dX8_reckonLight_0 : decode cX8_reckonLight 0 = .ok (.iload_n 2, 1) := by decide +kernel
theorem dX8_reckonLight_1 : decode cX8_reckonLight 1 = .ok (.istore 4, 2) := by decide +kernel
theorem dX8_reckonLight_3 : decode cX8_reckonLight 3 = .ok (.iload 4, 2) := by decide +kernel
theorem dX8_reckonLight_5 : decode cX8_reckonLight 5 = .ok (.iload_n 3, 1) := by decide +kernel
theorem dX8_reckonLight_6 : decode cX8_reckonLight 6 = .ok (.if_icmp .gt 191, 3) := by decide +kernel
theorem dX8_reckonLight_9 : decode cX8_reckonLight 9 = .ok (.iload 4, 2) := by decide +kernel
theorem dX8_reckonLight_11 : decode cX8_reckonLight 11 = .ok (.iconst 0, 1) := by decide +kernel
theorem dX8_reckonLight_12 : decode cX8_reckonLight 12 = .ok (.invokestatic 27, 3) := by decide +kernel
theorem dX8_reckonLight_15 : decode cX8_reckonLight 15 = .ok (.istore 5, 2) := by decide +kernel
theorem dX8_reckonLight_17 : decode cX8_reckonLight 17 = .ok (.iload 4, 2) := by decide +kernel
theorem dX8_reckonLight_19 : decode cX8_reckonLight 19 = .ok (.aload_n 1, 1) := by decide +kernel
theorem dX8_reckonLight_20 : decode cX8_reckonLight 20 = .ok (.getfield 54, 3) := by decide +kernel
theorem dX8_reckonLight_23 : decode cX8_reckonLight 23 = .ok (.isub, 1) := by decide +kernel
theorem dX8_reckonLight_24 : decode cX8_reckonLight 24 = .ok (.istore 6, 2) := by decide +kernel
theorem dX8_reckonLight_26 : decode cX8_reckonLight 26 = .ok (.aload_n 0, 1) := by decide +kernel
theorem dX8_reckonLight_27 : decode cX8_reckonLight 27 = .ok (.getfield 21, 3) := by decide +kernel
theorem dX8_reckonLight_30 : decode cX8_reckonLight 30 = .ok (.iload 5, 2) := by decide +kernel
theorem dX8_reckonLight_32 : decode cX8_reckonLight 32 = .ok (.aload_n 0, 1) := by decide +kernel
theorem dX8_reckonLight_33 : decode cX8_reckonLight 33 = .ok (.getfield 24, 3) := by decide +kernel
theorem dX8_reckonLight_36 : decode cX8_reckonLight 36 = .ok (.iload 5, 2) := by decide +kernel
theorem dX8_reckonLight_38 : decode cX8_reckonLight 38 = .ok (.iconst 4, 1) := by decide +kernel
theorem dX8_reckonLight_39 : decode cX8_reckonLight 39 = .ok (.invokestatic 48, 3) := by decide +kernel
theorem dX8_reckonLight_42 : decode cX8_reckonLight 42 = .ok (.iconst 0, 1) := by decide +kernel
theorem dX8_reckonLight_43 : decode cX8_reckonLight 43 = .ok (.istore 7, 2) := by decide +kernel
theorem dX8_reckonLight_45 : decode cX8_reckonLight 45 = .ok (.iload 7, 2) := by decide +kernel
theorem dX8_reckonLight_47 : decode cX8_reckonLight 47 = .ok (.aload_n 1, 1) := by decide +kernel
theorem dX8_reckonLight_48 : decode cX8_reckonLight 48 = .ok (.getfield 57, 3) := by decide +kernel
theorem dX8_reckonLight_51 : decode cX8_reckonLight 51 = .ok (.if_icmp .ge 77, 3) := by decide +kernel
theorem dX8_reckonLight_54 : decode cX8_reckonLight 54 = .ok (.iload 6, 2) := by decide +kernel
theorem dX8_reckonLight_56 : decode cX8_reckonLight 56 = .ok (.ifCond .ge 7, 3) := by decide +kernel
theorem dX8_reckonLight_59 : decode cX8_reckonLight 59 = .ok (.iconst 0, 1) := by decide +kernel
theorem dX8_reckonLight_60 : decode cX8_reckonLight 60 = .ok (.goto 25, 3) := by decide +kernel
theorem dX8_reckonLight_63 : decode cX8_reckonLight 63 = .ok (.aload_n 1, 1) := by decide +kernel
theorem dX8_reckonLight_64 : decode cX8_reckonLight 64 = .ok (.getfield 60, 3) := by decide +kernel
theorem dX8_reckonLight_67 : decode cX8_reckonLight 67 = .ok (.iload 7, 2) := by decide +kernel
theorem dX8_reckonLight_69 : decode cX8_reckonLight 69 = .ok (.iaload, 1) := by decide +kernel
theorem dX8_reckonLight_70 : decode cX8_reckonLight 70 = .ok (.aload_n 0, 1) := by decide +kernel
theorem dX8_reckonLight_71 : decode cX8_reckonLight 71 = .ok (.getfield 18, 3) := by decide +kernel
theorem dX8_reckonLight_74 : decode cX8_reckonLight 74 = .ok (.iload 6, 2) := by decide +kernel
theorem dX8_reckonLight_76 : decode cX8_reckonLight 76 = .ok (.iload 7, 2) := by decide +kernel
theorem dX8_reckonLight_78 : decode cX8_reckonLight 78 = .ok (.invokestatic 27, 3) := by decide +kernel
theorem dX8_reckonLight_81 : decode cX8_reckonLight 81 = .ok (.iaload, 1) := by decide +kernel
theorem dX8_reckonLight_82 : decode cX8_reckonLight 82 = .ok (.invokestatic 63, 3) := by decide +kernel
theorem dX8_reckonLight_85 : decode cX8_reckonLight 85 = .ok (.istore 8, 2) := by decide +kernel
theorem dX8_reckonLight_87 : decode cX8_reckonLight 87 = .ok (.aload_n 0, 1) := by decide +kernel
theorem dX8_reckonLight_88 : decode cX8_reckonLight 88 = .ok (.getfield 15, 3) := by decide +kernel
theorem dX8_reckonLight_91 : decode cX8_reckonLight 91 = .ok (.iload 5, 2) := by decide +kernel
theorem dX8_reckonLight_93 : decode cX8_reckonLight 93 = .ok (.iload 7, 2) := by decide +kernel
theorem dX8_reckonLight_95 : decode cX8_reckonLight 95 = .ok (.iadd, 1) := by decide +kernel
theorem dX8_reckonLight_96 : decode cX8_reckonLight 96 = .ok (.iload 8, 2) := by decide +kernel
theorem dX8_reckonLight_98 : decode cX8_reckonLight 98 = .ok (.iastore, 1) := by decide +kernel
theorem dX8_reckonLight_99 : decode cX8_reckonLight 99 = .ok (.aload_n 0, 1) := by decide +kernel
theorem dX8_reckonLight_100 : decode cX8_reckonLight 100 = .ok (.getfield 24, 3) := by decide +kernel
theorem dX8_reckonLight_103 : decode cX8_reckonLight 103 = .ok (.iload 5, 2) := by decide +kernel
theorem dX8_reckonLight_105 : decode cX8_reckonLight 105 = .ok (.aload_n 0, 1) := by decide +kernel
theorem dX8_reckonLight_106 : decode cX8_reckonLight 106 = .ok (.getfield 11, 3) := by decide +kernel
theorem dX8_reckonLight_109 : decode cX8_reckonLight 109 = .ok (.iload 5, 2) := by decide +kernel
theorem dX8_reckonLight_111 : decode cX8_reckonLight 111 = .ok (.iload 7, 2) := by decide +kernel
theorem dX8_reckonLight_113 : decode cX8_reckonLight 113 = .ok (.iadd, 1) := by decide +kernel
theorem dX8_reckonLight_114 : decode cX8_reckonLight 114 = .ok (.iaload, 1) := by decide +kernel
theorem dX8_reckonLight_115 : decode cX8_reckonLight 115 = .ok (.iadd, 1) := by decide +kernel
theorem dX8_reckonLight_116 : decode cX8_reckonLight 116 = .ok (.dup2, 1) := by decide +kernel
theorem dX8_reckonLight_117 : decode cX8_reckonLight 117 = .ok (.iaload, 1) := by decide +kernel
theorem dX8_reckonLight_118 : decode cX8_reckonLight 118 = .ok (.iload 8, 2) := by decide +kernel
theorem dX8_reckonLight_120 : decode cX8_reckonLight 120 = .ok (.iadd, 1) := by decide +kernel
theorem dX8_reckonLight_121 : decode cX8_reckonLight 121 = .ok (.iastore, 1) := by decide +kernel
theorem dX8_reckonLight_122 : decode cX8_reckonLight 122 = .ok (.iinc 7 1, 3) := by decide +kernel
theorem dX8_reckonLight_125 : decode cX8_reckonLight 125 = .ok (.goto (-80), 3) := by decide +kernel
theorem dX8_reckonLight_128 : decode cX8_reckonLight 128 = .ok (.iconst 0, 1) := by decide +kernel
theorem dX8_reckonLight_129 : decode cX8_reckonLight 129 = .ok (.istore 7, 2) := by decide +kernel
theorem dX8_reckonLight_131 : decode cX8_reckonLight 131 = .ok (.iload 7, 2) := by decide +kernel
theorem dX8_reckonLight_133 : decode cX8_reckonLight 133 = .ok (.aload_n 1, 1) := by decide +kernel
theorem dX8_reckonLight_134 : decode cX8_reckonLight 134 = .ok (.getfield 57, 3) := by decide +kernel
theorem dX8_reckonLight_137 : decode cX8_reckonLight 137 = .ok (.if_icmp .ge 54, 3) := by decide +kernel
theorem dX8_reckonLight_140 : decode cX8_reckonLight 140 = .ok (.aload_n 0, 1) := by decide +kernel
theorem dX8_reckonLight_141 : decode cX8_reckonLight 141 = .ok (.getfield 18, 3) := by decide +kernel
theorem dX8_reckonLight_144 : decode cX8_reckonLight 144 = .ok (.iload 5, 2) := by decide +kernel
theorem dX8_reckonLight_146 : decode cX8_reckonLight 146 = .ok (.iload 7, 2) := by decide +kernel
theorem dX8_reckonLight_148 : decode cX8_reckonLight 148 = .ok (.iadd, 1) := by decide +kernel
theorem dX8_reckonLight_149 : decode cX8_reckonLight 149 = .ok (.sipush 999, 3) := by decide +kernel
theorem dX8_reckonLight_152 : decode cX8_reckonLight 152 = .ok (.aload_n 0, 1) := by decide +kernel
theorem dX8_reckonLight_153 : decode cX8_reckonLight 153 = .ok (.getfield 24, 3) := by decide +kernel
theorem dX8_reckonLight_156 : decode cX8_reckonLight 156 = .ok (.iload 5, 2) := by decide +kernel
theorem dX8_reckonLight_158 : decode cX8_reckonLight 158 = .ok (.aload_n 0, 1) := by decide +kernel
theorem dX8_reckonLight_159 : decode cX8_reckonLight 159 = .ok (.getfield 11, 3) := by decide +kernel
theorem dX8_reckonLight_162 : decode cX8_reckonLight 162 = .ok (.iload 5, 2) := by decide +kernel
theorem dX8_reckonLight_164 : decode cX8_reckonLight 164 = .ok (.iload 7, 2) := by decide +kernel
theorem dX8_reckonLight_166 : decode cX8_reckonLight 166 = .ok (.iadd, 1) := by decide +kernel
theorem dX8_reckonLight_167 : decode cX8_reckonLight 167 = .ok (.iaload, 1) := by decide +kernel
theorem dX8_reckonLight_168 : decode cX8_reckonLight 168 = .ok (.iadd, 1) := by decide +kernel
theorem dX8_reckonLight_169 : decode cX8_reckonLight 169 = .ok (.iaload, 1) := by decide +kernel
theorem dX8_reckonLight_170 : decode cX8_reckonLight 170 = .ok (.aload_n 0, 1) := by decide +kernel
theorem dX8_reckonLight_171 : decode cX8_reckonLight 171 = .ok (.getfield 15, 3) := by decide +kernel
theorem dX8_reckonLight_174 : decode cX8_reckonLight 174 = .ok (.iload 5, 2) := by decide +kernel
theorem dX8_reckonLight_176 : decode cX8_reckonLight 176 = .ok (.iload 7, 2) := by decide +kernel
theorem dX8_reckonLight_178 : decode cX8_reckonLight 178 = .ok (.iadd, 1) := by decide +kernel
theorem dX8_reckonLight_179 : decode cX8_reckonLight 179 = .ok (.iaload, 1) := by decide +kernel
theorem dX8_reckonLight_180 : decode cX8_reckonLight 180 = .ok (.isub, 1) := by decide +kernel
theorem dX8_reckonLight_181 : decode cX8_reckonLight 181 = .ok (.invokestatic 66, 3) := by decide +kernel
theorem dX8_reckonLight_184 : decode cX8_reckonLight 184 = .ok (.iastore, 1) := by decide +kernel
theorem dX8_reckonLight_185 : decode cX8_reckonLight 185 = .ok (.iinc 7 1, 3) := by decide +kernel
theorem dX8_reckonLight_188 : decode cX8_reckonLight 188 = .ok (.goto (-57), 3) := by decide +kernel
theorem dX8_reckonLight_191 : decode cX8_reckonLight 191 = .ok (.iinc 4 1, 3) := by decide +kernel
theorem dX8_reckonLight_194 : decode cX8_reckonLight 194 = .ok (.goto (-191), 3) := by decide +kernel
theorem dX8_reckonLight_197 : decode cX8_reckonLight 197 = .ok (.return_, 1) := by decide +kernel
set_option maxRecDepth 20000 in
theorem ggX8_placeLamps_X8_at : GoodIn wsX8_placeLamps wsX8_at := goodIn_r _ [11] rfl (by decide +kernel)
set_option maxRecDepth 20000 in
theorem gX8_placeLamps_X8_at : GoodIn wsX8_placeLamps (va_wsS RX8 27 yX8_at wsX8_at) := goodIn_app (goodIn_of _ (by decide +kernel)) ggX8_placeLamps_X8_at
theorem dX8_placeLamps_0 : decode cX8_placeLamps 0 = .ok (.iconst 0, 1) := by decide +kernel
theorem dX8_placeLamps_1 : decode cX8_placeLamps 1 = .ok (.istore 4, 2) := by decide +kernel
theorem dX8_placeLamps_3 : decode cX8_placeLamps 3 = .ok (.iload 4, 2) := by decide +kernel
theorem dX8_placeLamps_5 : decode cX8_placeLamps 5 = .ok (.aload_n 1, 1) := by decide +kernel
theorem dX8_placeLamps_6 : decode cX8_placeLamps 6 = .ok (.getfield 57, 3) := by decide +kernel
theorem dX8_placeLamps_9 : decode cX8_placeLamps 9 = .ok (.if_icmp .ge 47, 3) := by decide +kernel
theorem dX8_placeLamps_12 : decode cX8_placeLamps 12 = .ok (.aload_n 0, 1) := by decide +kernel
theorem dX8_placeLamps_13 : decode cX8_placeLamps 13 = .ok (.getfield 11, 3) := by decide +kernel
theorem dX8_placeLamps_16 : decode cX8_placeLamps 16 = .ok (.iload_n 3, 1) := by decide +kernel
theorem dX8_placeLamps_17 : decode cX8_placeLamps 17 = .ok (.iload 4, 2) := by decide +kernel
theorem dX8_placeLamps_19 : decode cX8_placeLamps 19 = .ok (.invokestatic 27, 3) := by decide +kernel
theorem dX8_placeLamps_22 : decode cX8_placeLamps 22 = .ok (.iload_n 3, 1) := by decide +kernel
theorem dX8_placeLamps_23 : decode cX8_placeLamps 23 = .ok (.ifCond .ne 13, 3) := by decide +kernel
theorem dX8_placeLamps_26 : decode cX8_placeLamps 26 = .ok (.aload_n 1, 1) := by decide +kernel
theorem dX8_placeLamps_27 : decode cX8_placeLamps 27 = .ok (.getfield 71, 3) := by decide +kernel
theorem dX8_placeLamps_30 : decode cX8_placeLamps 30 = .ok (.iload 4, 2) := by decide +kernel
theorem dX8_placeLamps_32 : decode cX8_placeLamps 32 = .ok (.iaload, 1) := by decide +kernel
theorem dX8_placeLamps_33 : decode cX8_placeLamps 33 = .ok (.goto 16, 3) := by decide +kernel
theorem dX8_placeLamps_36 : decode cX8_placeLamps 36 = .ok (.aload_n 0, 1) := by decide +kernel
theorem dX8_placeLamps_37 : decode cX8_placeLamps 37 = .ok (.getfield 11, 3) := by decide +kernel
theorem dX8_placeLamps_40 : decode cX8_placeLamps 40 = .ok (.iload_n 3, 1) := by decide +kernel
theorem dX8_placeLamps_41 : decode cX8_placeLamps 41 = .ok (.iconst 1, 1) := by decide +kernel
theorem dX8_placeLamps_42 : decode cX8_placeLamps 42 = .ok (.isub, 1) := by decide +kernel
theorem dX8_placeLamps_43 : decode cX8_placeLamps 43 = .ok (.iload 4, 2) := by decide +kernel
theorem dX8_placeLamps_45 : decode cX8_placeLamps 45 = .ok (.invokestatic 27, 3) := by decide +kernel
theorem dX8_placeLamps_48 : decode cX8_placeLamps 48 = .ok (.iaload, 1) := by decide +kernel
theorem dX8_placeLamps_49 : decode cX8_placeLamps 49 = .ok (.iastore, 1) := by decide +kernel
theorem dX8_placeLamps_50 : decode cX8_placeLamps 50 = .ok (.iinc 4 1, 3) := by decide +kernel
theorem dX8_placeLamps_53 : decode cX8_placeLamps 53 = .ok (.goto (-50), 3) := by decide +kernel
theorem dX8_placeLamps_56 : decode cX8_placeLamps 56 = .ok (.iconst 0, 1) := by decide +kernel
theorem dX8_placeLamps_57 : decode cX8_placeLamps 57 = .ok (.istore 4, 2) := by decide +kernel
theorem dX8_placeLamps_59 : decode cX8_placeLamps 59 = .ok (.iload 4, 2) := by decide +kernel
theorem dX8_placeLamps_61 : decode cX8_placeLamps 61 = .ok (.aload_n 2, 1) := by decide +kernel
theorem dX8_placeLamps_62 : decode cX8_placeLamps 62 = .ok (.getfield 74, 3) := by decide +kernel
theorem dX8_placeLamps_65 : decode cX8_placeLamps 65 = .ok (.if_icmp .ge 43, 3) := by decide +kernel
theorem dX8_placeLamps_68 : decode cX8_placeLamps 68 = .ok (.aload_n 2, 1) := by decide +kernel
theorem dX8_placeLamps_69 : decode cX8_placeLamps 69 = .ok (.getfield 79, 3) := by decide +kernel
theorem dX8_placeLamps_72 : decode cX8_placeLamps 72 = .ok (.iload 4, 2) := by decide +kernel
theorem dX8_placeLamps_74 : decode cX8_placeLamps 74 = .ok (.iaload, 1) := by decide +kernel
theorem dX8_placeLamps_75 : decode cX8_placeLamps 75 = .ok (.iload_n 3, 1) := by decide +kernel
theorem dX8_placeLamps_76 : decode cX8_placeLamps 76 = .ok (.if_icmp .ne 26, 3) := by decide +kernel
theorem dX8_placeLamps_79 : decode cX8_placeLamps 79 = .ok (.aload_n 0, 1) := by decide +kernel
theorem dX8_placeLamps_80 : decode cX8_placeLamps 80 = .ok (.getfield 11, 3) := by decide +kernel
theorem dX8_placeLamps_83 : decode cX8_placeLamps 83 = .ok (.iload_n 3, 1) := by decide +kernel
theorem dX8_placeLamps_84 : decode cX8_placeLamps 84 = .ok (.aload_n 2, 1) := by decide +kernel
theorem dX8_placeLamps_85 : decode cX8_placeLamps 85 = .ok (.getfield 82, 3) := by decide +kernel
theorem dX8_placeLamps_88 : decode cX8_placeLamps 88 = .ok (.iload 4, 2) := by decide +kernel
theorem dX8_placeLamps_90 : decode cX8_placeLamps 90 = .ok (.iaload, 1) := by decide +kernel
theorem dX8_placeLamps_91 : decode cX8_placeLamps 91 = .ok (.invokestatic 27, 3) := by decide +kernel
theorem dX8_placeLamps_94 : decode cX8_placeLamps 94 = .ok (.aload_n 2, 1) := by decide +kernel
theorem dX8_placeLamps_95 : decode cX8_placeLamps 95 = .ok (.getfield 85, 3) := by decide +kernel
theorem dX8_placeLamps_98 : decode cX8_placeLamps 98 = .ok (.iload 4, 2) := by decide +kernel
theorem dX8_placeLamps_100 : decode cX8_placeLamps 100 = .ok (.iaload, 1) := by decide +kernel
theorem dX8_placeLamps_101 : decode cX8_placeLamps 101 = .ok (.iastore, 1) := by decide +kernel
theorem dX8_placeLamps_102 : decode cX8_placeLamps 102 = .ok (.iinc 4 1, 3) := by decide +kernel
theorem dX8_placeLamps_105 : decode cX8_placeLamps 105 = .ok (.goto (-46), 3) := by decide +kernel
theorem dX8_placeLamps_108 : decode cX8_placeLamps 108 = .ok (.return_, 1) := by decide +kernel
theorem dX8_glow_0 : decode cX8_glow 0 = .ok (.iload_n 1, 1) := by decide +kernel
theorem dX8_glow_1 : decode cX8_glow 1 = .ok (.ifCond .eq 8, 3) := by decide +kernel
theorem dX8_glow_4 : decode cX8_glow 4 = .ok (.iload_n 0, 1) := by decide +kernel
theorem dX8_glow_5 : decode cX8_glow 5 = .ok (.iconst 3, 1) := by decide +kernel
theorem dX8_glow_6 : decode cX8_glow 6 = .ok (.if_icmp .ne 5, 3) := by decide +kernel
theorem dX8_glow_9 : decode cX8_glow 9 = .ok (.iconst 0, 1) := by decide +kernel
theorem dX8_glow_10 : decode cX8_glow 10 = .ok (.ireturn, 1) := by decide +kernel
theorem dX8_glow_11 : decode cX8_glow 11 = .ok (.iload_n 0, 1) := by decide +kernel
theorem dX8_glow_12 : decode cX8_glow 12 = .ok (.ifCond .ne 10, 3) := by decide +kernel
theorem dX8_glow_15 : decode cX8_glow 15 = .ok (.bipush 99, 2) := by decide +kernel
theorem dX8_glow_17 : decode cX8_glow 17 = .ok (.iload_n 1, 1) := by decide +kernel
theorem dX8_glow_18 : decode cX8_glow 18 = .ok (.invokestatic 66, 3) := by decide +kernel
theorem dX8_glow_21 : decode cX8_glow 21 = .ok (.ireturn, 1) := by decide +kernel
theorem dX8_glow_22 : decode cX8_glow 22 = .ok (.iload_n 1, 1) := by decide +kernel
theorem dX8_glow_23 : decode cX8_glow 23 = .ok (.iconst 1, 1) := by decide +kernel
theorem dX8_glow_24 : decode cX8_glow 24 = .ok (.iadd, 1) := by decide +kernel
theorem dX8_glow_25 : decode cX8_glow 25 = .ok (.istore_n 2, 1) := by decide +kernel
theorem dX8_glow_26 : decode cX8_glow 26 = .ok (.bipush 99, 2) := by decide +kernel
theorem dX8_glow_28 : decode cX8_glow 28 = .ok (.iload_n 0, 1) := by decide +kernel
theorem dX8_glow_29 : decode cX8_glow 29 = .ok (.iconst 2, 1) := by decide +kernel
theorem dX8_glow_30 : decode cX8_glow 30 = .ok (.if_icmp .ne 9, 3) := by decide +kernel
theorem dX8_glow_33 : decode cX8_glow 33 = .ok (.iconst 2, 1) := by decide +kernel
theorem dX8_glow_34 : decode cX8_glow 34 = .ok (.iload_n 2, 1) := by decide +kernel
theorem dX8_glow_35 : decode cX8_glow 35 = .ok (.imul, 1) := by decide +kernel
theorem dX8_glow_36 : decode cX8_glow 36 = .ok (.goto 4, 3) := by decide +kernel
theorem dX8_glow_39 : decode cX8_glow 39 = .ok (.iload_n 2, 1) := by decide +kernel
theorem dX8_glow_40 : decode cX8_glow 40 = .ok (.invokestatic 66, 3) := by decide +kernel
theorem dX8_glow_43 : decode cX8_glow 43 = .ok (.ireturn, 1) := by decide +kernel
