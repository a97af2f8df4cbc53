theorem dX0_init_0 : decode cX0_init 0 = .ok (.aload_n 0, 1) := by decide +kernel
theorem dX0_init_1 : decode cX0_init 1 = .ok (.invokespecial 3, 3) := by decide +kernel
theorem dX0_init_4 : decode cX0_init 4 = .ok (.aload_n 0, 1) := by decide +kernel
theorem dX0_init_5 : decode cX0_init 5 = .ok (.new 9, 3) := by decide +kernel
theorem dX0_init_8 : decode cX0_init 8 = .ok (.dup, 1) := by decide +kernel
theorem dX0_init_9 : decode cX0_init 9 = .ok (.invokespecial 11, 3) := by decide +kernel
theorem dX0_init_12 : decode cX0_init 12 = .ok (.putfield 12, 3) := by decide +kernel
theorem dX0_init_15 : decode cX0_init 15 = .ok (.aload_n 0, 1) := by decide +kernel
theorem dX0_init_16 : decode cX0_init 16 = .ok (.bipush 8, 2) := by decide +kernel
theorem dX0_init_18 : decode cX0_init 18 = .ok (.newarray .int, 2) := by decide +kernel
theorem dX0_init_20 : decode cX0_init 20 = .ok (.putfield 18, 3) := by decide +kernel
theorem dX0_init_23 : decode cX0_init 23 = .ok (.aload_n 0, 1) := by decide +kernel
theorem dX0_init_24 : decode cX0_init 24 = .ok (.iconst 2, 1) := by decide +kernel
theorem dX0_init_25 : decode cX0_init 25 = .ok (.newarray .int, 2) := by decide +kernel
theorem dX0_init_27 : decode cX0_init 27 = .ok (.putfield 22, 3) := by decide +kernel
theorem dX0_init_30 : decode cX0_init 30 = .ok (.return_, 1) := by decide +kernel
theorem dX0_clear_0 : decode cX0_clear 0 = .ok (.aload_n 0, 1) := by decide +kernel
theorem dX0_clear_1 : decode cX0_clear 1 = .ok (.getfield 12, 3) := by decide +kernel
theorem dX0_clear_4 : decode cX0_clear 4 = .ok (.invokevirtual 25, 3) := by decide +kernel
theorem dX0_clear_7 : decode cX0_clear 7 = .ok (.aload_n 0, 1) := by decide +kernel
theorem dX0_clear_8 : decode cX0_clear 8 = .ok (.iconst 0, 1) := by decide +kernel
theorem dX0_clear_9 : decode cX0_clear 9 = .ok (.putfield 28, 3) := by decide +kernel
theorem dX0_clear_12 : decode cX0_clear 12 = .ok (.aload_n 0, 1) := by decide +kernel
theorem dX0_clear_13 : decode cX0_clear 13 = .ok (.iconst 0, 1) := by decide +kernel
theorem dX0_clear_14 : decode cX0_clear 14 = .ok (.putfield 32, 3) := by decide +kernel
theorem dX0_clear_17 : decode cX0_clear 17 = .ok (.aload_n 0, 1) := by decide +kernel
theorem dX0_clear_18 : decode cX0_clear 18 = .ok (.iconst 0, 1) := by decide +kernel
theorem dX0_clear_19 : decode cX0_clear 19 = .ok (.putfield 35, 3) := by decide +kernel
theorem dX0_clear_22 : decode cX0_clear 22 = .ok (.return_, 1) := by decide +kernel
theorem dX0_holds_0 : decode cX0_holds 0 = .ok (.aload_n 0, 1) := by decide +kernel
theorem dX0_holds_1 : decode cX0_holds 1 = .ok (.getfield 28, 3) := by decide +kernel
theorem dX0_holds_4 : decode cX0_holds 4 = .ok (.iload_n 1, 1) := by decide +kernel
theorem dX0_holds_5 : decode cX0_holds 5 = .ok (.iushr, 1) := by decide +kernel
theorem dX0_holds_6 : decode cX0_holds 6 = .ok (.iconst 1, 1) := by decide +kernel
theorem dX0_holds_7 : decode cX0_holds 7 = .ok (.iand, 1) := by decide +kernel
theorem dX0_holds_8 : decode cX0_holds 8 = .ok (.iconst 1, 1) := by decide +kernel
theorem dX0_holds_9 : decode cX0_holds 9 = .ok (.if_icmp .ne 7, 3) := by decide +kernel
theorem dX0_holds_12 : decode cX0_holds 12 = .ok (.iconst 1, 1) := by decide +kernel
theorem dX0_holds_13 : decode cX0_holds 13 = .ok (.goto 4, 3) := by decide +kernel
theorem dX0_holds_16 : decode cX0_holds 16 = .ok (.iconst 0, 1) := by decide +kernel
theorem dX0_holds_17 : decode cX0_holds 17 = .ok (.ireturn, 1) := by decide +kernel
theorem dX0_howManyIn_0 : decode cX0_howManyIn 0 = .ok (.aload_n 0, 1) := by decide +kernel
theorem dX0_howManyIn_1 : decode cX0_howManyIn 1 = .ok (.getfield 28, 3) := by decide +kernel
theorem dX0_howManyIn_4 : decode cX0_howManyIn 4 = .ok (.invokestatic 38, 3) := by decide +kernel
theorem dX0_howManyIn_7 : decode cX0_howManyIn 7 = .ok (.ireturn, 1) := by decide +kernel
theorem dX0_pass_0 : decode cX0_pass 0 = .ok (.aload_n 0, 1) := by decide +kernel
theorem dX0_pass_1 : decode cX0_pass 1 = .ok (.invokevirtual 44, 3) := by decide +kernel
theorem dX0_pass_4 : decode cX0_pass 4 = .ok (.aload_n 0, 1) := by decide +kernel
theorem dX0_pass_5 : decode cX0_pass 5 = .ok (.getfield 12, 3) := by decide +kernel
theorem dX0_pass_8 : decode cX0_pass 8 = .ok (.aload_n 1, 1) := by decide +kernel
theorem dX0_pass_9 : decode cX0_pass 9 = .ok (.iload_n 2, 1) := by decide +kernel
theorem dX0_pass_10 : decode cX0_pass 10 = .ok (.invokevirtual 47, 3) := by decide +kernel
theorem dX0_pass_13 : decode cX0_pass 13 = .ok (.aload_n 0, 1) := by decide +kernel
theorem dX0_pass_14 : decode cX0_pass 14 = .ok (.dup, 1) := by decide +kernel
theorem dX0_pass_15 : decode cX0_pass 15 = .ok (.getfield 28, 3) := by decide +kernel
theorem dX0_pass_18 : decode cX0_pass 18 = .ok (.iconst 1, 1) := by decide +kernel
theorem dX0_pass_19 : decode cX0_pass 19 = .ok (.iload_n 2, 1) := by decide +kernel
theorem dX0_pass_20 : decode cX0_pass 20 = .ok (.ishl, 1) := by decide +kernel
theorem dX0_pass_21 : decode cX0_pass 21 = .ok (.ixor, 1) := by decide +kernel
theorem dX0_pass_22 : decode cX0_pass 22 = .ok (.putfield 28, 3) := by decide +kernel
theorem dX0_pass_25 : decode cX0_pass 25 = .ok (.return_, 1) := by decide +kernel
theorem dX0_remember_0 : decode cX0_remember 0 = .ok (.aload_n 0, 1) := by decide +kernel
theorem dX0_remember_1 : decode cX0_remember 1 = .ok (.getfield 32, 3) := by decide +kernel
theorem dX0_remember_4 : decode cX0_remember 4 = .ok (.bipush 8, 2) := by decide +kernel
theorem dX0_remember_6 : decode cX0_remember 6 = .ok (.if_icmp .ne 28, 3) := by decide +kernel
theorem dX0_remember_9 : decode cX0_remember 9 = .ok (.aload_n 0, 1) := by decide +kernel
theorem dX0_remember_10 : decode cX0_remember 10 = .ok (.getfield 18, 3) := by decide +kernel
theorem dX0_remember_13 : decode cX0_remember 13 = .ok (.iconst 1, 1) := by decide +kernel
theorem dX0_remember_14 : decode cX0_remember 14 = .ok (.aload_n 0, 1) := by decide +kernel
theorem dX0_remember_15 : decode cX0_remember 15 = .ok (.getfield 18, 3) := by decide +kernel
theorem dX0_remember_18 : decode cX0_remember 18 = .ok (.iconst 0, 1) := by decide +kernel
theorem dX0_remember_19 : decode cX0_remember 19 = .ok (.bipush 7, 2) := by decide +kernel
theorem dX0_remember_21 : decode cX0_remember 21 = .ok (.invokestatic 51, 3) := by decide +kernel
theorem dX0_remember_24 : decode cX0_remember 24 = .ok (.aload_n 0, 1) := by decide +kernel
theorem dX0_remember_25 : decode cX0_remember 25 = .ok (.dup, 1) := by decide +kernel
theorem dX0_remember_26 : decode cX0_remember 26 = .ok (.getfield 32, 3) := by decide +kernel
theorem dX0_remember_29 : decode cX0_remember 29 = .ok (.iconst 1, 1) := by decide +kernel
theorem dX0_remember_30 : decode cX0_remember 30 = .ok (.isub, 1) := by decide +kernel
theorem dX0_remember_31 : decode cX0_remember 31 = .ok (.putfield 32, 3) := by decide +kernel
theorem dX0_remember_34 : decode cX0_remember 34 = .ok (.aload_n 0, 1) := by decide +kernel
theorem dX0_remember_35 : decode cX0_remember 35 = .ok (.getfield 18, 3) := by decide +kernel
theorem dX0_remember_38 : decode cX0_remember 38 = .ok (.aload_n 0, 1) := by decide +kernel
theorem dX0_remember_39 : decode cX0_remember 39 = .ok (.getfield 32, 3) := by decide +kernel
theorem dX0_remember_42 : decode cX0_remember 42 = .ok (.aload_n 0, 1) := by decide +kernel
theorem dX0_remember_43 : decode cX0_remember 43 = .ok (.invokevirtual 57, 3) := by decide +kernel
theorem dX0_remember_46 : decode cX0_remember 46 = .ok (.iastore, 1) := by decide +kernel
theorem dX0_remember_47 : decode cX0_remember 47 = .ok (.aload_n 0, 1) := by decide +kernel
theorem dX0_remember_48 : decode cX0_remember 48 = .ok (.dup, 1) := by decide +kernel
theorem dX0_remember_49 : decode cX0_remember 49 = .ok (.getfield 32, 3) := by decide +kernel
theorem dX0_remember_52 : decode cX0_remember 52 = .ok (.iconst 1, 1) := by decide +kernel
theorem dX0_remember_53 : decode cX0_remember 53 = .ok (.iadd, 1) := by decide +kernel
theorem dX0_remember_54 : decode cX0_remember 54 = .ok (.putfield 32, 3) := by decide +kernel
theorem dX0_remember_57 : decode cX0_remember 57 = .ok (.return_, 1) := by decide +kernel
theorem dX0_takeBack_0 : decode cX0_takeBack 0 = .ok (.aload_n 0, 1) := by decide +kernel
theorem dX0_takeBack_1 : decode cX0_takeBack 1 = .ok (.getfield 32, 3) := by decide +kernel
theorem dX0_takeBack_4 : decode cX0_takeBack 4 = .ok (.iconst 1, 1) := by decide +kernel
theorem dX0_takeBack_5 : decode cX0_takeBack 5 = .ok (.if_icmp .ge 5, 3) := by decide +kernel
theorem dX0_takeBack_8 : decode cX0_takeBack 8 = .ok (.iconst 0, 1) := by decide +kernel
theorem dX0_takeBack_9 : decode cX0_takeBack 9 = .ok (.ireturn, 1) := by decide +kernel
theorem dX0_takeBack_10 : decode cX0_takeBack 10 = .ok (.aload_n 0, 1) := by decide +kernel
theorem dX0_takeBack_11 : decode cX0_takeBack 11 = .ok (.dup, 1) := by decide +kernel
theorem dX0_takeBack_12 : decode cX0_takeBack 12 = .ok (.getfield 32, 3) := by decide +kernel
theorem dX0_takeBack_15 : decode cX0_takeBack 15 = .ok (.iconst 1, 1) := by decide +kernel
theorem dX0_takeBack_16 : decode cX0_takeBack 16 = .ok (.isub, 1) := by decide +kernel
theorem dX0_takeBack_17 : decode cX0_takeBack 17 = .ok (.putfield 32, 3) := by decide +kernel
theorem dX0_takeBack_20 : decode cX0_takeBack 20 = .ok (.aload_n 0, 1) := by decide +kernel
theorem dX0_takeBack_21 : decode cX0_takeBack 21 = .ok (.aload_n 0, 1) := by decide +kernel
theorem dX0_takeBack_22 : decode cX0_takeBack 22 = .ok (.getfield 18, 3) := by decide +kernel
theorem dX0_takeBack_25 : decode cX0_takeBack 25 = .ok (.aload_n 0, 1) := by decide +kernel
theorem dX0_takeBack_26 : decode cX0_takeBack 26 = .ok (.getfield 32, 3) := by decide +kernel
theorem dX0_takeBack_29 : decode cX0_takeBack 29 = .ok (.iaload, 1) := by decide +kernel
theorem dX0_takeBack_30 : decode cX0_takeBack 30 = .ok (.invokevirtual 61, 3) := by decide +kernel
theorem dX0_takeBack_33 : decode cX0_takeBack 33 = .ok (.iconst 1, 1) := by decide +kernel
theorem dX0_takeBack_34 : decode cX0_takeBack 34 = .ok (.ireturn, 1) := by decide +kernel
theorem dX0_store_0 : decode cX0_store 0 = .ok (.aload_n 0, 1) := by decide +kernel
theorem dX0_store_1 : decode cX0_store 1 = .ok (.getfield 35, 3) := by decide +kernel
theorem dX0_store_4 : decode cX0_store 4 = .ok (.iconst 2, 1) := by decide +kernel
theorem dX0_store_5 : decode cX0_store 5 = .ok (.if_icmp .lt 5, 3) := by decide +kernel
theorem dX0_store_8 : decode cX0_store 8 = .ok (.iconst 0, 1) := by decide +kernel
theorem dX0_store_9 : decode cX0_store 9 = .ok (.ireturn, 1) := by decide +kernel
theorem dX0_store_10 : decode cX0_store 10 = .ok (.aload_n 0, 1) := by decide +kernel
theorem dX0_store_11 : decode cX0_store 11 = .ok (.getfield 22, 3) := by decide +kernel
theorem dX0_store_14 : decode cX0_store 14 = .ok (.aload_n 0, 1) := by decide +kernel
theorem dX0_store_15 : decode cX0_store 15 = .ok (.getfield 35, 3) := by decide +kernel
theorem dX0_store_18 : decode cX0_store 18 = .ok (.aload_n 0, 1) := by decide +kernel
theorem dX0_store_19 : decode cX0_store 19 = .ok (.invokevirtual 57, 3) := by decide +kernel
theorem dX0_store_22 : decode cX0_store 22 = .ok (.iastore, 1) := by decide +kernel
theorem dX0_store_23 : decode cX0_store 23 = .ok (.aload_n 0, 1) := by decide +kernel
theorem dX0_store_24 : decode cX0_store 24 = .ok (.dup, 1) := by decide +kernel
theorem dX0_store_25 : decode cX0_store 25 = .ok (.getfield 35, 3) := by decide +kernel
theorem dX0_store_28 : decode cX0_store 28 = .ok (.iconst 1, 1) := by decide +kernel
theorem dX0_store_29 : decode cX0_store 29 = .ok (.iadd, 1) := by decide +kernel
theorem dX0_store_30 : decode cX0_store 30 = .ok (.putfield 35, 3) := by decide +kernel
theorem dX0_store_33 : decode cX0_store 33 = .ok (.iconst 1, 1) := by decide +kernel
theorem dX0_store_34 : decode cX0_store 34 = .ok (.ireturn, 1) := by decide +kernel
theorem dX0_fetch_0 : decode cX0_fetch 0 = .ok (.aload_n 0, 1) := by decide +kernel
theorem dX0_fetch_1 : decode cX0_fetch 1 = .ok (.getfield 35, 3) := by decide +kernel
theorem dX0_fetch_4 : decode cX0_fetch 4 = .ok (.iconst 1, 1) := by decide +kernel
theorem dX0_fetch_5 : decode cX0_fetch 5 = .ok (.if_icmp .ge 5, 3) := by decide +kernel
theorem dX0_fetch_8 : decode cX0_fetch 8 = .ok (.iconst 0, 1) := by decide +kernel
theorem dX0_fetch_9 : decode cX0_fetch 9 = .ok (.ireturn, 1) := by decide +kernel
theorem dX0_fetch_10 : decode cX0_fetch 10 = .ok (.aload_n 0, 1) := by decide +kernel
theorem dX0_fetch_11 : decode cX0_fetch 11 = .ok (.dup, 1) := by decide +kernel
theorem dX0_fetch_12 : decode cX0_fetch 12 = .ok (.getfield 35, 3) := by decide +kernel
theorem dX0_fetch_15 : decode cX0_fetch 15 = .ok (.iconst 1, 1) := by decide +kernel
theorem dX0_fetch_16 : decode cX0_fetch 16 = .ok (.isub, 1) := by decide +kernel
theorem dX0_fetch_17 : decode cX0_fetch 17 = .ok (.putfield 35, 3) := by decide +kernel
theorem dX0_fetch_20 : decode cX0_fetch 20 = .ok (.aload_n 0, 1) := by decide +kernel
theorem dX0_fetch_21 : decode cX0_fetch 21 = .ok (.aload_n 0, 1) := by decide +kernel
theorem dX0_fetch_22 : decode cX0_fetch 22 = .ok (.getfield 22, 3) := by decide +kernel
theorem dX0_fetch_25 : decode cX0_fetch 25 = .ok (.aload_n 0, 1) := by decide +kernel
theorem dX0_fetch_26 : decode cX0_fetch 26 = .ok (.getfield 35, 3) := by decide +kernel
theorem dX0_fetch_29 : decode cX0_fetch 29 = .ok (.iaload, 1) := by decide +kernel
theorem dX0_fetch_30 : decode cX0_fetch 30 = .ok (.invokevirtual 61, 3) := by decide +kernel
theorem dX0_fetch_33 : decode cX0_fetch 33 = .ok (.aload_n 0, 1) := by decide +kernel
theorem dX0_fetch_34 : decode cX0_fetch 34 = .ok (.iconst 0, 1) := by decide +kernel
theorem dX0_fetch_35 : decode cX0_fetch 35 = .ok (.putfield 32, 3) := by decide +kernel
theorem dX0_fetch_38 : decode cX0_fetch 38 = .ok (.iconst 1, 1) := by decide +kernel
theorem dX0_fetch_39 : decode cX0_fetch 39 = .ok (.ireturn, 1) := by decide +kernel
theorem dX0_packed_0 : decode cX0_packed 0 = .ok (.aload_n 0, 1) := by decide +kernel
theorem dX0_packed_1 : decode cX0_packed 1 = .ok (.getfield 28, 3) := by decide +kernel
theorem dX0_packed_4 : decode cX0_packed 4 = .ok (.bipush 10, 2) := by decide +kernel
theorem dX0_packed_6 : decode cX0_packed 6 = .ok (.ishl, 1) := by decide +kernel
theorem dX0_packed_7 : decode cX0_packed 7 = .ok (.aload_n 0, 1) := by decide +kernel
theorem dX0_packed_8 : decode cX0_packed 8 = .ok (.getfield 12, 3) := by decide +kernel
theorem dX0_packed_11 : decode cX0_packed 11 = .ok (.getfield 65, 3) := by decide +kernel
theorem dX0_packed_14 : decode cX0_packed 14 = .ok (.iconst 1, 1) := by decide +kernel
theorem dX0_packed_15 : decode cX0_packed 15 = .ok (.iadd, 1) := by decide +kernel
theorem dX0_packed_16 : decode cX0_packed 16 = .ok (.iconst 5, 1) := by decide +kernel
theorem dX0_packed_17 : decode cX0_packed 17 = .ok (.ishl, 1) := by decide +kernel
theorem dX0_packed_18 : decode cX0_packed 18 = .ok (.ior, 1) := by decide +kernel
theorem dX0_packed_19 : decode cX0_packed 19 = .ok (.aload_n 0, 1) := by decide +kernel
theorem dX0_packed_20 : decode cX0_packed 20 = .ok (.getfield 12, 3) := by decide +kernel
theorem dX0_packed_23 : decode cX0_packed 23 = .ok (.getfield 68, 3) := by decide +kernel
theorem dX0_packed_26 : decode cX0_packed 26 = .ok (.ior, 1) := by decide +kernel
theorem dX0_packed_27 : decode cX0_packed 27 = .ok (.ireturn, 1) := by decide +kernel
theorem dX0_unpack_0 : decode cX0_unpack 0 = .ok (.aload_n 0, 1) := by decide +kernel
theorem dX0_unpack_1 : decode cX0_unpack 1 = .ok (.iload_n 1, 1) := by decide +kernel
theorem dX0_unpack_2 : decode cX0_unpack 2 = .ok (.bipush 10, 2) := by decide +kernel
theorem dX0_unpack_4 : decode cX0_unpack 4 = .ok (.iushr, 1) := by decide +kernel
theorem dX0_unpack_5 : decode cX0_unpack 5 = .ok (.putfield 28, 3) := by decide +kernel
theorem dX0_unpack_8 : decode cX0_unpack 8 = .ok (.aload_n 0, 1) := by decide +kernel
theorem dX0_unpack_9 : decode cX0_unpack 9 = .ok (.getfield 12, 3) := by decide +kernel
theorem dX0_unpack_12 : decode cX0_unpack 12 = .ok (.iload_n 1, 1) := by decide +kernel
theorem dX0_unpack_13 : decode cX0_unpack 13 = .ok (.iconst 5, 1) := by decide +kernel
theorem dX0_unpack_14 : decode cX0_unpack 14 = .ok (.iushr, 1) := by decide +kernel
theorem dX0_unpack_15 : decode cX0_unpack 15 = .ok (.bipush 31, 2) := by decide +kernel
theorem dX0_unpack_17 : decode cX0_unpack 17 = .ok (.iand, 1) := by decide +kernel
theorem dX0_unpack_18 : decode cX0_unpack 18 = .ok (.iconst 1, 1) := by decide +kernel
theorem dX0_unpack_19 : decode cX0_unpack 19 = .ok (.isub, 1) := by decide +kernel
theorem dX0_unpack_20 : decode cX0_unpack 20 = .ok (.putfield 65, 3) := by decide +kernel
theorem dX0_unpack_23 : decode cX0_unpack 23 = .ok (.aload_n 0, 1) := by decide +kernel
theorem dX0_unpack_24 : decode cX0_unpack 24 = .ok (.getfield 12, 3) := by decide +kernel
theorem dX0_unpack_27 : decode cX0_unpack 27 = .ok (.iload_n 1, 1) := by decide +kernel
theorem dX0_unpack_28 : decode cX0_unpack 28 = .ok (.bipush 31, 2) := by decide +kernel
theorem dX0_unpack_30 : decode cX0_unpack 30 = .ok (.iand, 1) := by decide +kernel
theorem dX0_unpack_31 : decode cX0_unpack 31 = .ok (.putfield 68, 3) := by decide +kernel
theorem dX0_unpack_34 : decode cX0_unpack 34 = .ok (.return_, 1) := by decide +kernel
theorem dX1_init_0 : decode cX1_init 0 = .ok (.aload_n 0, 1) := by decide +kernel
theorem dX1_init_1 : decode cX1_init 1 = .ok (.invokespecial 3, 3) := by decide +kernel
theorem dX1_init_4 : decode cX1_init 4 = .ok (.aload_n 0, 1) := by decide +kernel
theorem dX1_init_5 : decode cX1_init 5 = .ok (.sipush 256, 3) := by decide +kernel
theorem dX1_init_8 : decode cX1_init 8 = .ok (.newarray .int, 2) := by decide +kernel
theorem dX1_init_10 : decode cX1_init 10 = .ok (.putfield 9, 3) := by decide +kernel
theorem dX1_init_13 : decode cX1_init 13 = .ok (.return_, 1) := by decide +kernel
theorem dX1_fewest_0 : decode cX1_fewest 0 = .ok (.aload_n 2, 1) := by decide +kernel
theorem dX1_fewest_1 : decode cX1_fewest 1 = .ok (.getfield 15, 3) := by decide +kernel
theorem dX1_fewest_4 : decode cX1_fewest 4 = .ok (.iconst 1, 1) := by decide +kernel
theorem dX1_fewest_5 : decode cX1_fewest 5 = .ok (.isub, 1) := by decide +kernel
theorem dX1_fewest_6 : decode cX1_fewest 6 = .ok (.istore_n 3, 1) := by decide +kernel
theorem dX1_fewest_7 : decode cX1_fewest 7 = .ok (.iload_n 3, 1) := by decide +kernel
theorem dX1_fewest_8 : decode cX1_fewest 8 = .ok (.ifCond .lt 48, 3) := by decide +kernel
theorem dX1_fewest_11 : decode cX1_fewest 11 = .ok (.iconst 0, 1) := by decide +kernel
theorem dX1_fewest_12 : decode cX1_fewest 12 = .ok (.istore 4, 2) := by decide +kernel
theorem dX1_fewest_14 : decode cX1_fewest 14 = .ok (.iload 4, 2) := by decide +kernel
theorem dX1_fewest_16 : decode cX1_fewest 16 = .ok (.aload_n 1, 1) := by decide +kernel
theorem dX1_fewest_17 : decode cX1_fewest 17 = .ok (.getfield 21, 3) := by decide +kernel
theorem dX1_fewest_20 : decode cX1_fewest 20 = .ok (.if_icmp .ge 30, 3) := by decide +kernel
theorem dX1_fewest_23 : decode cX1_fewest 23 = .ok (.aload_n 0, 1) := by decide +kernel
theorem dX1_fewest_24 : decode cX1_fewest 24 = .ok (.getfield 9, 3) := by decide +kernel
theorem dX1_fewest_27 : decode cX1_fewest 27 = .ok (.iload_n 3, 1) := by decide +kernel
theorem dX1_fewest_28 : decode cX1_fewest 28 = .ok (.bipush 16, 2) := by decide +kernel
theorem dX1_fewest_30 : decode cX1_fewest 30 = .ok (.imul, 1) := by decide +kernel
theorem dX1_fewest_31 : decode cX1_fewest 31 = .ok (.iload 4, 2) := by decide +kernel
theorem dX1_fewest_33 : decode cX1_fewest 33 = .ok (.iadd, 1) := by decide +kernel
theorem dX1_fewest_34 : decode cX1_fewest 34 = .ok (.aload_n 0, 1) := by decide +kernel
theorem dX1_fewest_35 : decode cX1_fewest 35 = .ok (.aload_n 1, 1) := by decide +kernel
theorem dX1_fewest_36 : decode cX1_fewest 36 = .ok (.aload_n 2, 1) := by decide +kernel
theorem dX1_fewest_37 : decode cX1_fewest 37 = .ok (.iload_n 3, 1) := by decide +kernel
theorem dX1_fewest_38 : decode cX1_fewest 38 = .ok (.iload 4, 2) := by decide +kernel
theorem dX1_fewest_40 : decode cX1_fewest 40 = .ok (.invokevirtual 26, 3) := by decide +kernel
theorem dX1_fewest_43 : decode cX1_fewest 43 = .ok (.iastore, 1) := by decide +kernel
theorem dX1_fewest_44 : decode cX1_fewest 44 = .ok (.iinc 4 1, 3) := by decide +kernel
theorem dX1_fewest_47 : decode cX1_fewest 47 = .ok (.goto (-33), 3) := by decide +kernel
theorem dX1_fewest_50 : decode cX1_fewest 50 = .ok (.iinc 3 (-1), 3) := by decide +kernel
theorem dX1_fewest_53 : decode cX1_fewest 53 = .ok (.goto (-46), 3) := by decide +kernel
theorem dX1_fewest_56 : decode cX1_fewest 56 = .ok (.aload_n 2, 1) := by decide +kernel
theorem dX1_fewest_57 : decode cX1_fewest 57 = .ok (.getfield 15, 3) := by decide +kernel
theorem dX1_fewest_60 : decode cX1_fewest 60 = .ok (.ifCond .ne 7, 3) := by decide +kernel
theorem dX1_fewest_63 : decode cX1_fewest 63 = .ok (.iconst 0, 1) := by decide +kernel
theorem dX1_fewest_64 : decode cX1_fewest 64 = .ok (.goto 6, 3) := by decide +kernel
theorem dX1_fewest_67 : decode cX1_fewest 67 = .ok (.sipush 1000, 3) := by decide +kernel
theorem dX1_fewest_70 : decode cX1_fewest 70 = .ok (.istore_n 3, 1) := by decide +kernel
theorem dX1_fewest_71 : decode cX1_fewest 71 = .ok (.iconst 0, 1) := by decide +kernel
theorem dX1_fewest_72 : decode cX1_fewest 72 = .ok (.istore 4, 2) := by decide +kernel
theorem dX1_fewest_74 : decode cX1_fewest 74 = .ok (.iload 4, 2) := by decide +kernel
theorem dX1_fewest_76 : decode cX1_fewest 76 = .ok (.aload_n 1, 1) := by decide +kernel
theorem dX1_fewest_77 : decode cX1_fewest 77 = .ok (.getfield 21, 3) := by decide +kernel
theorem dX1_fewest_80 : decode cX1_fewest 80 = .ok (.if_icmp .ge 28, 3) := by decide +kernel
theorem dX1_fewest_83 : decode cX1_fewest 83 = .ok (.aload_n 2, 1) := by decide +kernel
theorem dX1_fewest_84 : decode cX1_fewest 84 = .ok (.getfield 15, 3) := by decide +kernel
theorem dX1_fewest_87 : decode cX1_fewest 87 = .ok (.ifCond .le 21, 3) := by decide +kernel
theorem dX1_fewest_90 : decode cX1_fewest 90 = .ok (.iload_n 3, 1) := by decide +kernel
theorem dX1_fewest_91 : decode cX1_fewest 91 = .ok (.aload_n 0, 1) := by decide +kernel
theorem dX1_fewest_92 : decode cX1_fewest 92 = .ok (.getfield 9, 3) := by decide +kernel
theorem dX1_fewest_95 : decode cX1_fewest 95 = .ok (.iload 4, 2) := by decide +kernel
theorem dX1_fewest_97 : decode cX1_fewest 97 = .ok (.iaload, 1) := by decide +kernel
theorem dX1_fewest_98 : decode cX1_fewest 98 = .ok (.invokestatic 30, 3) := by decide +kernel
theorem dX1_fewest_101 : decode cX1_fewest 101 = .ok (.istore_n 3, 1) := by decide +kernel
theorem dX1_fewest_102 : decode cX1_fewest 102 = .ok (.iinc 4 1, 3) := by decide +kernel
theorem dX1_fewest_105 : decode cX1_fewest 105 = .ok (.goto (-31), 3) := by decide +kernel
theorem dX1_fewest_108 : decode cX1_fewest 108 = .ok (.iload_n 3, 1) := by decide +kernel
theorem dX1_fewest_109 : decode cX1_fewest 109 = .ok (.sipush 1000, 3) := by decide +kernel
theorem dX1_fewest_112 : decode cX1_fewest 112 = .ok (.if_icmp .ge 7, 3) := by decide +kernel
theorem dX1_fewest_115 : decode cX1_fewest 115 = .ok (.iload_n 3, 1) := by decide +kernel
theorem dX1_fewest_116 : decode cX1_fewest 116 = .ok (.goto 5, 3) := by decide +kernel
theorem dX1_fewest_119 : decode cX1_fewest 119 = .ok (.bipush (-4), 2) := by decide +kernel
theorem dX1_fewest_121 : decode cX1_fewest 121 = .ok (.ireturn, 1) := by decide +kernel
theorem dX1_othersFrom_0 : decode cX1_othersFrom 0 = .ok (.aload_n 1, 1) := by decide +kernel
theorem dX1_othersFrom_1 : decode cX1_othersFrom 1 = .ok (.aload_n 2, 1) := by decide +kernel
theorem dX1_othersFrom_2 : decode cX1_othersFrom 2 = .ok (.iload_n 3, 1) := by decide +kernel
theorem dX1_othersFrom_3 : decode cX1_othersFrom 3 = .ok (.invokevirtual 36, 3) := by decide +kernel
theorem dX1_othersFrom_6 : decode cX1_othersFrom 6 = .ok (.invokevirtual 40, 3) := by decide +kernel
theorem dX1_othersFrom_9 : decode cX1_othersFrom 9 = .ok (.istore 5, 2) := by decide +kernel
theorem dX1_othersFrom_11 : decode cX1_othersFrom 11 = .ok (.aload_n 1, 1) := by decide +kernel
theorem dX1_othersFrom_12 : decode cX1_othersFrom 12 = .ok (.iload 5, 2) := by decide +kernel
theorem dX1_othersFrom_14 : decode cX1_othersFrom 14 = .ok (.iload 4, 2) := by decide +kernel
theorem dX1_othersFrom_16 : decode cX1_othersFrom 16 = .ok (.invokevirtual 43, 3) := by decide +kernel
theorem dX1_othersFrom_19 : decode cX1_othersFrom 19 = .ok (.istore 6, 2) := by decide +kernel
theorem dX1_othersFrom_21 : decode cX1_othersFrom 21 = .ok (.iload_n 3, 1) := by decide +kernel
theorem dX1_othersFrom_22 : decode cX1_othersFrom 22 = .ok (.iconst 1, 1) := by decide +kernel
theorem dX1_othersFrom_23 : decode cX1_othersFrom 23 = .ok (.iadd, 1) := by decide +kernel
theorem dX1_othersFrom_24 : decode cX1_othersFrom 24 = .ok (.aload_n 2, 1) := by decide +kernel
theorem dX1_othersFrom_25 : decode cX1_othersFrom 25 = .ok (.getfield 15, 3) := by decide +kernel
theorem dX1_othersFrom_28 : decode cX1_othersFrom 28 = .ok (.if_icmp .ge 9, 3) := by decide +kernel
theorem dX1_othersFrom_31 : decode cX1_othersFrom 31 = .ok (.sipush 1000, 3) := by decide +kernel
theorem dX1_othersFrom_34 : decode cX1_othersFrom 34 = .ok (.goto 4, 3) := by decide +kernel
theorem dX1_othersFrom_37 : decode cX1_othersFrom 37 = .ok (.iconst 0, 1) := by decide +kernel
theorem dX1_othersFrom_38 : decode cX1_othersFrom 38 = .ok (.istore 7, 2) := by decide +kernel
theorem dX1_othersFrom_40 : decode cX1_othersFrom 40 = .ok (.iconst 0, 1) := by decide +kernel
theorem dX1_othersFrom_41 : decode cX1_othersFrom 41 = .ok (.istore 8, 2) := by decide +kernel
theorem dX1_othersFrom_43 : decode cX1_othersFrom 43 = .ok (.iload 8, 2) := by decide +kernel
theorem dX1_othersFrom_45 : decode cX1_othersFrom 45 = .ok (.aload_n 1, 1) := by decide +kernel
theorem dX1_othersFrom_46 : decode cX1_othersFrom 46 = .ok (.getfield 21, 3) := by decide +kernel
theorem dX1_othersFrom_49 : decode cX1_othersFrom 49 = .ok (.if_icmp .ge 56, 3) := by decide +kernel
theorem dX1_othersFrom_52 : decode cX1_othersFrom 52 = .ok (.iload_n 3, 1) := by decide +kernel
theorem dX1_othersFrom_53 : decode cX1_othersFrom 53 = .ok (.iconst 1, 1) := by decide +kernel
theorem dX1_othersFrom_54 : decode cX1_othersFrom 54 = .ok (.iadd, 1) := by decide +kernel
theorem dX1_othersFrom_55 : decode cX1_othersFrom 55 = .ok (.aload_n 2, 1) := by decide +kernel
theorem dX1_othersFrom_56 : decode cX1_othersFrom 56 = .ok (.getfield 15, 3) := by decide +kernel
theorem dX1_othersFrom_59 : decode cX1_othersFrom 59 = .ok (.if_icmp .ge 46, 3) := by decide +kernel
theorem dX1_othersFrom_62 : decode cX1_othersFrom 62 = .ok (.aload_n 0, 1) := by decide +kernel
theorem dX1_othersFrom_63 : decode cX1_othersFrom 63 = .ok (.aload_n 1, 1) := by decide +kernel
theorem dX1_othersFrom_64 : decode cX1_othersFrom 64 = .ok (.aload_n 2, 1) := by decide +kernel
theorem dX1_othersFrom_65 : decode cX1_othersFrom 65 = .ok (.iload 6, 2) := by decide +kernel
theorem dX1_othersFrom_67 : decode cX1_othersFrom 67 = .ok (.iload_n 3, 1) := by decide +kernel
theorem dX1_othersFrom_68 : decode cX1_othersFrom 68 = .ok (.iconst 1, 1) := by decide +kernel
theorem dX1_othersFrom_69 : decode cX1_othersFrom 69 = .ok (.iadd, 1) := by decide +kernel
theorem dX1_othersFrom_70 : decode cX1_othersFrom 70 = .ok (.iload 8, 2) := by decide +kernel
theorem dX1_othersFrom_72 : decode cX1_othersFrom 72 = .ok (.invokevirtual 46, 3) := by decide +kernel
theorem dX1_othersFrom_75 : decode cX1_othersFrom 75 = .ok (.ifCond .eq 24, 3) := by decide +kernel
theorem dX1_othersFrom_78 : decode cX1_othersFrom 78 = .ok (.iload 7, 2) := by decide +kernel
theorem dX1_othersFrom_80 : decode cX1_othersFrom 80 = .ok (.aload_n 0, 1) := by decide +kernel
theorem dX1_othersFrom_81 : decode cX1_othersFrom 81 = .ok (.getfield 9, 3) := by decide +kernel
theorem dX1_othersFrom_84 : decode cX1_othersFrom 84 = .ok (.iload_n 3, 1) := by decide +kernel
theorem dX1_othersFrom_85 : decode cX1_othersFrom 85 = .ok (.iconst 1, 1) := by decide +kernel
theorem dX1_othersFrom_86 : decode cX1_othersFrom 86 = .ok (.iadd, 1) := by decide +kernel
theorem dX1_othersFrom_87 : decode cX1_othersFrom 87 = .ok (.bipush 16, 2) := by decide +kernel
theorem dX1_othersFrom_89 : decode cX1_othersFrom 89 = .ok (.imul, 1) := by decide +kernel
theorem dX1_othersFrom_90 : decode cX1_othersFrom 90 = .ok (.iload 8, 2) := by decide +kernel
theorem dX1_othersFrom_92 : decode cX1_othersFrom 92 = .ok (.iadd, 1) := by decide +kernel
theorem dX1_othersFrom_93 : decode cX1_othersFrom 93 = .ok (.iaload, 1) := by decide +kernel
theorem dX1_othersFrom_94 : decode cX1_othersFrom 94 = .ok (.invokestatic 30, 3) := by decide +kernel
theorem dX1_othersFrom_97 : decode cX1_othersFrom 97 = .ok (.istore 7, 2) := by decide +kernel
theorem dX1_othersFrom_99 : decode cX1_othersFrom 99 = .ok (.iinc 8 1, 3) := by decide +kernel
theorem dX1_othersFrom_102 : decode cX1_othersFrom 102 = .ok (.goto (-59), 3) := by decide +kernel
theorem dX1_othersFrom_105 : decode cX1_othersFrom 105 = .ok (.sipush 1000, 3) := by decide +kernel
theorem dX1_othersFrom_108 : decode cX1_othersFrom 108 = .ok (.iload 5, 2) := by decide +kernel
theorem dX1_othersFrom_110 : decode cX1_othersFrom 110 = .ok (.iload 6, 2) := by decide +kernel
theorem dX1_othersFrom_112 : decode cX1_othersFrom 112 = .ok (.invokestatic 50, 3) := by decide +kernel
theorem dX1_othersFrom_115 : decode cX1_othersFrom 115 = .ok (.invokestatic 53, 3) := by decide +kernel
theorem dX1_othersFrom_118 : decode cX1_othersFrom 118 = .ok (.iload 7, 2) := by decide +kernel
theorem dX1_othersFrom_120 : decode cX1_othersFrom 120 = .ok (.iadd, 1) := by decide +kernel
theorem dX1_othersFrom_121 : decode cX1_othersFrom 121 = .ok (.invokestatic 30, 3) := by decide +kernel
theorem dX1_othersFrom_124 : decode cX1_othersFrom 124 = .ok (.ireturn, 1) := by decide +kernel
theorem dX1_mayFollow_0 : decode cX1_mayFollow 0 = .ok (.aload_n 1, 1) := by decide +kernel
theorem dX1_mayFollow_1 : decode cX1_mayFollow 1 = .ok (.aload_n 1, 1) := by decide +kernel
theorem dX1_mayFollow_2 : decode cX1_mayFollow 2 = .ok (.aload_n 2, 1) := by decide +kernel
theorem dX1_mayFollow_3 : decode cX1_mayFollow 3 = .ok (.iload 4, 2) := by decide +kernel
theorem dX1_mayFollow_5 : decode cX1_mayFollow 5 = .ok (.invokevirtual 36, 3) := by decide +kernel
theorem dX1_mayFollow_8 : decode cX1_mayFollow 8 = .ok (.invokevirtual 40, 3) := by decide +kernel
theorem dX1_mayFollow_11 : decode cX1_mayFollow 11 = .ok (.iload 5, 2) := by decide +kernel
theorem dX1_mayFollow_13 : decode cX1_mayFollow 13 = .ok (.invokevirtual 43, 3) := by decide +kernel
theorem dX1_mayFollow_16 : decode cX1_mayFollow 16 = .ok (.istore 6, 2) := by decide +kernel
theorem dX1_mayFollow_18 : decode cX1_mayFollow 18 = .ok (.aload_n 1, 1) := by decide +kernel
theorem dX1_mayFollow_19 : decode cX1_mayFollow 19 = .ok (.iload_n 3, 1) := by decide +kernel
theorem dX1_mayFollow_20 : decode cX1_mayFollow 20 = .ok (.iload 6, 2) := by decide +kernel
theorem dX1_mayFollow_22 : decode cX1_mayFollow 22 = .ok (.invokestatic 50, 3) := by decide +kernel
theorem dX1_mayFollow_25 : decode cX1_mayFollow 25 = .ok (.aload_n 1, 1) := by decide +kernel
theorem dX1_mayFollow_26 : decode cX1_mayFollow 26 = .ok (.invokevirtual 58, 3) := by decide +kernel
theorem dX1_mayFollow_29 : decode cX1_mayFollow 29 = .ok (.iand, 1) := by decide +kernel
theorem dX1_mayFollow_30 : decode cX1_mayFollow 30 = .ok (.iconst 0, 1) := by decide +kernel
theorem dX1_mayFollow_31 : decode cX1_mayFollow 31 = .ok (.invokevirtual 62, 3) := by decide +kernel
theorem dX1_mayFollow_34 : decode cX1_mayFollow 34 = .ok (.ireturn, 1) := by decide +kernel
theorem dX1_codeAt_0 : decode cX1_codeAt 0 = .ok (.aload_n 0, 1) := by decide +kernel
theorem dX1_codeAt_1 : decode cX1_codeAt 1 = .ok (.aload_n 1, 1) := by decide +kernel
theorem dX1_codeAt_2 : decode cX1_codeAt 2 = .ok (.aload_n 2, 1) := by decide +kernel
theorem dX1_codeAt_3 : decode cX1_codeAt 3 = .ok (.invokevirtual 66, 3) := by decide +kernel
theorem dX1_codeAt_6 : decode cX1_codeAt 6 = .ok (.istore 4, 2) := by decide +kernel
theorem dX1_codeAt_8 : decode cX1_codeAt 8 = .ok (.iconst 0, 1) := by decide +kernel
theorem dX1_codeAt_9 : decode cX1_codeAt 9 = .ok (.istore 5, 2) := by decide +kernel
theorem dX1_codeAt_11 : decode cX1_codeAt 11 = .ok (.iconst 0, 1) := by decide +kernel
theorem dX1_codeAt_12 : decode cX1_codeAt 12 = .ok (.istore 6, 2) := by decide +kernel
theorem dX1_codeAt_14 : decode cX1_codeAt 14 = .ok (.iload 6, 2) := by decide +kernel
theorem dX1_codeAt_16 : decode cX1_codeAt 16 = .ok (.iload_n 3, 1) := by decide +kernel
theorem dX1_codeAt_17 : decode cX1_codeAt 17 = .ok (.if_icmp .gt 79, 3) := by decide +kernel
theorem dX1_codeAt_20 : decode cX1_codeAt 20 = .ok (.iload 6, 2) := by decide +kernel
theorem dX1_codeAt_22 : decode cX1_codeAt 22 = .ok (.aload_n 2, 1) := by decide +kernel
theorem dX1_codeAt_23 : decode cX1_codeAt 23 = .ok (.getfield 15, 3) := by decide +kernel
theorem dX1_codeAt_26 : decode cX1_codeAt 26 = .ok (.if_icmp .ge 70, 3) := by decide +kernel
theorem dX1_codeAt_29 : decode cX1_codeAt 29 = .ok (.aload_n 0, 1) := by decide +kernel
theorem dX1_codeAt_30 : decode cX1_codeAt 30 = .ok (.aload_n 1, 1) := by decide +kernel
theorem dX1_codeAt_31 : decode cX1_codeAt 31 = .ok (.aload_n 2, 1) := by decide +kernel
theorem dX1_codeAt_32 : decode cX1_codeAt 32 = .ok (.iload 5, 2) := by decide +kernel
theorem dX1_codeAt_34 : decode cX1_codeAt 34 = .ok (.iload 6, 2) := by decide +kernel
theorem dX1_codeAt_36 : decode cX1_codeAt 36 = .ok (.iload 4, 2) := by decide +kernel
theorem dX1_codeAt_38 : decode cX1_codeAt 38 = .ok (.invokevirtual 70, 3) := by decide +kernel
theorem dX1_codeAt_41 : decode cX1_codeAt 41 = .ok (.istore 7, 2) := by decide +kernel
theorem dX1_codeAt_43 : decode cX1_codeAt 43 = .ok (.iload 7, 2) := by decide +kernel
theorem dX1_codeAt_45 : decode cX1_codeAt 45 = .ok (.bipush (-4), 2) := by decide +kernel
theorem dX1_codeAt_47 : decode cX1_codeAt 47 = .ok (.if_icmp .ne 6, 3) := by decide +kernel
theorem dX1_codeAt_50 : decode cX1_codeAt 50 = .ok (.bipush (-4), 2) := by decide +kernel
theorem dX1_codeAt_52 : decode cX1_codeAt 52 = .ok (.ireturn, 1) := by decide +kernel
theorem dX1_codeAt_53 : decode cX1_codeAt 53 = .ok (.aload_n 1, 1) := by decide +kernel
theorem dX1_codeAt_54 : decode cX1_codeAt 54 = .ok (.aload_n 2, 1) := by decide +kernel
theorem dX1_codeAt_55 : decode cX1_codeAt 55 = .ok (.iload 6, 2) := by decide +kernel
theorem dX1_codeAt_57 : decode cX1_codeAt 57 = .ok (.invokevirtual 36, 3) := by decide +kernel
theorem dX1_codeAt_60 : decode cX1_codeAt 60 = .ok (.invokevirtual 40, 3) := by decide +kernel
theorem dX1_codeAt_63 : decode cX1_codeAt 63 = .ok (.istore 8, 2) := by decide +kernel
theorem dX1_codeAt_65 : decode cX1_codeAt 65 = .ok (.aload_n 1, 1) := by decide +kernel
theorem dX1_codeAt_66 : decode cX1_codeAt 66 = .ok (.iload 8, 2) := by decide +kernel
theorem dX1_codeAt_68 : decode cX1_codeAt 68 = .ok (.iload 7, 2) := by decide +kernel
theorem dX1_codeAt_70 : decode cX1_codeAt 70 = .ok (.invokevirtual 43, 3) := by decide +kernel
theorem dX1_codeAt_73 : decode cX1_codeAt 73 = .ok (.istore 5, 2) := by decide +kernel
theorem dX1_codeAt_75 : decode cX1_codeAt 75 = .ok (.iload 4, 2) := by decide +kernel
theorem dX1_codeAt_77 : decode cX1_codeAt 77 = .ok (.iload 8, 2) := by decide +kernel
theorem dX1_codeAt_79 : decode cX1_codeAt 79 = .ok (.iload 5, 2) := by decide +kernel
theorem dX1_codeAt_81 : decode cX1_codeAt 81 = .ok (.invokestatic 50, 3) := by decide +kernel
theorem dX1_codeAt_84 : decode cX1_codeAt 84 = .ok (.invokestatic 53, 3) := by decide +kernel
theorem dX1_codeAt_87 : decode cX1_codeAt 87 = .ok (.isub, 1) := by decide +kernel
theorem dX1_codeAt_88 : decode cX1_codeAt 88 = .ok (.istore 4, 2) := by decide +kernel
theorem dX1_codeAt_90 : decode cX1_codeAt 90 = .ok (.iinc 6 1, 3) := by decide +kernel
theorem dX1_codeAt_93 : decode cX1_codeAt 93 = .ok (.goto (-79), 3) := by decide +kernel
theorem dX1_codeAt_96 : decode cX1_codeAt 96 = .ok (.aload_n 1, 1) := by decide +kernel
theorem dX1_codeAt_97 : decode cX1_codeAt 97 = .ok (.iload 5, 2) := by decide +kernel
theorem dX1_codeAt_99 : decode cX1_codeAt 99 = .ok (.invokevirtual 74, 3) := by decide +kernel
theorem dX1_codeAt_102 : decode cX1_codeAt 102 = .ok (.ireturn, 1) := by decide +kernel
theorem dX1_firstHat_0 : decode cX1_firstHat 0 = .ok (.iconst 0, 1) := by decide +kernel
theorem dX1_firstHat_1 : decode cX1_firstHat 1 = .ok (.istore 6, 2) := by decide +kernel
theorem dX1_firstHat_3 : decode cX1_firstHat 3 = .ok (.iload 6, 2) := by decide +kernel
theorem dX1_firstHat_5 : decode cX1_firstHat 5 = .ok (.aload_n 1, 1) := by decide +kernel
theorem dX1_firstHat_6 : decode cX1_firstHat 6 = .ok (.getfield 21, 3) := by decide +kernel
theorem dX1_firstHat_9 : decode cX1_firstHat 9 = .ok (.if_icmp .ge 61, 3) := by decide +kernel
theorem dX1_firstHat_12 : decode cX1_firstHat 12 = .ok (.iload 4, 2) := by decide +kernel
theorem dX1_firstHat_14 : decode cX1_firstHat 14 = .ok (.ifCond .eq 17, 3) := by decide +kernel
theorem dX1_firstHat_17 : decode cX1_firstHat 17 = .ok (.aload_n 0, 1) := by decide +kernel
theorem dX1_firstHat_18 : decode cX1_firstHat 18 = .ok (.aload_n 1, 1) := by decide +kernel
theorem dX1_firstHat_19 : decode cX1_firstHat 19 = .ok (.aload_n 2, 1) := by decide +kernel
theorem dX1_firstHat_20 : decode cX1_firstHat 20 = .ok (.iload_n 3, 1) := by decide +kernel
theorem dX1_firstHat_21 : decode cX1_firstHat 21 = .ok (.iload 4, 2) := by decide +kernel
theorem dX1_firstHat_23 : decode cX1_firstHat 23 = .ok (.iload 6, 2) := by decide +kernel
theorem dX1_firstHat_25 : decode cX1_firstHat 25 = .ok (.invokevirtual 46, 3) := by decide +kernel
theorem dX1_firstHat_28 : decode cX1_firstHat 28 = .ok (.ifCond .eq 7, 3) := by decide +kernel
theorem dX1_firstHat_31 : decode cX1_firstHat 31 = .ok (.iconst 1, 1) := by decide +kernel
theorem dX1_firstHat_32 : decode cX1_firstHat 32 = .ok (.goto 4, 3) := by decide +kernel
theorem dX1_firstHat_35 : decode cX1_firstHat 35 = .ok (.iconst 0, 1) := by decide +kernel
theorem dX1_firstHat_36 : decode cX1_firstHat 36 = .ok (.istore 7, 2) := by decide +kernel
theorem dX1_firstHat_38 : decode cX1_firstHat 38 = .ok (.iload 7, 2) := by decide +kernel
theorem dX1_firstHat_40 : decode cX1_firstHat 40 = .ok (.ifCond .eq 24, 3) := by decide +kernel
theorem dX1_firstHat_43 : decode cX1_firstHat 43 = .ok (.aload_n 0, 1) := by decide +kernel
theorem dX1_firstHat_44 : decode cX1_firstHat 44 = .ok (.getfield 9, 3) := by decide +kernel
theorem dX1_firstHat_47 : decode cX1_firstHat 47 = .ok (.iload 4, 2) := by decide +kernel
theorem dX1_firstHat_49 : decode cX1_firstHat 49 = .ok (.bipush 16, 2) := by decide +kernel
theorem dX1_firstHat_51 : decode cX1_firstHat 51 = .ok (.imul, 1) := by decide +kernel
theorem dX1_firstHat_52 : decode cX1_firstHat 52 = .ok (.iload 6, 2) := by decide +kernel
theorem dX1_firstHat_54 : decode cX1_firstHat 54 = .ok (.iadd, 1) := by decide +kernel
theorem dX1_firstHat_55 : decode cX1_firstHat 55 = .ok (.iaload, 1) := by decide +kernel
theorem dX1_firstHat_56 : decode cX1_firstHat 56 = .ok (.iload 5, 2) := by decide +kernel
theorem dX1_firstHat_58 : decode cX1_firstHat 58 = .ok (.if_icmp .ne 6, 3) := by decide +kernel
theorem dX1_firstHat_61 : decode cX1_firstHat 61 = .ok (.iload 6, 2) := by decide +kernel
theorem dX1_firstHat_63 : decode cX1_firstHat 63 = .ok (.ireturn, 1) := by decide +kernel
theorem dX1_firstHat_64 : decode cX1_firstHat 64 = .ok (.iinc 6 1, 3) := by decide +kernel
theorem dX1_firstHat_67 : decode cX1_firstHat 67 = .ok (.goto (-64), 3) := by decide +kernel
theorem dX1_firstHat_70 : decode cX1_firstHat 70 = .ok (.bipush (-4), 2) := by decide +kernel
theorem dX1_firstHat_72 : decode cX1_firstHat 72 = .ok (.ireturn, 1) := by decide +kernel
theorem dX2_init_0 : decode cX2_init 0 = .ok (.aload_n 0, 1) := by decide +kernel
theorem dX2_init_1 : decode cX2_init 1 = .ok (.invokespecial 3, 3) := by decide +kernel
theorem dX2_init_4 : decode cX2_init 4 = .ok (.aload_n 0, 1) := by decide +kernel
theorem dX2_init_5 : decode cX2_init 5 = .ok (.iconst (-1), 1) := by decide +kernel
theorem dX2_init_6 : decode cX2_init 6 = .ok (.putfield 9, 3) := by decide +kernel
theorem dX2_init_9 : decode cX2_init 9 = .ok (.return_, 1) := by decide +kernel
theorem dX2_clear_0 : decode cX2_clear 0 = .ok (.aload_n 0, 1) := by decide +kernel
theorem dX2_clear_1 : decode cX2_clear 1 = .ok (.iconst (-1), 1) := by decide +kernel
theorem dX2_clear_2 : decode cX2_clear 2 = .ok (.putfield 9, 3) := by decide +kernel
theorem dX2_clear_5 : decode cX2_clear 5 = .ok (.aload_n 0, 1) := by decide +kernel
theorem dX2_clear_6 : decode cX2_clear 6 = .ok (.iconst 0, 1) := by decide +kernel
theorem dX2_clear_7 : decode cX2_clear 7 = .ok (.putfield 15, 3) := by decide +kernel
theorem dX2_clear_10 : decode cX2_clear 10 = .ok (.return_, 1) := by decide +kernel
theorem dX2_unlikeLatest_0 : decode cX2_unlikeLatest 0 = .ok (.aload_n 0, 1) := by decide +kernel
theorem dX2_unlikeLatest_1 : decode cX2_unlikeLatest 1 = .ok (.getfield 9, 3) := by decide +kernel
theorem dX2_unlikeLatest_4 : decode cX2_unlikeLatest 4 = .ok (.iconst (-1), 1) := by decide +kernel
theorem dX2_unlikeLatest_5 : decode cX2_unlikeLatest 5 = .ok (.if_icmp .ne 7, 3) := by decide +kernel
theorem dX2_unlikeLatest_8 : decode cX2_unlikeLatest 8 = .ok (.iconst 0, 1) := by decide +kernel
theorem dX2_unlikeLatest_9 : decode cX2_unlikeLatest 9 = .ok (.goto 12, 3) := by decide +kernel
theorem dX2_unlikeLatest_12 : decode cX2_unlikeLatest 12 = .ok (.aload_n 1, 1) := by decide +kernel
theorem dX2_unlikeLatest_13 : decode cX2_unlikeLatest 13 = .ok (.aload_n 0, 1) := by decide +kernel
theorem dX2_unlikeLatest_14 : decode cX2_unlikeLatest 14 = .ok (.getfield 9, 3) := by decide +kernel
theorem dX2_unlikeLatest_17 : decode cX2_unlikeLatest 17 = .ok (.iload_n 2, 1) := by decide +kernel
theorem dX2_unlikeLatest_18 : decode cX2_unlikeLatest 18 = .ok (.invokevirtual 18, 3) := by decide +kernel
theorem dX2_unlikeLatest_21 : decode cX2_unlikeLatest 21 = .ok (.ireturn, 1) := by decide +kernel
theorem dX2_lets_0 : decode cX2_lets 0 = .ok (.aload_n 0, 1) := by decide +kernel
theorem dX2_lets_1 : decode cX2_lets 1 = .ok (.getfield 9, 3) := by decide +kernel
theorem dX2_lets_4 : decode cX2_lets 4 = .ok (.iconst (-1), 1) := by decide +kernel
theorem dX2_lets_5 : decode cX2_lets 5 = .ok (.if_icmp .eq 20, 3) := by decide +kernel
theorem dX2_lets_8 : decode cX2_lets 8 = .ok (.aload_n 1, 1) := by decide +kernel
theorem dX2_lets_9 : decode cX2_lets 9 = .ok (.aload_n 0, 1) := by decide +kernel
theorem dX2_lets_10 : decode cX2_lets 10 = .ok (.aload_n 1, 1) := by decide +kernel
theorem dX2_lets_11 : decode cX2_lets 11 = .ok (.iload_n 2, 1) := by decide +kernel
theorem dX2_lets_12 : decode cX2_lets 12 = .ok (.invokevirtual 24, 3) := by decide +kernel
theorem dX2_lets_15 : decode cX2_lets 15 = .ok (.aload_n 0, 1) := by decide +kernel
theorem dX2_lets_16 : decode cX2_lets 16 = .ok (.getfield 15, 3) := by decide +kernel
theorem dX2_lets_19 : decode cX2_lets 19 = .ok (.invokevirtual 28, 3) := by decide +kernel
theorem dX2_lets_22 : decode cX2_lets 22 = .ok (.ifCond .eq 7, 3) := by decide +kernel
theorem dX2_lets_25 : decode cX2_lets 25 = .ok (.iconst 1, 1) := by decide +kernel
theorem dX2_lets_26 : decode cX2_lets 26 = .ok (.goto 4, 3) := by decide +kernel
theorem dX2_lets_29 : decode cX2_lets 29 = .ok (.iconst 0, 1) := by decide +kernel
theorem dX2_lets_30 : decode cX2_lets 30 = .ok (.ireturn, 1) := by decide +kernel
theorem dX2_take_0 : decode cX2_take 0 = .ok (.aload_n 0, 1) := by decide +kernel
theorem dX2_take_1 : decode cX2_take 1 = .ok (.aload_n 0, 1) := by decide +kernel
theorem dX2_take_2 : decode cX2_take 2 = .ok (.aload_n 1, 1) := by decide +kernel
theorem dX2_take_3 : decode cX2_take 3 = .ok (.iload_n 2, 1) := by decide +kernel
theorem dX2_take_4 : decode cX2_take 4 = .ok (.invokevirtual 24, 3) := by decide +kernel
theorem dX2_take_7 : decode cX2_take 7 = .ok (.putfield 15, 3) := by decide +kernel
theorem dX2_take_10 : decode cX2_take 10 = .ok (.aload_n 0, 1) := by decide +kernel
theorem dX2_take_11 : decode cX2_take 11 = .ok (.iload_n 2, 1) := by decide +kernel
theorem dX2_take_12 : decode cX2_take 12 = .ok (.putfield 9, 3) := by decide +kernel
theorem dX2_take_15 : decode cX2_take 15 = .ok (.return_, 1) := by decide +kernel
theorem dX3_init_0 : decode cX3_init 0 = .ok (.aload_n 0, 1) := by decide +kernel
theorem dX3_init_1 : decode cX3_init 1 = .ok (.invokespecial 3, 3) := by decide +kernel
theorem dX3_init_4 : decode cX3_init 4 = .ok (.aload_n 0, 1) := by decide +kernel
theorem dX3_init_5 : decode cX3_init 5 = .ok (.sipush 4608, 3) := by decide +kernel
theorem dX3_init_8 : decode cX3_init 8 = .ok (.newarray .int, 2) := by decide +kernel
theorem dX3_init_10 : decode cX3_init 10 = .ok (.putfield 9, 3) := by decide +kernel
theorem dX3_init_13 : decode cX3_init 13 = .ok (.return_, 1) := by decide +kernel
theorem dX3_forget_0 : decode cX3_forget 0 = .ok (.aload_n 0, 1) := by decide +kernel
theorem dX3_forget_1 : decode cX3_forget 1 = .ok (.iconst 0, 1) := by decide +kernel
theorem dX3_forget_2 : decode cX3_forget 2 = .ok (.putfield 15, 3) := by decide +kernel
theorem dX3_forget_5 : decode cX3_forget 5 = .ok (.return_, 1) := by decide +kernel
theorem dX3_most_0 : decode cX3_most 0 = .ok (.aload_n 0, 1) := by decide +kernel
theorem dX3_most_1 : decode cX3_most 1 = .ok (.getfield 15, 3) := by decide +kernel
theorem dX3_most_4 : decode cX3_most 4 = .ok (.ifCond .ne 8, 3) := by decide +kernel
theorem dX3_most_7 : decode cX3_most 7 = .ok (.aload_n 0, 1) := by decide +kernel
theorem dX3_most_8 : decode cX3_most 8 = .ok (.aload_n 1, 1) := by decide +kernel
theorem dX3_most_9 : decode cX3_most 9 = .ok (.invokevirtual 19, 3) := by decide +kernel
theorem dX3_most_12 : decode cX3_most 12 = .ok (.iconst 0, 1) := by decide +kernel
theorem dX3_most_13 : decode cX3_most 13 = .ok (.istore_n 3, 1) := by decide +kernel
theorem dX3_most_14 : decode cX3_most 14 = .ok (.iconst 0, 1) := by decide +kernel
theorem dX3_most_15 : decode cX3_most 15 = .ok (.istore 4, 2) := by decide +kernel
theorem dX3_most_17 : decode cX3_most 17 = .ok (.iload 4, 2) := by decide +kernel
theorem dX3_most_19 : decode cX3_most 19 = .ok (.aload_n 1, 1) := by decide +kernel
theorem dX3_most_20 : decode cX3_most 20 = .ok (.getfield 23, 3) := by decide +kernel
theorem dX3_most_23 : decode cX3_most 23 = .ok (.if_icmp .ge 22, 3) := by decide +kernel
theorem dX3_most_26 : decode cX3_most 26 = .ok (.iload_n 3, 1) := by decide +kernel
theorem dX3_most_27 : decode cX3_most 27 = .ok (.aload_n 0, 1) := by decide +kernel
theorem dX3_most_28 : decode cX3_most 28 = .ok (.iload_n 2, 1) := by decide +kernel
theorem dX3_most_29 : decode cX3_most 29 = .ok (.iload 4, 2) := by decide +kernel
theorem dX3_most_31 : decode cX3_most 31 = .ok (.iconst 0, 1) := by decide +kernel
theorem dX3_most_32 : decode cX3_most 32 = .ok (.invokevirtual 29, 3) := by decide +kernel
theorem dX3_most_35 : decode cX3_most 35 = .ok (.invokestatic 33, 3) := by decide +kernel
theorem dX3_most_38 : decode cX3_most 38 = .ok (.istore_n 3, 1) := by decide +kernel
theorem dX3_most_39 : decode cX3_most 39 = .ok (.iinc 4 1, 3) := by decide +kernel
theorem dX3_most_42 : decode cX3_most 42 = .ok (.goto (-25), 3) := by decide +kernel
theorem dX3_most_45 : decode cX3_most 45 = .ok (.iload_n 3, 1) := by decide +kernel
theorem dX3_most_46 : decode cX3_most 46 = .ok (.ireturn, 1) := by decide +kernel
theorem dX3_length_0 : decode cX3_length 0 = .ok (.iload_n 1, 1) := by decide +kernel
theorem dX3_length_1 : decode cX3_length 1 = .ok (.iload_n 2, 1) := by decide +kernel
theorem dX3_length_2 : decode cX3_length 2 = .ok (.iushr, 1) := by decide +kernel
theorem dX3_length_3 : decode cX3_length 3 = .ok (.iconst 1, 1) := by decide +kernel
theorem dX3_length_4 : decode cX3_length 4 = .ok (.iand, 1) := by decide +kernel
theorem dX3_length_5 : decode cX3_length 5 = .ok (.ifCond .ne 5, 3) := by decide +kernel
theorem dX3_length_8 : decode cX3_length 8 = .ok (.iconst 0, 1) := by decide +kernel
theorem dX3_length_9 : decode cX3_length 9 = .ok (.ireturn, 1) := by decide +kernel
theorem dX3_length_10 : decode cX3_length 10 = .ok (.aload_n 0, 1) := by decide +kernel
theorem dX3_length_11 : decode cX3_length 11 = .ok (.getfield 9, 3) := by decide +kernel
theorem dX3_length_14 : decode cX3_length 14 = .ok (.iload_n 1, 1) := by decide +kernel
theorem dX3_length_15 : decode cX3_length 15 = .ok (.bipush 9, 2) := by decide +kernel
theorem dX3_length_17 : decode cX3_length 17 = .ok (.imul, 1) := by decide +kernel
theorem dX3_length_18 : decode cX3_length 18 = .ok (.iload_n 2, 1) := by decide +kernel
theorem dX3_length_19 : decode cX3_length 19 = .ok (.iadd, 1) := by decide +kernel
theorem dX3_length_20 : decode cX3_length 20 = .ok (.iaload, 1) := by decide +kernel
theorem dX3_length_21 : decode cX3_length 21 = .ok (.iconst 4, 1) := by decide +kernel
theorem dX3_length_22 : decode cX3_length 22 = .ok (.iload_n 3, 1) := by decide +kernel
theorem dX3_length_23 : decode cX3_length 23 = .ok (.imul, 1) := by decide +kernel
theorem dX3_length_24 : decode cX3_length 24 = .ok (.iushr, 1) := by decide +kernel
theorem dX3_length_25 : decode cX3_length 25 = .ok (.bipush 15, 2) := by decide +kernel
theorem dX3_length_27 : decode cX3_length 27 = .ok (.iand, 1) := by decide +kernel
theorem dX3_length_28 : decode cX3_length 28 = .ok (.ireturn, 1) := by decide +kernel
theorem dX3_fill_0 : decode cX3_fill 0 = .ok (.iconst 1, 1) := by decide +kernel
theorem dX3_fill_1 : decode cX3_fill 1 = .ok (.istore_n 2, 1) := by decide +kernel
theorem dX3_fill_2 : decode cX3_fill 2 = .ok (.iload_n 2, 1) := by decide +kernel
theorem dX3_fill_3 : decode cX3_fill 3 = .ok (.iconst 1, 1) := by decide +kernel
theorem dX3_fill_4 : decode cX3_fill 4 = .ok (.aload_n 1, 1) := by decide +kernel
theorem dX3_fill_5 : decode cX3_fill 5 = .ok (.getfield 23, 3) := by decide +kernel
theorem dX3_fill_8 : decode cX3_fill 8 = .ok (.ishl, 1) := by decide +kernel
theorem dX3_fill_9 : decode cX3_fill 9 = .ok (.if_icmp .ge 78, 3) := by decide +kernel
theorem dX3_fill_12 : decode cX3_fill 12 = .ok (.iconst 0, 1) := by decide +kernel
theorem dX3_fill_13 : decode cX3_fill 13 = .ok (.istore_n 3, 1) := by decide +kernel
theorem dX3_fill_14 : decode cX3_fill 14 = .ok (.iload_n 3, 1) := by decide +kernel
theorem dX3_fill_15 : decode cX3_fill 15 = .ok (.aload_n 1, 1) := by decide +kernel
theorem dX3_fill_16 : decode cX3_fill 16 = .ok (.getfield 23, 3) := by decide +kernel
theorem dX3_fill_19 : decode cX3_fill 19 = .ok (.if_icmp .ge 62, 3) := by decide +kernel
theorem dX3_fill_22 : decode cX3_fill 22 = .ok (.iconst 0, 1) := by decide +kernel
theorem dX3_fill_23 : decode cX3_fill 23 = .ok (.istore 4, 2) := by decide +kernel
theorem dX3_fill_25 : decode cX3_fill 25 = .ok (.iconst 0, 1) := by decide +kernel
theorem dX3_fill_26 : decode cX3_fill 26 = .ok (.istore 5, 2) := by decide +kernel
theorem dX3_fill_28 : decode cX3_fill 28 = .ok (.iload 5, 2) := by decide +kernel
theorem dX3_fill_30 : decode cX3_fill 30 = .ok (.aload_n 1, 1) := by decide +kernel
theorem dX3_fill_31 : decode cX3_fill 31 = .ok (.invokevirtual 39, 3) := by decide +kernel
theorem dX3_fill_34 : decode cX3_fill 34 = .ok (.if_icmp .ge 28, 3) := by decide +kernel
theorem dX3_fill_37 : decode cX3_fill 37 = .ok (.iload 4, 2) := by decide +kernel
theorem dX3_fill_39 : decode cX3_fill 39 = .ok (.aload_n 0, 1) := by decide +kernel
theorem dX3_fill_40 : decode cX3_fill 40 = .ok (.aload_n 1, 1) := by decide +kernel
theorem dX3_fill_41 : decode cX3_fill 41 = .ok (.iload_n 2, 1) := by decide +kernel
theorem dX3_fill_42 : decode cX3_fill 42 = .ok (.iload_n 3, 1) := by decide +kernel
theorem dX3_fill_43 : decode cX3_fill 43 = .ok (.iload 5, 2) := by decide +kernel
theorem dX3_fill_45 : decode cX3_fill 45 = .ok (.invokevirtual 43, 3) := by decide +kernel
theorem dX3_fill_48 : decode cX3_fill 48 = .ok (.iconst 4, 1) := by decide +kernel
theorem dX3_fill_49 : decode cX3_fill 49 = .ok (.iload 5, 2) := by decide +kernel
theorem dX3_fill_51 : decode cX3_fill 51 = .ok (.imul, 1) := by decide +kernel
theorem dX3_fill_52 : decode cX3_fill 52 = .ok (.ishl, 1) := by decide +kernel
theorem dX3_fill_53 : decode cX3_fill 53 = .ok (.ior, 1) := by decide +kernel
theorem dX3_fill_54 : decode cX3_fill 54 = .ok (.istore 4, 2) := by decide +kernel
theorem dX3_fill_56 : decode cX3_fill 56 = .ok (.iinc 5 1, 3) := by decide +kernel
theorem dX3_fill_59 : decode cX3_fill 59 = .ok (.goto (-31), 3) := by decide +kernel
theorem dX3_fill_62 : decode cX3_fill 62 = .ok (.aload_n 0, 1) := by decide +kernel
theorem dX3_fill_63 : decode cX3_fill 63 = .ok (.getfield 9, 3) := by decide +kernel
theorem dX3_fill_66 : decode cX3_fill 66 = .ok (.iload_n 2, 1) := by decide +kernel
theorem dX3_fill_67 : decode cX3_fill 67 = .ok (.bipush 9, 2) := by decide +kernel
theorem dX3_fill_69 : decode cX3_fill 69 = .ok (.imul, 1) := by decide +kernel
theorem dX3_fill_70 : decode cX3_fill 70 = .ok (.iload_n 3, 1) := by decide +kernel
theorem dX3_fill_71 : decode cX3_fill 71 = .ok (.iadd, 1) := by decide +kernel
theorem dX3_fill_72 : decode cX3_fill 72 = .ok (.iload 4, 2) := by decide +kernel
theorem dX3_fill_74 : decode cX3_fill 74 = .ok (.iastore, 1) := by decide +kernel
theorem dX3_fill_75 : decode cX3_fill 75 = .ok (.iinc 3 1, 3) := by decide +kernel
theorem dX3_fill_78 : decode cX3_fill 78 = .ok (.goto (-64), 3) := by decide +kernel
theorem dX3_fill_81 : decode cX3_fill 81 = .ok (.iinc 2 1, 3) := by decide +kernel
theorem dX3_fill_84 : decode cX3_fill 84 = .ok (.goto (-82), 3) := by decide +kernel
theorem dX3_fill_87 : decode cX3_fill 87 = .ok (.aload_n 0, 1) := by decide +kernel
theorem dX3_fill_88 : decode cX3_fill 88 = .ok (.iconst 1, 1) := by decide +kernel
theorem dX3_fill_89 : decode cX3_fill 89 = .ok (.putfield 15, 3) := by decide +kernel
theorem dX3_fill_92 : decode cX3_fill 92 = .ok (.return_, 1) := by decide +kernel
theorem dX3_lengthFrom_0 : decode cX3_lengthFrom 0 = .ok (.iload_n 2, 1) := by decide +kernel
theorem dX3_lengthFrom_1 : decode cX3_lengthFrom 1 = .ok (.iload_n 3, 1) := by decide +kernel
theorem dX3_lengthFrom_2 : decode cX3_lengthFrom 2 = .ok (.iushr, 1) := by decide +kernel
theorem dX3_lengthFrom_3 : decode cX3_lengthFrom 3 = .ok (.iconst 1, 1) := by decide +kernel
theorem dX3_lengthFrom_4 : decode cX3_lengthFrom 4 = .ok (.iand, 1) := by decide +kernel
theorem dX3_lengthFrom_5 : decode cX3_lengthFrom 5 = .ok (.ifCond .ne 5, 3) := by decide +kernel
theorem dX3_lengthFrom_8 : decode cX3_lengthFrom 8 = .ok (.iconst 0, 1) := by decide +kernel
theorem dX3_lengthFrom_9 : decode cX3_lengthFrom 9 = .ok (.ireturn, 1) := by decide +kernel
theorem dX3_lengthFrom_10 : decode cX3_lengthFrom 10 = .ok (.iload_n 2, 1) := by decide +kernel
theorem dX3_lengthFrom_11 : decode cX3_lengthFrom 11 = .ok (.iconst 1, 1) := by decide +kernel
theorem dX3_lengthFrom_12 : decode cX3_lengthFrom 12 = .ok (.iload_n 3, 1) := by decide +kernel
theorem dX3_lengthFrom_13 : decode cX3_lengthFrom 13 = .ok (.ishl, 1) := by decide +kernel
theorem dX3_lengthFrom_14 : decode cX3_lengthFrom 14 = .ok (.iconst (-1), 1) := by decide +kernel
theorem dX3_lengthFrom_15 : decode cX3_lengthFrom 15 = .ok (.ixor, 1) := by decide +kernel
theorem dX3_lengthFrom_16 : decode cX3_lengthFrom 16 = .ok (.iand, 1) := by decide +kernel
theorem dX3_lengthFrom_17 : decode cX3_lengthFrom 17 = .ok (.istore 5, 2) := by decide +kernel
theorem dX3_lengthFrom_19 : decode cX3_lengthFrom 19 = .ok (.iconst 0, 1) := by decide +kernel
theorem dX3_lengthFrom_20 : decode cX3_lengthFrom 20 = .ok (.istore 6, 2) := by decide +kernel
theorem dX3_lengthFrom_22 : decode cX3_lengthFrom 22 = .ok (.iconst 0, 1) := by decide +kernel
theorem dX3_lengthFrom_23 : decode cX3_lengthFrom 23 = .ok (.istore 7, 2) := by decide +kernel
theorem dX3_lengthFrom_25 : decode cX3_lengthFrom 25 = .ok (.iload 7, 2) := by decide +kernel
theorem dX3_lengthFrom_27 : decode cX3_lengthFrom 27 = .ok (.aload_n 1, 1) := by decide +kernel
theorem dX3_lengthFrom_28 : decode cX3_lengthFrom 28 = .ok (.getfield 23, 3) := by decide +kernel
theorem dX3_lengthFrom_31 : decode cX3_lengthFrom 31 = .ok (.if_icmp .ge 53, 3) := by decide +kernel
theorem dX3_lengthFrom_34 : decode cX3_lengthFrom 34 = .ok (.aload_n 1, 1) := by decide +kernel
theorem dX3_lengthFrom_35 : decode cX3_lengthFrom 35 = .ok (.iload_n 3, 1) := by decide +kernel
theorem dX3_lengthFrom_36 : decode cX3_lengthFrom 36 = .ok (.iload 7, 2) := by decide +kernel
theorem dX3_lengthFrom_38 : decode cX3_lengthFrom 38 = .ok (.invokevirtual 47, 3) := by decide +kernel
theorem dX3_lengthFrom_41 : decode cX3_lengthFrom 41 = .ok (.istore 8, 2) := by decide +kernel
theorem dX3_lengthFrom_43 : decode cX3_lengthFrom 43 = .ok (.aload_n 1, 1) := by decide +kernel
theorem dX3_lengthFrom_44 : decode cX3_lengthFrom 44 = .ok (.iload 8, 2) := by decide +kernel
theorem dX3_lengthFrom_46 : decode cX3_lengthFrom 46 = .ok (.iload 4, 2) := by decide +kernel
theorem dX3_lengthFrom_48 : decode cX3_lengthFrom 48 = .ok (.invokestatic 50, 3) := by decide +kernel
theorem dX3_lengthFrom_51 : decode cX3_lengthFrom 51 = .ok (.invokevirtual 54, 3) := by decide +kernel
theorem dX3_lengthFrom_54 : decode cX3_lengthFrom 54 = .ok (.ifCond .eq 24, 3) := by decide +kernel
theorem dX3_lengthFrom_57 : decode cX3_lengthFrom 57 = .ok (.iload 6, 2) := by decide +kernel
theorem dX3_lengthFrom_59 : decode cX3_lengthFrom 59 = .ok (.aload_n 0, 1) := by decide +kernel
theorem dX3_lengthFrom_60 : decode cX3_lengthFrom 60 = .ok (.iload 5, 2) := by decide +kernel
theorem dX3_lengthFrom_62 : decode cX3_lengthFrom 62 = .ok (.iload 7, 2) := by decide +kernel
theorem dX3_lengthFrom_64 : decode cX3_lengthFrom 64 = .ok (.aload_n 1, 1) := by decide +kernel
theorem dX3_lengthFrom_65 : decode cX3_lengthFrom 65 = .ok (.iload 8, 2) := by decide +kernel
theorem dX3_lengthFrom_67 : decode cX3_lengthFrom 67 = .ok (.invokevirtual 58, 3) := by decide +kernel
theorem dX3_lengthFrom_70 : decode cX3_lengthFrom 70 = .ok (.invokevirtual 29, 3) := by decide +kernel
theorem dX3_lengthFrom_73 : decode cX3_lengthFrom 73 = .ok (.invokestatic 33, 3) := by decide +kernel
theorem dX3_lengthFrom_76 : decode cX3_lengthFrom 76 = .ok (.istore 6, 2) := by decide +kernel
theorem dX3_lengthFrom_78 : decode cX3_lengthFrom 78 = .ok (.iinc 7 1, 3) := by decide +kernel
theorem dX3_lengthFrom_81 : decode cX3_lengthFrom 81 = .ok (.goto (-56), 3) := by decide +kernel
theorem dX3_lengthFrom_84 : decode cX3_lengthFrom 84 = .ok (.iload 6, 2) := by decide +kernel
theorem dX3_lengthFrom_86 : decode cX3_lengthFrom 86 = .ok (.iconst 1, 1) := by decide +kernel
theorem dX3_lengthFrom_87 : decode cX3_lengthFrom 87 = .ok (.iadd, 1) := by decide +kernel
theorem dX3_lengthFrom_88 : decode cX3_lengthFrom 88 = .ok (.ireturn, 1) := by decide +kernel
theorem dX3_personAt_0 : decode cX3_personAt 0 = .ok (.iload_n 3, 1) := by decide +kernel
theorem dX3_personAt_1 : decode cX3_personAt 1 = .ok (.istore 6, 2) := by decide +kernel
theorem dX3_personAt_3 : decode cX3_personAt 3 = .ok (.aload_n 2, 1) := by decide +kernel
theorem dX3_personAt_4 : decode cX3_personAt 4 = .ok (.invokevirtual 61, 3) := by decide +kernel
theorem dX3_personAt_7 : decode cX3_personAt 7 = .ok (.iconst 0, 1) := by decide +kernel
theorem dX3_personAt_8 : decode cX3_personAt 8 = .ok (.istore 7, 2) := by decide +kernel
theorem dX3_personAt_10 : decode cX3_personAt 10 = .ok (.iload 7, 2) := by decide +kernel
theorem dX3_personAt_12 : decode cX3_personAt 12 = .ok (.iload 5, 2) := by decide +kernel
theorem dX3_personAt_14 : decode cX3_personAt 14 = .ok (.if_icmp .gt 58, 3) := by decide +kernel
theorem dX3_personAt_17 : decode cX3_personAt 17 = .ok (.iload 7, 2) := by decide +kernel
theorem dX3_personAt_19 : decode cX3_personAt 19 = .ok (.iload 4, 2) := by decide +kernel
theorem dX3_personAt_21 : decode cX3_personAt 21 = .ok (.if_icmp .ge 51, 3) := by decide +kernel
theorem dX3_personAt_24 : decode cX3_personAt 24 = .ok (.aload_n 0, 1) := by decide +kernel
theorem dX3_personAt_25 : decode cX3_personAt 25 = .ok (.aload_n 1, 1) := by decide +kernel
theorem dX3_personAt_26 : decode cX3_personAt 26 = .ok (.aload_n 2, 1) := by decide +kernel
theorem dX3_personAt_27 : decode cX3_personAt 27 = .ok (.iload 6, 2) := by decide +kernel
theorem dX3_personAt_29 : decode cX3_personAt 29 = .ok (.iload 4, 2) := by decide +kernel
theorem dX3_personAt_31 : decode cX3_personAt 31 = .ok (.iload 7, 2) := by decide +kernel
theorem dX3_personAt_33 : decode cX3_personAt 33 = .ok (.isub, 1) := by decide +kernel
theorem dX3_personAt_34 : decode cX3_personAt 34 = .ok (.invokevirtual 66, 3) := by decide +kernel
theorem dX3_personAt_37 : decode cX3_personAt 37 = .ok (.istore 8, 2) := by decide +kernel
theorem dX3_personAt_39 : decode cX3_personAt 39 = .ok (.iload 8, 2) := by decide +kernel
theorem dX3_personAt_41 : decode cX3_personAt 41 = .ok (.iconst (-1), 1) := by decide +kernel
theorem dX3_personAt_42 : decode cX3_personAt 42 = .ok (.if_icmp .ne 6, 3) := by decide +kernel
theorem dX3_personAt_45 : decode cX3_personAt 45 = .ok (.bipush (-4), 2) := by decide +kernel
theorem dX3_personAt_47 : decode cX3_personAt 47 = .ok (.ireturn, 1) := by decide +kernel
theorem dX3_personAt_48 : decode cX3_personAt 48 = .ok (.aload_n 2, 1) := by decide +kernel
theorem dX3_personAt_49 : decode cX3_personAt 49 = .ok (.aload_n 1, 1) := by decide +kernel
theorem dX3_personAt_50 : decode cX3_personAt 50 = .ok (.iload 8, 2) := by decide +kernel
theorem dX3_personAt_52 : decode cX3_personAt 52 = .ok (.invokevirtual 70, 3) := by decide +kernel
theorem dX3_personAt_55 : decode cX3_personAt 55 = .ok (.iload 6, 2) := by decide +kernel
theorem dX3_personAt_57 : decode cX3_personAt 57 = .ok (.iconst 1, 1) := by decide +kernel
theorem dX3_personAt_58 : decode cX3_personAt 58 = .ok (.iload 8, 2) := by decide +kernel
theorem dX3_personAt_60 : decode cX3_personAt 60 = .ok (.ishl, 1) := by decide +kernel
theorem dX3_personAt_61 : decode cX3_personAt 61 = .ok (.iconst (-1), 1) := by decide +kernel
theorem dX3_personAt_62 : decode cX3_personAt 62 = .ok (.ixor, 1) := by decide +kernel
theorem dX3_personAt_63 : decode cX3_personAt 63 = .ok (.iand, 1) := by decide +kernel
theorem dX3_personAt_64 : decode cX3_personAt 64 = .ok (.istore 6, 2) := by decide +kernel
theorem dX3_personAt_66 : decode cX3_personAt 66 = .ok (.iinc 7 1, 3) := by decide +kernel
theorem dX3_personAt_69 : decode cX3_personAt 69 = .ok (.goto (-59), 3) := by decide +kernel
theorem dX3_personAt_72 : decode cX3_personAt 72 = .ok (.aload_n 2, 1) := by decide +kernel
theorem dX3_personAt_73 : decode cX3_personAt 73 = .ok (.getfield 74, 3) := by decide +kernel
theorem dX3_personAt_76 : decode cX3_personAt 76 = .ok (.ireturn, 1) := by decide +kernel
theorem dX3_firstWith_0 : decode cX3_firstWith 0 = .ok (.iconst 0, 1) := by decide +kernel
theorem dX3_firstWith_1 : decode cX3_firstWith 1 = .ok (.istore 5, 2) := by decide +kernel
theorem dX3_firstWith_3 : decode cX3_firstWith 3 = .ok (.iload 5, 2) := by decide +kernel
theorem dX3_firstWith_5 : decode cX3_firstWith 5 = .ok (.aload_n 1, 1) := by decide +kernel
theorem dX3_firstWith_6 : decode cX3_firstWith 6 = .ok (.getfield 23, 3) := by decide +kernel
theorem dX3_firstWith_9 : decode cX3_firstWith 9 = .ok (.if_icmp .ge 49, 3) := by decide +kernel
theorem dX3_firstWith_12 : decode cX3_firstWith 12 = .ok (.aload_n 1, 1) := by decide +kernel
theorem dX3_firstWith_13 : decode cX3_firstWith 13 = .ok (.aload_n 2, 1) := by decide +kernel
theorem dX3_firstWith_14 : decode cX3_firstWith 14 = .ok (.aload_n 1, 1) := by decide +kernel
theorem dX3_firstWith_15 : decode cX3_firstWith 15 = .ok (.iload 5, 2) := by decide +kernel
theorem dX3_firstWith_17 : decode cX3_firstWith 17 = .ok (.invokevirtual 77, 3) := by decide +kernel
theorem dX3_firstWith_20 : decode cX3_firstWith 20 = .ok (.invokevirtual 58, 3) := by decide +kernel
theorem dX3_firstWith_23 : decode cX3_firstWith 23 = .ok (.istore 6, 2) := by decide +kernel
theorem dX3_firstWith_25 : decode cX3_firstWith 25 = .ok (.aload_n 2, 1) := by decide +kernel
theorem dX3_firstWith_26 : decode cX3_firstWith 26 = .ok (.aload_n 1, 1) := by decide +kernel
theorem dX3_firstWith_27 : decode cX3_firstWith 27 = .ok (.iload 5, 2) := by decide +kernel
theorem dX3_firstWith_29 : decode cX3_firstWith 29 = .ok (.invokevirtual 81, 3) := by decide +kernel
theorem dX3_firstWith_32 : decode cX3_firstWith 32 = .ok (.ifCond .eq 20, 3) := by decide +kernel
theorem dX3_firstWith_35 : decode cX3_firstWith 35 = .ok (.aload_n 0, 1) := by decide +kernel
theorem dX3_firstWith_36 : decode cX3_firstWith 36 = .ok (.iload_n 3, 1) := by decide +kernel
theorem dX3_firstWith_37 : decode cX3_firstWith 37 = .ok (.iload 5, 2) := by decide +kernel
theorem dX3_firstWith_39 : decode cX3_firstWith 39 = .ok (.iload 6, 2) := by decide +kernel
theorem dX3_firstWith_41 : decode cX3_firstWith 41 = .ok (.invokevirtual 29, 3) := by decide +kernel
theorem dX3_firstWith_44 : decode cX3_firstWith 44 = .ok (.iload 4, 2) := by decide +kernel
theorem dX3_firstWith_46 : decode cX3_firstWith 46 = .ok (.if_icmp .ne 6, 3) := by decide +kernel
theorem dX3_firstWith_49 : decode cX3_firstWith 49 = .ok (.iload 5, 2) := by decide +kernel
theorem dX3_firstWith_51 : decode cX3_firstWith 51 = .ok (.ireturn, 1) := by decide +kernel
theorem dX3_firstWith_52 : decode cX3_firstWith 52 = .ok (.iinc 5 1, 3) := by decide +kernel
theorem dX3_firstWith_55 : decode cX3_firstWith 55 = .ok (.goto (-52), 3) := by decide +kernel
theorem dX3_firstWith_58 : decode cX3_firstWith 58 = .ok (.iconst (-1), 1) := by decide +kernel
theorem dX3_firstWith_59 : decode cX3_firstWith 59 = .ok (.ireturn, 1) := by decide +kernel
theorem dX4_init_0 : decode cX4_init 0 = .ok (.aload_n 0, 1) := by decide +kernel
theorem dX4_init_1 : decode cX4_init 1 = .ok (.invokespecial 3, 3) := by decide +kernel
theorem dX4_init_4 : decode cX4_init 4 = .ok (.aload_n 0, 1) := by decide +kernel
theorem dX4_init_5 : decode cX4_init 5 = .ok (.bipush 16, 2) := by decide +kernel
theorem dX4_init_7 : decode cX4_init 7 = .ok (.newarray .int, 2) := by decide +kernel
theorem dX4_init_9 : decode cX4_init 9 = .ok (.putfield 9, 3) := by decide +kernel
theorem dX4_init_12 : decode cX4_init 12 = .ok (.return_, 1) := by decide +kernel
theorem dX4_append_0 : decode cX4_append 0 = .ok (.aload_n 0, 1) := by decide +kernel
theorem dX4_append_1 : decode cX4_append 1 = .ok (.getfield 15, 3) := by decide +kernel
theorem dX4_append_4 : decode cX4_append 4 = .ok (.bipush 16, 2) := by decide +kernel
theorem dX4_append_6 : decode cX4_append 6 = .ok (.if_icmp .lt 5, 3) := by decide +kernel
theorem dX4_append_9 : decode cX4_append 9 = .ok (.iconst 0, 1) := by decide +kernel
theorem dX4_append_10 : decode cX4_append 10 = .ok (.ireturn, 1) := by decide +kernel
theorem dX4_append_11 : decode cX4_append 11 = .ok (.aload_n 0, 1) := by decide +kernel
theorem dX4_append_12 : decode cX4_append 12 = .ok (.getfield 9, 3) := by decide +kernel
theorem dX4_append_15 : decode cX4_append 15 = .ok (.aload_n 0, 1) := by decide +kernel
theorem dX4_append_16 : decode cX4_append 16 = .ok (.getfield 15, 3) := by decide +kernel
theorem dX4_append_19 : decode cX4_append 19 = .ok (.iload_n 1, 1) := by decide +kernel
theorem dX4_append_20 : decode cX4_append 20 = .ok (.iastore, 1) := by decide +kernel
theorem dX4_append_21 : decode cX4_append 21 = .ok (.aload_n 0, 1) := by decide +kernel
theorem dX4_append_22 : decode cX4_append 22 = .ok (.dup, 1) := by decide +kernel
theorem dX4_append_23 : decode cX4_append 23 = .ok (.getfield 15, 3) := by decide +kernel
theorem dX4_append_26 : decode cX4_append 26 = .ok (.iconst 1, 1) := by decide +kernel
theorem dX4_append_27 : decode cX4_append 27 = .ok (.iadd, 1) := by decide +kernel
theorem dX4_append_28 : decode cX4_append 28 = .ok (.putfield 15, 3) := by decide +kernel
theorem dX4_append_31 : decode cX4_append 31 = .ok (.iconst 1, 1) := by decide +kernel
theorem dX4_append_32 : decode cX4_append 32 = .ok (.ireturn, 1) := by decide +kernel
theorem dX4_at_0 : decode cX4_at 0 = .ok (.iload_n 1, 1) := by decide +kernel
theorem dX4_at_1 : decode cX4_at 1 = .ok (.ifCond .lt 20, 3) := by decide +kernel
theorem dX4_at_4 : decode cX4_at 4 = .ok (.iload_n 1, 1) := by decide +kernel
theorem dX4_at_5 : decode cX4_at 5 = .ok (.aload_n 0, 1) := by decide +kernel
theorem dX4_at_6 : decode cX4_at 6 = .ok (.getfield 15, 3) := by decide +kernel
theorem dX4_at_9 : decode cX4_at 9 = .ok (.if_icmp .ge 12, 3) := by decide +kernel
theorem dX4_at_12 : decode cX4_at 12 = .ok (.aload_n 0, 1) := by decide +kernel
theorem dX4_at_13 : decode cX4_at 13 = .ok (.getfield 9, 3) := by decide +kernel
theorem dX4_at_16 : decode cX4_at 16 = .ok (.iload_n 1, 1) := by decide +kernel
theorem dX4_at_17 : decode cX4_at 17 = .ok (.iaload, 1) := by decide +kernel
theorem dX4_at_18 : decode cX4_at 18 = .ok (.goto 4, 3) := by decide +kernel
theorem dX4_at_21 : decode cX4_at 21 = .ok (.iconst 0, 1) := by decide +kernel
theorem dX4_at_22 : decode cX4_at 22 = .ok (.ireturn, 1) := by decide +kernel
theorem dX5_init_0 : decode cX5_init 0 = .ok (.aload_n 0, 1) := by decide +kernel
theorem dX5_init_1 : decode cX5_init 1 = .ok (.invokespecial 3, 3) := by decide +kernel
theorem dX5_init_4 : decode cX5_init 4 = .ok (.aload_n 0, 1) := by decide +kernel
theorem dX5_init_5 : decode cX5_init 5 = .ok (.bipush 84, 2) := by decide +kernel
theorem dX5_init_7 : decode cX5_init 7 = .ok (.newarray .int, 2) := by decide +kernel
theorem dX5_init_9 : decode cX5_init 9 = .ok (.putfield 9, 3) := by decide +kernel
theorem dX5_init_12 : decode cX5_init 12 = .ok (.return_, 1) := by decide +kernel
theorem dX5_fewest_0 : decode cX5_fewest 0 = .ok (.iconst 0, 1) := by decide +kernel
theorem dX5_fewest_1 : decode cX5_fewest 1 = .ok (.istore_n 3, 1) := by decide +kernel
theorem dX5_fewest_2 : decode cX5_fewest 2 = .ok (.iload_n 3, 1) := by decide +kernel
theorem dX5_fewest_3 : decode cX5_fewest 3 = .ok (.bipush 6, 2) := by decide +kernel
theorem dX5_fewest_5 : decode cX5_fewest 5 = .ok (.if_icmp .ge 16, 3) := by decide +kernel
theorem dX5_fewest_8 : decode cX5_fewest 8 = .ok (.aload_n 0, 1) := by decide +kernel
theorem dX5_fewest_9 : decode cX5_fewest 9 = .ok (.getfield 9, 3) := by decide +kernel
theorem dX5_fewest_12 : decode cX5_fewest 12 = .ok (.iload_n 3, 1) := by decide +kernel
theorem dX5_fewest_13 : decode cX5_fewest 13 = .ok (.iconst 1, 1) := by decide +kernel
theorem dX5_fewest_14 : decode cX5_fewest 14 = .ok (.iastore, 1) := by decide +kernel
theorem dX5_fewest_15 : decode cX5_fewest 15 = .ok (.iinc 3 1, 3) := by decide +kernel
theorem dX5_fewest_18 : decode cX5_fewest 18 = .ok (.goto (-16), 3) := by decide +kernel
theorem dX5_fewest_21 : decode cX5_fewest 21 = .ok (.iconst 0, 1) := by decide +kernel
theorem dX5_fewest_22 : decode cX5_fewest 22 = .ok (.istore_n 3, 1) := by decide +kernel
theorem dX5_fewest_23 : decode cX5_fewest 23 = .ok (.iload_n 3, 1) := by decide +kernel
theorem dX5_fewest_24 : decode cX5_fewest 24 = .ok (.bipush 12, 2) := by decide +kernel
theorem dX5_fewest_26 : decode cX5_fewest 26 = .ok (.if_icmp .gt 63, 3) := by decide +kernel
theorem dX5_fewest_29 : decode cX5_fewest 29 = .ok (.iconst 0, 1) := by decide +kernel
theorem dX5_fewest_30 : decode cX5_fewest 30 = .ok (.istore 4, 2) := by decide +kernel
theorem dX5_fewest_32 : decode cX5_fewest 32 = .ok (.iload 4, 2) := by decide +kernel
theorem dX5_fewest_34 : decode cX5_fewest 34 = .ok (.aload_n 1, 1) := by decide +kernel
theorem dX5_fewest_35 : decode cX5_fewest 35 = .ok (.invokevirtual 15, 3) := by decide +kernel
theorem dX5_fewest_38 : decode cX5_fewest 38 = .ok (.if_icmp .ge 31, 3) := by decide +kernel
theorem dX5_fewest_41 : decode cX5_fewest 41 = .ok (.aload_n 0, 1) := by decide +kernel
theorem dX5_fewest_42 : decode cX5_fewest 42 = .ok (.getfield 9, 3) := by decide +kernel
theorem dX5_fewest_45 : decode cX5_fewest 45 = .ok (.iload_n 3, 1) := by decide +kernel
theorem dX5_fewest_46 : decode cX5_fewest 46 = .ok (.iconst 1, 1) := by decide +kernel
theorem dX5_fewest_47 : decode cX5_fewest 47 = .ok (.iadd, 1) := by decide +kernel
theorem dX5_fewest_48 : decode cX5_fewest 48 = .ok (.bipush 6, 2) := by decide +kernel
theorem dX5_fewest_50 : decode cX5_fewest 50 = .ok (.imul, 1) := by decide +kernel
theorem dX5_fewest_51 : decode cX5_fewest 51 = .ok (.iload 4, 2) := by decide +kernel
theorem dX5_fewest_53 : decode cX5_fewest 53 = .ok (.iadd, 1) := by decide +kernel
theorem dX5_fewest_54 : decode cX5_fewest 54 = .ok (.aload_n 0, 1) := by decide +kernel
theorem dX5_fewest_55 : decode cX5_fewest 55 = .ok (.aload_n 1, 1) := by decide +kernel
theorem dX5_fewest_56 : decode cX5_fewest 56 = .ok (.iload_n 3, 1) := by decide +kernel
theorem dX5_fewest_57 : decode cX5_fewest 57 = .ok (.iload 4, 2) := by decide +kernel
theorem dX5_fewest_59 : decode cX5_fewest 59 = .ok (.invokevirtual 21, 3) := by decide +kernel
theorem dX5_fewest_62 : decode cX5_fewest 62 = .ok (.iastore, 1) := by decide +kernel
theorem dX5_fewest_63 : decode cX5_fewest 63 = .ok (.iinc 4 1, 3) := by decide +kernel
theorem dX5_fewest_66 : decode cX5_fewest 66 = .ok (.goto (-34), 3) := by decide +kernel
theorem dX5_fewest_69 : decode cX5_fewest 69 = .ok (.aload_n 0, 1) := by decide +kernel
theorem dX5_fewest_70 : decode cX5_fewest 70 = .ok (.iload_n 3, 1) := by decide +kernel
theorem dX5_fewest_71 : decode cX5_fewest 71 = .ok (.iconst 1, 1) := by decide +kernel
theorem dX5_fewest_72 : decode cX5_fewest 72 = .ok (.iadd, 1) := by decide +kernel
theorem dX5_fewest_73 : decode cX5_fewest 73 = .ok (.iconst 0, 1) := by decide +kernel
theorem dX5_fewest_74 : decode cX5_fewest 74 = .ok (.iload_n 2, 1) := by decide +kernel
theorem dX5_fewest_75 : decode cX5_fewest 75 = .ok (.invokevirtual 25, 3) := by decide +kernel
theorem dX5_fewest_78 : decode cX5_fewest 78 = .ok (.ifCond .eq 5, 3) := by decide +kernel
theorem dX5_fewest_81 : decode cX5_fewest 81 = .ok (.iload_n 3, 1) := by decide +kernel
theorem dX5_fewest_82 : decode cX5_fewest 82 = .ok (.ireturn, 1) := by decide +kernel
theorem dX5_fewest_83 : decode cX5_fewest 83 = .ok (.iinc 3 1, 3) := by decide +kernel
theorem dX5_fewest_86 : decode cX5_fewest 86 = .ok (.goto (-63), 3) := by decide +kernel
theorem dX5_fewest_89 : decode cX5_fewest 89 = .ok (.bipush (-4), 2) := by decide +kernel
theorem dX5_fewest_91 : decode cX5_fewest 91 = .ok (.ireturn, 1) := by decide +kernel
theorem dX5_reaches_0 : decode cX5_reaches 0 = .ok (.aload_n 0, 1) := by decide +kernel
theorem dX5_reaches_1 : decode cX5_reaches 1 = .ok (.getfield 9, 3) := by decide +kernel
theorem dX5_reaches_4 : decode cX5_reaches 4 = .ok (.iload_n 1, 1) := by decide +kernel
theorem dX5_reaches_5 : decode cX5_reaches 5 = .ok (.bipush 6, 2) := by decide +kernel
theorem dX5_reaches_7 : decode cX5_reaches 7 = .ok (.imul, 1) := by decide +kernel
theorem dX5_reaches_8 : decode cX5_reaches 8 = .ok (.iload_n 2, 1) := by decide +kernel
theorem dX5_reaches_9 : decode cX5_reaches 9 = .ok (.iadd, 1) := by decide +kernel
theorem dX5_reaches_10 : decode cX5_reaches 10 = .ok (.iaload, 1) := by decide +kernel
theorem dX5_reaches_11 : decode cX5_reaches 11 = .ok (.iload_n 3, 1) := by decide +kernel
theorem dX5_reaches_12 : decode cX5_reaches 12 = .ok (.iushr, 1) := by decide +kernel
theorem dX5_reaches_13 : decode cX5_reaches 13 = .ok (.iconst 1, 1) := by decide +kernel
theorem dX5_reaches_14 : decode cX5_reaches 14 = .ok (.iand, 1) := by decide +kernel
theorem dX5_reaches_15 : decode cX5_reaches 15 = .ok (.iconst 1, 1) := by decide +kernel
theorem dX5_reaches_16 : decode cX5_reaches 16 = .ok (.if_icmp .ne 7, 3) := by decide +kernel
theorem dX5_reaches_19 : decode cX5_reaches 19 = .ok (.iconst 1, 1) := by decide +kernel
theorem dX5_reaches_20 : decode cX5_reaches 20 = .ok (.goto 4, 3) := by decide +kernel
theorem dX5_reaches_23 : decode cX5_reaches 23 = .ok (.iconst 0, 1) := by decide +kernel
theorem dX5_reaches_24 : decode cX5_reaches 24 = .ok (.ireturn, 1) := by decide +kernel
theorem dX5_reachedBy_0 : decode cX5_reachedBy 0 = .ok (.iconst 0, 1) := by decide +kernel
theorem dX5_reachedBy_1 : decode cX5_reachedBy 1 = .ok (.istore 4, 2) := by decide +kernel
theorem dX5_reachedBy_3 : decode cX5_reachedBy 3 = .ok (.iconst 0, 1) := by decide +kernel
theorem dX5_reachedBy_4 : decode cX5_reachedBy 4 = .ok (.istore 5, 2) := by decide +kernel
theorem dX5_reachedBy_6 : decode cX5_reachedBy 6 = .ok (.iload 5, 2) := by decide +kernel
theorem dX5_reachedBy_8 : decode cX5_reachedBy 8 = .ok (.aload_n 1, 1) := by decide +kernel
theorem dX5_reachedBy_9 : decode cX5_reachedBy 9 = .ok (.invokevirtual 29, 3) := by decide +kernel
theorem dX5_reachedBy_12 : decode cX5_reachedBy 12 = .ok (.if_icmp .gt 62, 3) := by decide +kernel
theorem dX5_reachedBy_15 : decode cX5_reachedBy 15 = .ok (.iload 5, 2) := by decide +kernel
theorem dX5_reachedBy_17 : decode cX5_reachedBy 17 = .ok (.aload_n 1, 1) := by decide +kernel
theorem dX5_reachedBy_18 : decode cX5_reachedBy 18 = .ok (.invokevirtual 29, 3) := by decide +kernel
theorem dX5_reachedBy_21 : decode cX5_reachedBy 21 = .ok (.iconst (-1), 1) := by decide +kernel
theorem dX5_reachedBy_22 : decode cX5_reachedBy 22 = .ok (.ixor, 1) := by decide +kernel
theorem dX5_reachedBy_23 : decode cX5_reachedBy 23 = .ok (.iand, 1) := by decide +kernel
theorem dX5_reachedBy_24 : decode cX5_reachedBy 24 = .ok (.ifCond .ne 44, 3) := by decide +kernel
theorem dX5_reachedBy_27 : decode cX5_reachedBy 27 = .ok (.aload_n 1, 1) := by decide +kernel
theorem dX5_reachedBy_28 : decode cX5_reachedBy 28 = .ok (.iload 5, 2) := by decide +kernel
theorem dX5_reachedBy_30 : decode cX5_reachedBy 30 = .ok (.iload_n 3, 1) := by decide +kernel
theorem dX5_reachedBy_31 : decode cX5_reachedBy 31 = .ok (.invokestatic 32, 3) := by decide +kernel
theorem dX5_reachedBy_34 : decode cX5_reachedBy 34 = .ok (.invokevirtual 36, 3) := by decide +kernel
theorem dX5_reachedBy_37 : decode cX5_reachedBy 37 = .ok (.ifCond .eq 31, 3) := by decide +kernel
theorem dX5_reachedBy_40 : decode cX5_reachedBy 40 = .ok (.iload 4, 2) := by decide +kernel
theorem dX5_reachedBy_42 : decode cX5_reachedBy 42 = .ok (.aload_n 0, 1) := by decide +kernel
theorem dX5_reachedBy_43 : decode cX5_reachedBy 43 = .ok (.aload_n 1, 1) := by decide +kernel
theorem dX5_reachedBy_44 : decode cX5_reachedBy 44 = .ok (.iload 5, 2) := by decide +kernel
theorem dX5_reachedBy_46 : decode cX5_reachedBy 46 = .ok (.aload_n 0, 1) := by decide +kernel
theorem dX5_reachedBy_47 : decode cX5_reachedBy 47 = .ok (.getfield 9, 3) := by decide +kernel
theorem dX5_reachedBy_50 : decode cX5_reachedBy 50 = .ok (.iload_n 2, 1) := by decide +kernel
theorem dX5_reachedBy_51 : decode cX5_reachedBy 51 = .ok (.bipush 6, 2) := by decide +kernel
theorem dX5_reachedBy_53 : decode cX5_reachedBy 53 = .ok (.imul, 1) := by decide +kernel
theorem dX5_reachedBy_54 : decode cX5_reachedBy 54 = .ok (.aload_n 1, 1) := by decide +kernel
theorem dX5_reachedBy_55 : decode cX5_reachedBy 55 = .ok (.iload 5, 2) := by decide +kernel
theorem dX5_reachedBy_57 : decode cX5_reachedBy 57 = .ok (.invokevirtual 40, 3) := by decide +kernel
theorem dX5_reachedBy_60 : decode cX5_reachedBy 60 = .ok (.iadd, 1) := by decide +kernel
theorem dX5_reachedBy_61 : decode cX5_reachedBy 61 = .ok (.iaload, 1) := by decide +kernel
theorem dX5_reachedBy_62 : decode cX5_reachedBy 62 = .ok (.invokevirtual 43, 3) := by decide +kernel
theorem dX5_reachedBy_65 : decode cX5_reachedBy 65 = .ok (.ior, 1) := by decide +kernel
theorem dX5_reachedBy_66 : decode cX5_reachedBy 66 = .ok (.istore 4, 2) := by decide +kernel
theorem dX5_reachedBy_68 : decode cX5_reachedBy 68 = .ok (.iinc 5 1, 3) := by decide +kernel
theorem dX5_reachedBy_71 : decode cX5_reachedBy 71 = .ok (.goto (-65), 3) := by decide +kernel
theorem dX5_reachedBy_74 : decode cX5_reachedBy 74 = .ok (.iload 4, 2) := by decide +kernel
theorem dX5_reachedBy_76 : decode cX5_reachedBy 76 = .ok (.ireturn, 1) := by decide +kernel
theorem dX5_turnedInto_0 : decode cX5_turnedInto 0 = .ok (.iload_n 3, 1) := by decide +kernel
theorem dX5_turnedInto_1 : decode cX5_turnedInto 1 = .ok (.istore 4, 2) := by decide +kernel
theorem dX5_turnedInto_3 : decode cX5_turnedInto 3 = .ok (.iconst 0, 1) := by decide +kernel
theorem dX5_turnedInto_4 : decode cX5_turnedInto 4 = .ok (.istore 5, 2) := by decide +kernel
theorem dX5_turnedInto_6 : decode cX5_turnedInto 6 = .ok (.iload 5, 2) := by decide +kernel
theorem dX5_turnedInto_8 : decode cX5_turnedInto 8 = .ok (.aload_n 1, 1) := by decide +kernel
theorem dX5_turnedInto_9 : decode cX5_turnedInto 9 = .ok (.getfield 46, 3) := by decide +kernel
theorem dX5_turnedInto_12 : decode cX5_turnedInto 12 = .ok (.if_icmp .ge 36, 3) := by decide +kernel
theorem dX5_turnedInto_15 : decode cX5_turnedInto 15 = .ok (.iload_n 2, 1) := by decide +kernel
theorem dX5_turnedInto_16 : decode cX5_turnedInto 16 = .ok (.iload 5, 2) := by decide +kernel
theorem dX5_turnedInto_18 : decode cX5_turnedInto 18 = .ok (.iushr, 1) := by decide +kernel
theorem dX5_turnedInto_19 : decode cX5_turnedInto 19 = .ok (.iconst 1, 1) := by decide +kernel
theorem dX5_turnedInto_20 : decode cX5_turnedInto 20 = .ok (.iand, 1) := by decide +kernel
theorem dX5_turnedInto_21 : decode cX5_turnedInto 21 = .ok (.iconst 1, 1) := by decide +kernel
theorem dX5_turnedInto_22 : decode cX5_turnedInto 22 = .ok (.if_icmp .ne 20, 3) := by decide +kernel
theorem dX5_turnedInto_25 : decode cX5_turnedInto 25 = .ok (.aload_n 0, 1) := by decide +kernel
theorem dX5_turnedInto_26 : decode cX5_turnedInto 26 = .ok (.aload_n 1, 1) := by decide +kernel
theorem dX5_turnedInto_27 : decode cX5_turnedInto 27 = .ok (.getfield 50, 3) := by decide +kernel
theorem dX5_turnedInto_30 : decode cX5_turnedInto 30 = .ok (.iload 5, 2) := by decide +kernel
theorem dX5_turnedInto_32 : decode cX5_turnedInto 32 = .ok (.iaload, 1) := by decide +kernel
theorem dX5_turnedInto_33 : decode cX5_turnedInto 33 = .ok (.iload 5, 2) := by decide +kernel
theorem dX5_turnedInto_35 : decode cX5_turnedInto 35 = .ok (.iload 4, 2) := by decide +kernel
theorem dX5_turnedInto_37 : decode cX5_turnedInto 37 = .ok (.invokevirtual 53, 3) := by decide +kernel
theorem dX5_turnedInto_40 : decode cX5_turnedInto 40 = .ok (.istore 4, 2) := by decide +kernel
theorem dX5_turnedInto_42 : decode cX5_turnedInto 42 = .ok (.iinc 5 1, 3) := by decide +kernel
theorem dX5_turnedInto_45 : decode cX5_turnedInto 45 = .ok (.goto (-39), 3) := by decide +kernel
theorem dX5_turnedInto_48 : decode cX5_turnedInto 48 = .ok (.iload 4, 2) := by decide +kernel
theorem dX5_turnedInto_50 : decode cX5_turnedInto 50 = .ok (.ireturn, 1) := by decide +kernel
theorem dX5_turnedOne_0 : decode cX5_turnedOne 0 = .ok (.iload_n 1, 1) := by decide +kernel
theorem dX5_turnedOne_1 : decode cX5_turnedOne 1 = .ok (.iconst 2, 1) := by decide +kernel
theorem dX5_turnedOne_2 : decode cX5_turnedOne 2 = .ok (.if_icmp .ge 5, 3) := by decide +kernel
theorem dX5_turnedOne_5 : decode cX5_turnedOne 5 = .ok (.iconst 0, 1) := by decide +kernel
theorem dX5_turnedOne_6 : decode cX5_turnedOne 6 = .ok (.ireturn, 1) := by decide +kernel
theorem dX5_turnedOne_7 : decode cX5_turnedOne 7 = .ok (.iload_n 3, 1) := by decide +kernel
theorem dX5_turnedOne_8 : decode cX5_turnedOne 8 = .ok (.getstatic 57, 3) := by decide +kernel
theorem dX5_turnedOne_11 : decode cX5_turnedOne 11 = .ok (.iload_n 2, 1) := by decide +kernel
theorem dX5_turnedOne_12 : decode cX5_turnedOne 12 = .ok (.iaload, 1) := by decide +kernel
theorem dX5_turnedOne_13 : decode cX5_turnedOne 13 = .ok (.iand, 1) := by decide +kernel
theorem dX5_turnedOne_14 : decode cX5_turnedOne 14 = .ok (.istore 4, 2) := by decide +kernel
theorem dX5_turnedOne_16 : decode cX5_turnedOne 16 = .ok (.iload_n 3, 1) := by decide +kernel
theorem dX5_turnedOne_17 : decode cX5_turnedOne 17 = .ok (.getstatic 57, 3) := by decide +kernel
theorem dX5_turnedOne_20 : decode cX5_turnedOne 20 = .ok (.iload_n 2, 1) := by decide +kernel
theorem dX5_turnedOne_21 : decode cX5_turnedOne 21 = .ok (.iaload, 1) := by decide +kernel
theorem dX5_turnedOne_22 : decode cX5_turnedOne 22 = .ok (.iconst (-1), 1) := by decide +kernel
theorem dX5_turnedOne_23 : decode cX5_turnedOne 23 = .ok (.ixor, 1) := by decide +kernel
theorem dX5_turnedOne_24 : decode cX5_turnedOne 24 = .ok (.iand, 1) := by decide +kernel
theorem dX5_turnedOne_25 : decode cX5_turnedOne 25 = .ok (.istore 5, 2) := by decide +kernel
theorem dX5_turnedOne_27 : decode cX5_turnedOne 27 = .ok (.iload 4, 2) := by decide +kernel
theorem dX5_turnedOne_29 : decode cX5_turnedOne 29 = .ok (.iconst 1, 1) := by decide +kernel
theorem dX5_turnedOne_30 : decode cX5_turnedOne 30 = .ok (.iload_n 2, 1) := by decide +kernel
theorem dX5_turnedOne_31 : decode cX5_turnedOne 31 = .ok (.ishl, 1) := by decide +kernel
theorem dX5_turnedOne_32 : decode cX5_turnedOne 32 = .ok (.iushr, 1) := by decide +kernel
theorem dX5_turnedOne_33 : decode cX5_turnedOne 33 = .ok (.iload 5, 2) := by decide +kernel
theorem dX5_turnedOne_35 : decode cX5_turnedOne 35 = .ok (.iconst 1, 1) := by decide +kernel
theorem dX5_turnedOne_36 : decode cX5_turnedOne 36 = .ok (.iload_n 2, 1) := by decide +kernel
theorem dX5_turnedOne_37 : decode cX5_turnedOne 37 = .ok (.ishl, 1) := by decide +kernel
theorem dX5_turnedOne_38 : decode cX5_turnedOne 38 = .ok (.ishl, 1) := by decide +kernel
theorem dX5_turnedOne_39 : decode cX5_turnedOne 39 = .ok (.ior, 1) := by decide +kernel
theorem dX5_turnedOne_40 : decode cX5_turnedOne 40 = .ok (.istore 6, 2) := by decide +kernel
theorem dX5_turnedOne_42 : decode cX5_turnedOne 42 = .ok (.iload_n 1, 1) := by decide +kernel
theorem dX5_turnedOne_43 : decode cX5_turnedOne 43 = .ok (.iconst 2, 1) := by decide +kernel
theorem dX5_turnedOne_44 : decode cX5_turnedOne 44 = .ok (.if_icmp .le 11, 3) := by decide +kernel
theorem dX5_turnedOne_47 : decode cX5_turnedOne 47 = .ok (.iload 6, 2) := by decide +kernel
theorem dX5_turnedOne_49 : decode cX5_turnedOne 49 = .ok (.iload 4, 2) := by decide +kernel
theorem dX5_turnedOne_51 : decode cX5_turnedOne 51 = .ok (.ior, 1) := by decide +kernel
theorem dX5_turnedOne_52 : decode cX5_turnedOne 52 = .ok (.goto 5, 3) := by decide +kernel
theorem dX5_turnedOne_55 : decode cX5_turnedOne 55 = .ok (.iload 6, 2) := by decide +kernel
theorem dX5_turnedOne_57 : decode cX5_turnedOne 57 = .ok (.ireturn, 1) := by decide +kernel
theorem dX5_leastFirst_0 : decode cX5_leastFirst 0 = .ok (.aload_n 1, 1) := by decide +kernel
theorem dX5_leastFirst_1 : decode cX5_leastFirst 1 = .ok (.invokevirtual 60, 3) := by decide +kernel
theorem dX5_leastFirst_4 : decode cX5_leastFirst 4 = .ok (.istore 5, 2) := by decide +kernel
theorem dX5_leastFirst_6 : decode cX5_leastFirst 6 = .ok (.iconst 0, 1) := by decide +kernel
theorem dX5_leastFirst_7 : decode cX5_leastFirst 7 = .ok (.istore 6, 2) := by decide +kernel
theorem dX5_leastFirst_9 : decode cX5_leastFirst 9 = .ok (.iload 6, 2) := by decide +kernel
theorem dX5_leastFirst_11 : decode cX5_leastFirst 11 = .ok (.iload 5, 2) := by decide +kernel
theorem dX5_leastFirst_13 : decode cX5_leastFirst 13 = .ok (.if_icmp .ge 73, 3) := by decide +kernel
theorem dX5_leastFirst_16 : decode cX5_leastFirst 16 = .ok (.aload_n 1, 1) := by decide +kernel
theorem dX5_leastFirst_17 : decode cX5_leastFirst 17 = .ok (.iload 6, 2) := by decide +kernel
theorem dX5_leastFirst_19 : decode cX5_leastFirst 19 = .ok (.invokevirtual 63, 3) := by decide +kernel
theorem dX5_leastFirst_22 : decode cX5_leastFirst 22 = .ok (.istore 7, 2) := by decide +kernel
theorem dX5_leastFirst_24 : decode cX5_leastFirst 24 = .ok (.iload_n 2, 1) := by decide +kernel
theorem dX5_leastFirst_25 : decode cX5_leastFirst 25 = .ok (.iload 7, 2) := by decide +kernel
theorem dX5_leastFirst_27 : decode cX5_leastFirst 27 = .ok (.invokestatic 66, 3) := by decide +kernel
theorem dX5_leastFirst_30 : decode cX5_leastFirst 30 = .ok (.aload_n 1, 1) := by decide +kernel
theorem dX5_leastFirst_31 : decode cX5_leastFirst 31 = .ok (.invokevirtual 29, 3) := by decide +kernel
theorem dX5_leastFirst_34 : decode cX5_leastFirst 34 = .ok (.iand, 1) := by decide +kernel
theorem dX5_leastFirst_35 : decode cX5_leastFirst 35 = .ok (.istore 8, 2) := by decide +kernel
theorem dX5_leastFirst_37 : decode cX5_leastFirst 37 = .ok (.iload 7, 2) := by decide +kernel
theorem dX5_leastFirst_39 : decode cX5_leastFirst 39 = .ok (.iload_n 3, 1) := by decide +kernel
theorem dX5_leastFirst_40 : decode cX5_leastFirst 40 = .ok (.invokestatic 66, 3) := by decide +kernel
theorem dX5_leastFirst_43 : decode cX5_leastFirst 43 = .ok (.aload_n 1, 1) := by decide +kernel
theorem dX5_leastFirst_44 : decode cX5_leastFirst 44 = .ok (.invokevirtual 29, 3) := by decide +kernel
theorem dX5_leastFirst_47 : decode cX5_leastFirst 47 = .ok (.iand, 1) := by decide +kernel
theorem dX5_leastFirst_48 : decode cX5_leastFirst 48 = .ok (.istore 9, 2) := by decide +kernel
theorem dX5_leastFirst_50 : decode cX5_leastFirst 50 = .ok (.aload_n 1, 1) := by decide +kernel
theorem dX5_leastFirst_51 : decode cX5_leastFirst 51 = .ok (.iload 8, 2) := by decide +kernel
theorem dX5_leastFirst_53 : decode cX5_leastFirst 53 = .ok (.iconst 0, 1) := by decide +kernel
theorem dX5_leastFirst_54 : decode cX5_leastFirst 54 = .ok (.invokevirtual 36, 3) := by decide +kernel
theorem dX5_leastFirst_57 : decode cX5_leastFirst 57 = .ok (.ifCond .eq 23, 3) := by decide +kernel
theorem dX5_leastFirst_60 : decode cX5_leastFirst 60 = .ok (.aload_n 0, 1) := by decide +kernel
theorem dX5_leastFirst_61 : decode cX5_leastFirst 61 = .ok (.iload 4, 2) := by decide +kernel
theorem dX5_leastFirst_63 : decode cX5_leastFirst 63 = .ok (.aload_n 1, 1) := by decide +kernel
theorem dX5_leastFirst_64 : decode cX5_leastFirst 64 = .ok (.iload 8, 2) := by decide +kernel
theorem dX5_leastFirst_66 : decode cX5_leastFirst 66 = .ok (.invokevirtual 40, 3) := by decide +kernel
theorem dX5_leastFirst_69 : decode cX5_leastFirst 69 = .ok (.iload 9, 2) := by decide +kernel
theorem dX5_leastFirst_71 : decode cX5_leastFirst 71 = .ok (.invokevirtual 25, 3) := by decide +kernel
theorem dX5_leastFirst_74 : decode cX5_leastFirst 74 = .ok (.ifCond .eq 6, 3) := by decide +kernel
theorem dX5_leastFirst_77 : decode cX5_leastFirst 77 = .ok (.iload 6, 2) := by decide +kernel
theorem dX5_leastFirst_79 : decode cX5_leastFirst 79 = .ok (.ireturn, 1) := by decide +kernel
theorem dX5_leastFirst_80 : decode cX5_leastFirst 80 = .ok (.iinc 6 1, 3) := by decide +kernel
theorem dX5_leastFirst_83 : decode cX5_leastFirst 83 = .ok (.goto (-74), 3) := by decide +kernel
theorem dX5_leastFirst_86 : decode cX5_leastFirst 86 = .ok (.bipush (-4), 2) := by decide +kernel
theorem dX5_leastFirst_88 : decode cX5_leastFirst 88 = .ok (.ireturn, 1) := by decide +kernel
theorem dX6_init_0 : decode cX6_init 0 = .ok (.aload_n 0, 1) := by decide +kernel
theorem dX6_init_1 : decode cX6_init 1 = .ok (.invokespecial 3, 3) := by decide +kernel
theorem dX6_init_4 : decode cX6_init 4 = .ok (.aload_n 0, 1) := by decide +kernel
theorem dX6_init_5 : decode cX6_init 5 = .ok (.sipush 300, 3) := by decide +kernel
theorem dX6_init_8 : decode cX6_init 8 = .ok (.newarray .byte, 2) := by decide +kernel
theorem dX6_init_10 : decode cX6_init 10 = .ok (.putfield 9, 3) := by decide +kernel
theorem dX6_init_13 : decode cX6_init 13 = .ok (.return_, 1) := by decide +kernel
theorem dX6_hasRoomFor_0 : decode cX6_hasRoomFor 0 = .ok (.iload_n 1, 1) := by decide +kernel
theorem dX6_hasRoomFor_1 : decode cX6_hasRoomFor 1 = .ok (.sipush 300, 3) := by decide +kernel
theorem dX6_hasRoomFor_4 : decode cX6_hasRoomFor 4 = .ok (.aload_n 0, 1) := by decide +kernel
theorem dX6_hasRoomFor_5 : decode cX6_hasRoomFor 5 = .ok (.getfield 15, 3) := by decide +kernel
theorem dX6_hasRoomFor_8 : decode cX6_hasRoomFor 8 = .ok (.isub, 1) := by decide +kernel
theorem dX6_hasRoomFor_9 : decode cX6_hasRoomFor 9 = .ok (.if_icmp .gt 7, 3) := by decide +kernel
theorem dX6_hasRoomFor_12 : decode cX6_hasRoomFor 12 = .ok (.iconst 1, 1) := by decide +kernel
theorem dX6_hasRoomFor_13 : decode cX6_hasRoomFor 13 = .ok (.goto 4, 3) := by decide +kernel
theorem dX6_hasRoomFor_16 : decode cX6_hasRoomFor 16 = .ok (.iconst 0, 1) := by decide +kernel
theorem dX6_hasRoomFor_17 : decode cX6_hasRoomFor 17 = .ok (.ireturn, 1) := by decide +kernel
theorem dX6_append_0 : decode cX6_append 0 = .ok (.iload_n 1, 1) := by decide +kernel
theorem dX6_append_1 : decode cX6_append 1 = .ok (.iconst 1, 1) := by decide +kernel
theorem dX6_append_2 : decode cX6_append 2 = .ok (.isub, 1) := by decide +kernel
theorem dX6_append_3 : decode cX6_append 3 = .ok (.istore 4, 2) := by decide +kernel
theorem dX6_append_5 : decode cX6_append 5 = .ok (.iload 4, 2) := by decide +kernel
theorem dX6_append_7 : decode cX6_append 7 = .ok (.ifCond .lt 47, 3) := by decide +kernel
theorem dX6_append_10 : decode cX6_append 10 = .ok (.aload_n 0, 1) := by decide +kernel
theorem dX6_append_11 : decode cX6_append 11 = .ok (.getfield 15, 3) := by decide +kernel
theorem dX6_append_14 : decode cX6_append 14 = .ok (.sipush 300, 3) := by decide +kernel
theorem dX6_append_17 : decode cX6_append 17 = .ok (.if_icmp .ge 37, 3) := by decide +kernel
theorem dX6_append_20 : decode cX6_append 20 = .ok (.aload_n 0, 1) := by decide +kernel
theorem dX6_append_21 : decode cX6_append 21 = .ok (.getfield 9, 3) := by decide +kernel
theorem dX6_append_24 : decode cX6_append 24 = .ok (.aload_n 0, 1) := by decide +kernel
theorem dX6_append_25 : decode cX6_append 25 = .ok (.getfield 15, 3) := by decide +kernel
theorem dX6_append_28 : decode cX6_append 28 = .ok (.lload_n 2, 1) := by decide +kernel
theorem dX6_append_29 : decode cX6_append 29 = .ok (.bipush 8, 2) := by decide +kernel
theorem dX6_append_31 : decode cX6_append 31 = .ok (.iload 4, 2) := by decide +kernel
theorem dX6_append_33 : decode cX6_append 33 = .ok (.imul, 1) := by decide +kernel
theorem dX6_append_34 : decode cX6_append 34 = .ok (.lushr, 1) := by decide +kernel
theorem dX6_append_35 : decode cX6_append 35 = .ok (.l2i, 1) := by decide +kernel
theorem dX6_append_36 : decode cX6_append 36 = .ok (.i2b, 1) := by decide +kernel
theorem dX6_append_37 : decode cX6_append 37 = .ok (.bastore, 1) := by decide +kernel
theorem dX6_append_38 : decode cX6_append 38 = .ok (.aload_n 0, 1) := by decide +kernel
theorem dX6_append_39 : decode cX6_append 39 = .ok (.dup, 1) := by decide +kernel
theorem dX6_append_40 : decode cX6_append 40 = .ok (.getfield 15, 3) := by decide +kernel
theorem dX6_append_43 : decode cX6_append 43 = .ok (.iconst 1, 1) := by decide +kernel
theorem dX6_append_44 : decode cX6_append 44 = .ok (.iadd, 1) := by decide +kernel
theorem dX6_append_45 : decode cX6_append 45 = .ok (.putfield 15, 3) := by decide +kernel
theorem dX6_append_48 : decode cX6_append 48 = .ok (.iinc 4 (-1), 3) := by decide +kernel
theorem dX6_append_51 : decode cX6_append 51 = .ok (.goto (-46), 3) := by decide +kernel
theorem dX6_append_54 : decode cX6_append 54 = .ok (.aload_n 0, 1) := by decide +kernel
theorem dX6_append_55 : decode cX6_append 55 = .ok (.getfield 15, 3) := by decide +kernel
theorem dX6_append_58 : decode cX6_append 58 = .ok (.ireturn, 1) := by decide +kernel
theorem dX6_clear_0 : decode cX6_clear 0 = .ok (.aload_n 0, 1) := by decide +kernel
theorem dX6_clear_1 : decode cX6_clear 1 = .ok (.iconst 0, 1) := by decide +kernel
theorem dX6_clear_2 : decode cX6_clear 2 = .ok (.putfield 15, 3) := by decide +kernel
theorem dX6_clear_5 : decode cX6_clear 5 = .ok (.return_, 1) := by decide +kernel
theorem dX6_readInto_0 : decode cX6_readInto 0 = .ok (.aload_n 1, 1) := by decide +kernel
theorem dX6_readInto_1 : decode cX6_readInto 1 = .ok (.invokevirtual 19, 3) := by decide +kernel
theorem dX6_readInto_4 : decode cX6_readInto 4 = .ok (.iconst 0, 1) := by decide +kernel
theorem dX6_readInto_5 : decode cX6_readInto 5 = .ok (.istore_n 2, 1) := by decide +kernel
theorem dX6_readInto_6 : decode cX6_readInto 6 = .ok (.iconst 0, 1) := by decide +kernel
theorem dX6_readInto_7 : decode cX6_readInto 7 = .ok (.istore_n 3, 1) := by decide +kernel
theorem dX6_readInto_8 : decode cX6_readInto 8 = .ok (.iload_n 3, 1) := by decide +kernel
theorem dX6_readInto_9 : decode cX6_readInto 9 = .ok (.sipush 300, 3) := by decide +kernel
theorem dX6_readInto_12 : decode cX6_readInto 12 = .ok (.if_icmp .ge 57, 3) := by decide +kernel
theorem dX6_readInto_15 : decode cX6_readInto 15 = .ok (.iload_n 2, 1) := by decide +kernel
theorem dX6_readInto_16 : decode cX6_readInto 16 = .ok (.aload_n 0, 1) := by decide +kernel
theorem dX6_readInto_17 : decode cX6_readInto 17 = .ok (.getfield 15, 3) := by decide +kernel
theorem dX6_readInto_20 : decode cX6_readInto 20 = .ok (.if_icmp .ge 49, 3) := by decide +kernel
theorem dX6_readInto_23 : decode cX6_readInto 23 = .ok (.aload_n 0, 1) := by decide +kernel
theorem dX6_readInto_24 : decode cX6_readInto 24 = .ok (.bipush 59, 2) := by decide +kernel
theorem dX6_readInto_26 : decode cX6_readInto 26 = .ok (.iload_n 2, 1) := by decide +kernel
theorem dX6_readInto_27 : decode cX6_readInto 27 = .ok (.aload_n 0, 1) := by decide +kernel
theorem dX6_readInto_28 : decode cX6_readInto 28 = .ok (.getfield 15, 3) := by decide +kernel
theorem dX6_readInto_31 : decode cX6_readInto 31 = .ok (.invokevirtual 24, 3) := by decide +kernel
theorem dX6_readInto_34 : decode cX6_readInto 34 = .ok (.istore 4, 2) := by decide +kernel
theorem dX6_readInto_36 : decode cX6_readInto 36 = .ok (.iload 4, 2) := by decide +kernel
theorem dX6_readInto_38 : decode cX6_readInto 38 = .ok (.aload_n 0, 1) := by decide +kernel
theorem dX6_readInto_39 : decode cX6_readInto 39 = .ok (.getfield 15, 3) := by decide +kernel
theorem dX6_readInto_42 : decode cX6_readInto 42 = .ok (.if_icmp .eq 14, 3) := by decide +kernel
theorem dX6_readInto_45 : decode cX6_readInto 45 = .ok (.aload_n 0, 1) := by decide +kernel
theorem dX6_readInto_46 : decode cX6_readInto 46 = .ok (.aload_n 1, 1) := by decide +kernel
theorem dX6_readInto_47 : decode cX6_readInto 47 = .ok (.iload_n 2, 1) := by decide +kernel
theorem dX6_readInto_48 : decode cX6_readInto 48 = .ok (.iload 4, 2) := by decide +kernel
theorem dX6_readInto_50 : decode cX6_readInto 50 = .ok (.invokevirtual 28, 3) := by decide +kernel
theorem dX6_readInto_53 : decode cX6_readInto 53 = .ok (.ifCond .ne 5, 3) := by decide +kernel
theorem dX6_readInto_56 : decode cX6_readInto 56 = .ok (.iload_n 2, 1) := by decide +kernel
theorem dX6_readInto_57 : decode cX6_readInto 57 = .ok (.ireturn, 1) := by decide +kernel
theorem dX6_readInto_58 : decode cX6_readInto 58 = .ok (.iload 4, 2) := by decide +kernel
theorem dX6_readInto_60 : decode cX6_readInto 60 = .ok (.iconst 1, 1) := by decide +kernel
theorem dX6_readInto_61 : decode cX6_readInto 61 = .ok (.iadd, 1) := by decide +kernel
theorem dX6_readInto_62 : decode cX6_readInto 62 = .ok (.istore_n 2, 1) := by decide +kernel
theorem dX6_readInto_63 : decode cX6_readInto 63 = .ok (.iinc 3 1, 3) := by decide +kernel
theorem dX6_readInto_66 : decode cX6_readInto 66 = .ok (.goto (-58), 3) := by decide +kernel
theorem dX6_readInto_69 : decode cX6_readInto 69 = .ok (.bipush (-4), 2) := by decide +kernel
theorem dX6_readInto_71 : decode cX6_readInto 71 = .ok (.ireturn, 1) := by decide +kernel
theorem dX6_takeItem_0 : decode cX6_takeItem 0 = .ok (.aload_n 0, 1) := by decide +kernel
theorem dX6_takeItem_1 : decode cX6_takeItem 1 = .ok (.getfield 9, 3) := by decide +kernel
theorem dX6_takeItem_4 : decode cX6_takeItem 4 = .ok (.iload_n 2, 1) := by decide +kernel
theorem dX6_takeItem_5 : decode cX6_takeItem 5 = .ok (.baload, 1) := by decide +kernel
theorem dX6_takeItem_6 : decode cX6_takeItem 6 = .ok (.istore 4, 2) := by decide +kernel
theorem dX6_takeItem_8 : decode cX6_takeItem 8 = .ok (.iload_n 2, 1) := by decide +kernel
theorem dX6_takeItem_9 : decode cX6_takeItem 9 = .ok (.iconst 1, 1) := by decide +kernel
theorem dX6_takeItem_10 : decode cX6_takeItem 10 = .ok (.iadd, 1) := by decide +kernel
theorem dX6_takeItem_11 : decode cX6_takeItem 11 = .ok (.istore 5, 2) := by decide +kernel
theorem dX6_takeItem_13 : decode cX6_takeItem 13 = .ok (.iload 4, 2) := by decide +kernel
theorem dX6_takeItem_15 : decode cX6_takeItem 15 = .ok (.lookupswitch 110 #[(103, 98), (108, 86), (112, 74), (116, 41)], 41) := by decide +kernel
theorem dX6_takeItem_56 : decode cX6_takeItem 56 = .ok (.aload_n 0, 1) := by decide +kernel
theorem dX6_takeItem_57 : decode cX6_takeItem 57 = .ok (.bipush 44, 2) := by decide +kernel
theorem dX6_takeItem_59 : decode cX6_takeItem 59 = .ok (.iload 5, 2) := by decide +kernel
theorem dX6_takeItem_61 : decode cX6_takeItem 61 = .ok (.iload_n 3, 1) := by decide +kernel
theorem dX6_takeItem_62 : decode cX6_takeItem 62 = .ok (.invokevirtual 24, 3) := by decide +kernel
theorem dX6_takeItem_65 : decode cX6_takeItem 65 = .ok (.istore 6, 2) := by decide +kernel
theorem dX6_takeItem_67 : decode cX6_takeItem 67 = .ok (.aload_n 1, 1) := by decide +kernel
theorem dX6_takeItem_68 : decode cX6_takeItem 68 = .ok (.aload_n 0, 1) := by decide +kernel
theorem dX6_takeItem_69 : decode cX6_takeItem 69 = .ok (.iload 5, 2) := by decide +kernel
theorem dX6_takeItem_71 : decode cX6_takeItem 71 = .ok (.iload 6, 2) := by decide +kernel
theorem dX6_takeItem_73 : decode cX6_takeItem 73 = .ok (.invokevirtual 32, 3) := by decide +kernel
theorem dX6_takeItem_76 : decode cX6_takeItem 76 = .ok (.aload_n 0, 1) := by decide +kernel
theorem dX6_takeItem_77 : decode cX6_takeItem 77 = .ok (.iload 6, 2) := by decide +kernel
theorem dX6_takeItem_79 : decode cX6_takeItem 79 = .ok (.iconst 1, 1) := by decide +kernel
theorem dX6_takeItem_80 : decode cX6_takeItem 80 = .ok (.iadd, 1) := by decide +kernel
theorem dX6_takeItem_81 : decode cX6_takeItem 81 = .ok (.iload_n 3, 1) := by decide +kernel
theorem dX6_takeItem_82 : decode cX6_takeItem 82 = .ok (.invokevirtual 32, 3) := by decide +kernel
theorem dX6_takeItem_85 : decode cX6_takeItem 85 = .ok (.invokevirtual 36, 3) := by decide +kernel
theorem dX6_takeItem_88 : decode cX6_takeItem 88 = .ok (.ireturn, 1) := by decide +kernel
theorem dX6_takeItem_89 : decode cX6_takeItem 89 = .ok (.aload_n 1, 1) := by decide +kernel
theorem dX6_takeItem_90 : decode cX6_takeItem 90 = .ok (.aload_n 0, 1) := by decide +kernel
theorem dX6_takeItem_91 : decode cX6_takeItem 91 = .ok (.getfield 9, 3) := by decide +kernel
theorem dX6_takeItem_94 : decode cX6_takeItem 94 = .ok (.iload 5, 2) := by decide +kernel
theorem dX6_takeItem_96 : decode cX6_takeItem 96 = .ok (.iload_n 3, 1) := by decide +kernel
theorem dX6_takeItem_97 : decode cX6_takeItem 97 = .ok (.invokevirtual 40, 3) := by decide +kernel
theorem dX6_takeItem_100 : decode cX6_takeItem 100 = .ok (.ireturn, 1) := by decide +kernel
theorem dX6_takeItem_101 : decode cX6_takeItem 101 = .ok (.aload_n 1, 1) := by decide +kernel
theorem dX6_takeItem_102 : decode cX6_takeItem 102 = .ok (.aload_n 0, 1) := by decide +kernel
theorem dX6_takeItem_103 : decode cX6_takeItem 103 = .ok (.iload 5, 2) := by decide +kernel
theorem dX6_takeItem_105 : decode cX6_takeItem 105 = .ok (.iload_n 3, 1) := by decide +kernel
theorem dX6_takeItem_106 : decode cX6_takeItem 106 = .ok (.invokevirtual 32, 3) := by decide +kernel
theorem dX6_takeItem_109 : decode cX6_takeItem 109 = .ok (.invokevirtual 44, 3) := by decide +kernel
theorem dX6_takeItem_112 : decode cX6_takeItem 112 = .ok (.ireturn, 1) := by decide +kernel
theorem dX6_takeItem_113 : decode cX6_takeItem 113 = .ok (.aload_n 1, 1) := by decide +kernel
theorem dX6_takeItem_114 : decode cX6_takeItem 114 = .ok (.aload_n 0, 1) := by decide +kernel
theorem dX6_takeItem_115 : decode cX6_takeItem 115 = .ok (.iload 5, 2) := by decide +kernel
theorem dX6_takeItem_117 : decode cX6_takeItem 117 = .ok (.iload_n 3, 1) := by decide +kernel
theorem dX6_takeItem_118 : decode cX6_takeItem 118 = .ok (.invokevirtual 32, 3) := by decide +kernel
theorem dX6_takeItem_121 : decode cX6_takeItem 121 = .ok (.invokevirtual 48, 3) := by decide +kernel
theorem dX6_takeItem_124 : decode cX6_takeItem 124 = .ok (.ireturn, 1) := by decide +kernel
theorem dX6_takeItem_125 : decode cX6_takeItem 125 = .ok (.iconst 0, 1) := by decide +kernel
theorem dX6_takeItem_126 : decode cX6_takeItem 126 = .ok (.ireturn, 1) := by decide +kernel
theorem dX6_find_0 : decode cX6_find 0 = .ok (.iload_n 2, 1) := by decide +kernel
theorem dX6_find_1 : decode cX6_find 1 = .ok (.istore 4, 2) := by decide +kernel
theorem dX6_find_3 : decode cX6_find 3 = .ok (.iload 4, 2) := by decide +kernel
theorem dX6_find_5 : decode cX6_find 5 = .ok (.iload_n 3, 1) := by decide +kernel
theorem dX6_find_6 : decode cX6_find 6 = .ok (.if_icmp .ge 23, 3) := by decide +kernel
theorem dX6_find_9 : decode cX6_find 9 = .ok (.aload_n 0, 1) := by decide +kernel
theorem dX6_find_10 : decode cX6_find 10 = .ok (.getfield 9, 3) := by decide +kernel
theorem dX6_find_13 : decode cX6_find 13 = .ok (.iload 4, 2) := by decide +kernel
theorem dX6_find_15 : decode cX6_find 15 = .ok (.baload, 1) := by decide +kernel
theorem dX6_find_16 : decode cX6_find 16 = .ok (.iload_n 1, 1) := by decide +kernel
theorem dX6_find_17 : decode cX6_find 17 = .ok (.if_icmp .ne 6, 3) := by decide +kernel
theorem dX6_find_20 : decode cX6_find 20 = .ok (.iload 4, 2) := by decide +kernel
theorem dX6_find_22 : decode cX6_find 22 = .ok (.ireturn, 1) := by decide +kernel
theorem dX6_find_23 : decode cX6_find 23 = .ok (.iinc 4 1, 3) := by decide +kernel
theorem dX6_find_26 : decode cX6_find 26 = .ok (.goto (-23), 3) := by decide +kernel
theorem dX6_find_29 : decode cX6_find 29 = .ok (.iload_n 3, 1) := by decide +kernel
theorem dX6_find_30 : decode cX6_find 30 = .ok (.ireturn, 1) := by decide +kernel
theorem dX6_number_0 : decode cX6_number 0 = .ok (.iload_n 2, 1) := by decide +kernel
theorem dX6_number_1 : decode cX6_number 1 = .ok (.iload_n 1, 1) := by decide +kernel
theorem dX6_number_2 : decode cX6_number 2 = .ok (.isub, 1) := by decide +kernel
theorem dX6_number_3 : decode cX6_number 3 = .ok (.iconst 1, 1) := by decide +kernel
theorem dX6_number_4 : decode cX6_number 4 = .ok (.if_icmp .lt 10, 3) := by decide +kernel
theorem dX6_number_7 : decode cX6_number 7 = .ok (.iload_n 2, 1) := by decide +kernel
theorem dX6_number_8 : decode cX6_number 8 = .ok (.iload_n 1, 1) := by decide +kernel
theorem dX6_number_9 : decode cX6_number 9 = .ok (.isub, 1) := by decide +kernel
theorem dX6_number_10 : decode cX6_number 10 = .ok (.iconst 2, 1) := by decide +kernel
theorem dX6_number_11 : decode cX6_number 11 = .ok (.if_icmp .le 5, 3) := by decide +kernel
theorem dX6_number_14 : decode cX6_number 14 = .ok (.iconst (-1), 1) := by decide +kernel
theorem dX6_number_15 : decode cX6_number 15 = .ok (.ireturn, 1) := by decide +kernel
theorem dX6_number_16 : decode cX6_number 16 = .ok (.iconst 0, 1) := by decide +kernel
theorem dX6_number_17 : decode cX6_number 17 = .ok (.istore_n 3, 1) := by decide +kernel
theorem dX6_number_18 : decode cX6_number 18 = .ok (.iload_n 1, 1) := by decide +kernel
theorem dX6_number_19 : decode cX6_number 19 = .ok (.istore 4, 2) := by decide +kernel
theorem dX6_number_21 : decode cX6_number 21 = .ok (.iload 4, 2) := by decide +kernel
theorem dX6_number_23 : decode cX6_number 23 = .ok (.iload_n 2, 1) := by decide +kernel
theorem dX6_number_24 : decode cX6_number 24 = .ok (.if_icmp .ge 51, 3) := by decide +kernel
theorem dX6_number_27 : decode cX6_number 27 = .ok (.aload_n 0, 1) := by decide +kernel
theorem dX6_number_28 : decode cX6_number 28 = .ok (.getfield 9, 3) := by decide +kernel
theorem dX6_number_31 : decode cX6_number 31 = .ok (.iload 4, 2) := by decide +kernel
theorem dX6_number_33 : decode cX6_number 33 = .ok (.baload, 1) := by decide +kernel
theorem dX6_number_34 : decode cX6_number 34 = .ok (.bipush 48, 2) := by decide +kernel
theorem dX6_number_36 : decode cX6_number 36 = .ok (.if_icmp .lt 15, 3) := by decide +kernel
theorem dX6_number_39 : decode cX6_number 39 = .ok (.aload_n 0, 1) := by decide +kernel
theorem dX6_number_40 : decode cX6_number 40 = .ok (.getfield 9, 3) := by decide +kernel
theorem dX6_number_43 : decode cX6_number 43 = .ok (.iload 4, 2) := by decide +kernel
theorem dX6_number_45 : decode cX6_number 45 = .ok (.baload, 1) := by decide +kernel
theorem dX6_number_46 : decode cX6_number 46 = .ok (.bipush 57, 2) := by decide +kernel
theorem dX6_number_48 : decode cX6_number 48 = .ok (.if_icmp .le 5, 3) := by decide +kernel
theorem dX6_number_51 : decode cX6_number 51 = .ok (.iconst (-1), 1) := by decide +kernel
theorem dX6_number_52 : decode cX6_number 52 = .ok (.ireturn, 1) := by decide +kernel
theorem dX6_number_53 : decode cX6_number 53 = .ok (.bipush 10, 2) := by decide +kernel
theorem dX6_number_55 : decode cX6_number 55 = .ok (.iload_n 3, 1) := by decide +kernel
theorem dX6_number_56 : decode cX6_number 56 = .ok (.imul, 1) := by decide +kernel
theorem dX6_number_57 : decode cX6_number 57 = .ok (.aload_n 0, 1) := by decide +kernel
theorem dX6_number_58 : decode cX6_number 58 = .ok (.getfield 9, 3) := by decide +kernel
theorem dX6_number_61 : decode cX6_number 61 = .ok (.iload 4, 2) := by decide +kernel
theorem dX6_number_63 : decode cX6_number 63 = .ok (.baload, 1) := by decide +kernel
theorem dX6_number_64 : decode cX6_number 64 = .ok (.iadd, 1) := by decide +kernel
theorem dX6_number_65 : decode cX6_number 65 = .ok (.bipush 48, 2) := by decide +kernel
theorem dX6_number_67 : decode cX6_number 67 = .ok (.isub, 1) := by decide +kernel
theorem dX6_number_68 : decode cX6_number 68 = .ok (.istore_n 3, 1) := by decide +kernel
theorem dX6_number_69 : decode cX6_number 69 = .ok (.iinc 4 1, 3) := by decide +kernel
theorem dX6_number_72 : decode cX6_number 72 = .ok (.goto (-51), 3) := by decide +kernel
theorem dX6_number_75 : decode cX6_number 75 = .ok (.iload_n 3, 1) := by decide +kernel
theorem dX6_number_76 : decode cX6_number 76 = .ok (.ireturn, 1) := by decide +kernel
theorem dX7_init_0 : decode cX7_init 0 = .ok (.aload_n 0, 1) := by decide +kernel
theorem dX7_init_1 : decode cX7_init 1 = .ok (.invokespecial 3, 3) := by decide +kernel
theorem dX7_init_4 : decode cX7_init 4 = .ok (.aload_n 0, 1) := by decide +kernel
theorem dX7_init_5 : decode cX7_init 5 = .ok (.iconst 5, 1) := by decide +kernel
theorem dX7_init_6 : decode cX7_init 6 = .ok (.newarray .int, 2) := by decide +kernel
theorem dX7_init_8 : decode cX7_init 8 = .ok (.putfield 9, 3) := by decide +kernel
theorem dX7_init_11 : decode cX7_init 11 = .ok (.aload_n 0, 1) := by decide +kernel
theorem dX7_init_12 : decode cX7_init 12 = .ok (.bipush 9, 2) := by decide +kernel
theorem dX7_init_14 : decode cX7_init 14 = .ok (.newarray .int, 2) := by decide +kernel
theorem dX7_init_16 : decode cX7_init 16 = .ok (.putfield 15, 3) := by decide +kernel
theorem dX7_init_19 : decode cX7_init 19 = .ok (.aload_n 0, 1) := by decide +kernel
theorem dX7_init_20 : decode cX7_init 20 = .ok (.bipush 16, 2) := by decide +kernel
theorem dX7_init_22 : decode cX7_init 22 = .ok (.newarray .int, 2) := by decide +kernel
theorem dX7_init_24 : decode cX7_init 24 = .ok (.putfield 18, 3) := by decide +kernel
theorem dX7_init_27 : decode cX7_init 27 = .ok (.return_, 1) := by decide +kernel
theorem dX7_clear_0 : decode cX7_clear 0 = .ok (.aload_n 0, 1) := by decide +kernel
theorem dX7_clear_1 : decode cX7_clear 1 = .ok (.iconst 0, 1) := by decide +kernel
theorem dX7_clear_2 : decode cX7_clear 2 = .ok (.putfield 21, 3) := by decide +kernel
theorem dX7_clear_5 : decode cX7_clear 5 = .ok (.aload_n 0, 1) := by decide +kernel
theorem dX7_clear_6 : decode cX7_clear 6 = .ok (.iconst 0, 1) := by decide +kernel
theorem dX7_clear_7 : decode cX7_clear 7 = .ok (.putfield 25, 3) := by decide +kernel
theorem dX7_clear_10 : decode cX7_clear 10 = .ok (.aload_n 0, 1) := by decide +kernel
theorem dX7_clear_11 : decode cX7_clear 11 = .ok (.iconst 0, 1) := by decide +kernel
theorem dX7_clear_12 : decode cX7_clear 12 = .ok (.putfield 28, 3) := by decide +kernel
theorem dX7_clear_15 : decode cX7_clear 15 = .ok (.aload_n 0, 1) := by decide +kernel
theorem dX7_clear_16 : decode cX7_clear 16 = .ok (.getfield 18, 3) := by decide +kernel
theorem dX7_clear_19 : decode cX7_clear 19 = .ok (.iconst 0, 1) := by decide +kernel
theorem dX7_clear_20 : decode cX7_clear 20 = .ok (.iconst 0, 1) := by decide +kernel
theorem dX7_clear_21 : decode cX7_clear 21 = .ok (.iastore, 1) := by decide +kernel
theorem dX7_clear_22 : decode cX7_clear 22 = .ok (.aload_n 0, 1) := by decide +kernel
theorem dX7_clear_23 : decode cX7_clear 23 = .ok (.iconst 1, 1) := by decide +kernel
theorem dX7_clear_24 : decode cX7_clear 24 = .ok (.putfield 31, 3) := by decide +kernel
theorem dX7_clear_27 : decode cX7_clear 27 = .ok (.aload_n 0, 1) := by decide +kernel
theorem dX7_clear_28 : decode cX7_clear 28 = .ok (.iconst 0, 1) := by decide +kernel
theorem dX7_clear_29 : decode cX7_clear 29 = .ok (.putfield 34, 3) := by decide +kernel
theorem dX7_clear_32 : decode cX7_clear 32 = .ok (.aload_n 0, 1) := by decide +kernel
theorem dX7_clear_33 : decode cX7_clear 33 = .ok (.bipush 31, 2) := by decide +kernel
theorem dX7_clear_35 : decode cX7_clear 35 = .ok (.putfield 37, 3) := by decide +kernel
theorem dX7_clear_38 : decode cX7_clear 38 = .ok (.return_, 1) := by decide +kernel
theorem dX7_takeThing_0 : decode cX7_takeThing 0 = .ok (.iload_n 1, 1) := by decide +kernel
theorem dX7_takeThing_1 : decode cX7_takeThing 1 = .ok (.iconst 1, 1) := by decide +kernel
theorem dX7_takeThing_2 : decode cX7_takeThing 2 = .ok (.if_icmp .lt 32, 3) := by decide +kernel
theorem dX7_takeThing_5 : decode cX7_takeThing 5 = .ok (.iload_n 1, 1) := by decide +kernel
theorem dX7_takeThing_6 : decode cX7_takeThing 6 = .ok (.iconst 4, 1) := by decide +kernel
theorem dX7_takeThing_7 : decode cX7_takeThing 7 = .ok (.if_icmp .gt 27, 3) := by decide +kernel
theorem dX7_takeThing_10 : decode cX7_takeThing 10 = .ok (.iload_n 2, 1) := by decide +kernel
theorem dX7_takeThing_11 : decode cX7_takeThing 11 = .ok (.ifCond .lt 23, 3) := by decide +kernel
theorem dX7_takeThing_14 : decode cX7_takeThing 14 = .ok (.iload_n 2, 1) := by decide +kernel
theorem dX7_takeThing_15 : decode cX7_takeThing 15 = .ok (.iconst 1, 1) := by decide +kernel
theorem dX7_takeThing_16 : decode cX7_takeThing 16 = .ok (.if_icmp .gt 18, 3) := by decide +kernel
theorem dX7_takeThing_19 : decode cX7_takeThing 19 = .ok (.aload_n 0, 1) := by decide +kernel
theorem dX7_takeThing_20 : decode cX7_takeThing 20 = .ok (.getfield 21, 3) := by decide +kernel
theorem dX7_takeThing_23 : decode cX7_takeThing 23 = .ok (.iconst 5, 1) := by decide +kernel
theorem dX7_takeThing_24 : decode cX7_takeThing 24 = .ok (.if_icmp .ge 10, 3) := by decide +kernel
theorem dX7_takeThing_27 : decode cX7_takeThing 27 = .ok (.aload_n 0, 1) := by decide +kernel
theorem dX7_takeThing_28 : decode cX7_takeThing 28 = .ok (.getfield 25, 3) := by decide +kernel
theorem dX7_takeThing_31 : decode cX7_takeThing 31 = .ok (.ifCond .le 5, 3) := by decide +kernel
theorem dX7_takeThing_34 : decode cX7_takeThing 34 = .ok (.iconst 0, 1) := by decide +kernel
theorem dX7_takeThing_35 : decode cX7_takeThing 35 = .ok (.ireturn, 1) := by decide +kernel
theorem dX7_takeThing_36 : decode cX7_takeThing 36 = .ok (.iload_n 2, 1) := by decide +kernel
theorem dX7_takeThing_37 : decode cX7_takeThing 37 = .ok (.iconst 1, 1) := by decide +kernel
theorem dX7_takeThing_38 : decode cX7_takeThing 38 = .ok (.if_icmp .ne 13, 3) := by decide +kernel
theorem dX7_takeThing_41 : decode cX7_takeThing 41 = .ok (.aload_n 0, 1) := by decide +kernel
theorem dX7_takeThing_42 : decode cX7_takeThing 42 = .ok (.iload_n 1, 1) := by decide +kernel
theorem dX7_takeThing_43 : decode cX7_takeThing 43 = .ok (.invokevirtual 40, 3) := by decide +kernel
theorem dX7_takeThing_46 : decode cX7_takeThing 46 = .ok (.ifCond .ne 5, 3) := by decide +kernel
theorem dX7_takeThing_49 : decode cX7_takeThing 49 = .ok (.iconst 0, 1) := by decide +kernel
theorem dX7_takeThing_50 : decode cX7_takeThing 50 = .ok (.ireturn, 1) := by decide +kernel
theorem dX7_takeThing_51 : decode cX7_takeThing 51 = .ok (.aload_n 0, 1) := by decide +kernel
theorem dX7_takeThing_52 : decode cX7_takeThing 52 = .ok (.getfield 9, 3) := by decide +kernel
theorem dX7_takeThing_55 : decode cX7_takeThing 55 = .ok (.aload_n 0, 1) := by decide +kernel
theorem dX7_takeThing_56 : decode cX7_takeThing 56 = .ok (.getfield 21, 3) := by decide +kernel
theorem dX7_takeThing_59 : decode cX7_takeThing 59 = .ok (.iload_n 1, 1) := by decide +kernel
theorem dX7_takeThing_60 : decode cX7_takeThing 60 = .ok (.iastore, 1) := by decide +kernel
theorem dX7_takeThing_61 : decode cX7_takeThing 61 = .ok (.aload_n 0, 1) := by decide +kernel
theorem dX7_takeThing_62 : decode cX7_takeThing 62 = .ok (.dup, 1) := by decide +kernel
theorem dX7_takeThing_63 : decode cX7_takeThing 63 = .ok (.getfield 21, 3) := by decide +kernel
theorem dX7_takeThing_66 : decode cX7_takeThing 66 = .ok (.iconst 1, 1) := by decide +kernel
theorem dX7_takeThing_67 : decode cX7_takeThing 67 = .ok (.iadd, 1) := by decide +kernel
theorem dX7_takeThing_68 : decode cX7_takeThing 68 = .ok (.putfield 21, 3) := by decide +kernel
theorem dX7_takeThing_71 : decode cX7_takeThing 71 = .ok (.iconst 1, 1) := by decide +kernel
theorem dX7_takeThing_72 : decode cX7_takeThing 72 = .ok (.ireturn, 1) := by decide +kernel
theorem dX7_takeBorrowed_0 : decode cX7_takeBorrowed 0 = .ok (.aload_n 0, 1) := by decide +kernel
theorem dX7_takeBorrowed_1 : decode cX7_takeBorrowed 1 = .ok (.getfield 28, 3) := by decide +kernel
theorem dX7_takeBorrowed_4 : decode cX7_takeBorrowed 4 = .ok (.invokestatic 44, 3) := by decide +kernel
theorem dX7_takeBorrowed_7 : decode cX7_takeBorrowed 7 = .ok (.iconst 2, 1) := by decide +kernel
theorem dX7_takeBorrowed_8 : decode cX7_takeBorrowed 8 = .ok (.if_icmp .ge 14, 3) := by decide +kernel
theorem dX7_takeBorrowed_11 : decode cX7_takeBorrowed 11 = .ok (.aload_n 0, 1) := by decide +kernel
theorem dX7_takeBorrowed_12 : decode cX7_takeBorrowed 12 = .ok (.getfield 31, 3) := by decide +kernel
theorem dX7_takeBorrowed_15 : decode cX7_takeBorrowed 15 = .ok (.iload_n 1, 1) := by decide +kernel
theorem dX7_takeBorrowed_16 : decode cX7_takeBorrowed 16 = .ok (.imul, 1) := by decide +kernel
theorem dX7_takeBorrowed_17 : decode cX7_takeBorrowed 17 = .ok (.bipush 16, 2) := by decide +kernel
theorem dX7_takeBorrowed_19 : decode cX7_takeBorrowed 19 = .ok (.if_icmp .le 5, 3) := by decide +kernel
theorem dX7_takeBorrowed_22 : decode cX7_takeBorrowed 22 = .ok (.iconst 0, 1) := by decide +kernel
theorem dX7_takeBorrowed_23 : decode cX7_takeBorrowed 23 = .ok (.ireturn, 1) := by decide +kernel
theorem dX7_takeBorrowed_24 : decode cX7_takeBorrowed 24 = .ok (.aload_n 0, 1) := by decide +kernel
theorem dX7_takeBorrowed_25 : decode cX7_takeBorrowed 25 = .ok (.dup, 1) := by decide +kernel
theorem dX7_takeBorrowed_26 : decode cX7_takeBorrowed 26 = .ok (.getfield 28, 3) := by decide +kernel
theorem dX7_takeBorrowed_29 : decode cX7_takeBorrowed 29 = .ok (.iconst 1, 1) := by decide +kernel
theorem dX7_takeBorrowed_30 : decode cX7_takeBorrowed 30 = .ok (.aload_n 0, 1) := by decide +kernel
theorem dX7_takeBorrowed_31 : decode cX7_takeBorrowed 31 = .ok (.getfield 21, 3) := by decide +kernel
theorem dX7_takeBorrowed_34 : decode cX7_takeBorrowed 34 = .ok (.ishl, 1) := by decide +kernel
theorem dX7_takeBorrowed_35 : decode cX7_takeBorrowed 35 = .ok (.ior, 1) := by decide +kernel
theorem dX7_takeBorrowed_36 : decode cX7_takeBorrowed 36 = .ok (.putfield 28, 3) := by decide +kernel
theorem dX7_takeBorrowed_39 : decode cX7_takeBorrowed 39 = .ok (.aload_n 0, 1) := by decide +kernel
theorem dX7_takeBorrowed_40 : decode cX7_takeBorrowed 40 = .ok (.getfield 31, 3) := by decide +kernel
theorem dX7_takeBorrowed_43 : decode cX7_takeBorrowed 43 = .ok (.iconst 1, 1) := by decide +kernel
theorem dX7_takeBorrowed_44 : decode cX7_takeBorrowed 44 = .ok (.isub, 1) := by decide +kernel
theorem dX7_takeBorrowed_45 : decode cX7_takeBorrowed 45 = .ok (.istore_n 2, 1) := by decide +kernel
theorem dX7_takeBorrowed_46 : decode cX7_takeBorrowed 46 = .ok (.iload_n 2, 1) := by decide +kernel
theorem dX7_takeBorrowed_47 : decode cX7_takeBorrowed 47 = .ok (.ifCond .lt 53, 3) := by decide +kernel
theorem dX7_takeBorrowed_50 : decode cX7_takeBorrowed 50 = .ok (.aload_n 0, 1) := by decide +kernel
theorem dX7_takeBorrowed_51 : decode cX7_takeBorrowed 51 = .ok (.getfield 18, 3) := by decide +kernel
theorem dX7_takeBorrowed_54 : decode cX7_takeBorrowed 54 = .ok (.iload_n 2, 1) := by decide +kernel
theorem dX7_takeBorrowed_55 : decode cX7_takeBorrowed 55 = .ok (.iaload, 1) := by decide +kernel
theorem dX7_takeBorrowed_56 : decode cX7_takeBorrowed 56 = .ok (.istore_n 3, 1) := by decide +kernel
theorem dX7_takeBorrowed_57 : decode cX7_takeBorrowed 57 = .ok (.iconst 0, 1) := by decide +kernel
theorem dX7_takeBorrowed_58 : decode cX7_takeBorrowed 58 = .ok (.istore 4, 2) := by decide +kernel
theorem dX7_takeBorrowed_60 : decode cX7_takeBorrowed 60 = .ok (.iload 4, 2) := by decide +kernel
theorem dX7_takeBorrowed_62 : decode cX7_takeBorrowed 62 = .ok (.iload_n 1, 1) := by decide +kernel
theorem dX7_takeBorrowed_63 : decode cX7_takeBorrowed 63 = .ok (.if_icmp .ge 31, 3) := by decide +kernel
theorem dX7_takeBorrowed_66 : decode cX7_takeBorrowed 66 = .ok (.aload_n 0, 1) := by decide +kernel
theorem dX7_takeBorrowed_67 : decode cX7_takeBorrowed 67 = .ok (.getfield 18, 3) := by decide +kernel
theorem dX7_takeBorrowed_70 : decode cX7_takeBorrowed 70 = .ok (.iload_n 2, 1) := by decide +kernel
theorem dX7_takeBorrowed_71 : decode cX7_takeBorrowed 71 = .ok (.iload_n 1, 1) := by decide +kernel
theorem dX7_takeBorrowed_72 : decode cX7_takeBorrowed 72 = .ok (.imul, 1) := by decide +kernel
theorem dX7_takeBorrowed_73 : decode cX7_takeBorrowed 73 = .ok (.iload 4, 2) := by decide +kernel
theorem dX7_takeBorrowed_75 : decode cX7_takeBorrowed 75 = .ok (.iadd, 1) := by decide +kernel
theorem dX7_takeBorrowed_76 : decode cX7_takeBorrowed 76 = .ok (.iload_n 3, 1) := by decide +kernel
theorem dX7_takeBorrowed_77 : decode cX7_takeBorrowed 77 = .ok (.aload_n 0, 1) := by decide +kernel
theorem dX7_takeBorrowed_78 : decode cX7_takeBorrowed 78 = .ok (.getfield 21, 3) := by decide +kernel
theorem dX7_takeBorrowed_81 : decode cX7_takeBorrowed 81 = .ok (.iload 4, 2) := by decide +kernel
theorem dX7_takeBorrowed_83 : decode cX7_takeBorrowed 83 = .ok (.invokestatic 50, 3) := by decide +kernel
theorem dX7_takeBorrowed_86 : decode cX7_takeBorrowed 86 = .ok (.ior, 1) := by decide +kernel
theorem dX7_takeBorrowed_87 : decode cX7_takeBorrowed 87 = .ok (.iastore, 1) := by decide +kernel
theorem dX7_takeBorrowed_88 : decode cX7_takeBorrowed 88 = .ok (.iinc 4 1, 3) := by decide +kernel
theorem dX7_takeBorrowed_91 : decode cX7_takeBorrowed 91 = .ok (.goto (-31), 3) := by decide +kernel
theorem dX7_takeBorrowed_94 : decode cX7_takeBorrowed 94 = .ok (.iinc 2 (-1), 3) := by decide +kernel
theorem dX7_takeBorrowed_97 : decode cX7_takeBorrowed 97 = .ok (.goto (-51), 3) := by decide +kernel
theorem dX7_takeBorrowed_100 : decode cX7_takeBorrowed 100 = .ok (.aload_n 0, 1) := by decide +kernel
theorem dX7_takeBorrowed_101 : decode cX7_takeBorrowed 101 = .ok (.dup, 1) := by decide +kernel
theorem dX7_takeBorrowed_102 : decode cX7_takeBorrowed 102 = .ok (.getfield 31, 3) := by decide +kernel
theorem dX7_takeBorrowed_105 : decode cX7_takeBorrowed 105 = .ok (.iload_n 1, 1) := by decide +kernel
theorem dX7_takeBorrowed_106 : decode cX7_takeBorrowed 106 = .ok (.imul, 1) := by decide +kernel
theorem dX7_takeBorrowed_107 : decode cX7_takeBorrowed 107 = .ok (.putfield 31, 3) := by decide +kernel
theorem dX7_takeBorrowed_110 : decode cX7_takeBorrowed 110 = .ok (.iconst 1, 1) := by decide +kernel
theorem dX7_takeBorrowed_111 : decode cX7_takeBorrowed 111 = .ok (.ireturn, 1) := by decide +kernel
theorem dX7_takePerson_0 : decode cX7_takePerson 0 = .ok (.aload_n 0, 1) := by decide +kernel
theorem dX7_takePerson_1 : decode cX7_takePerson 1 = .ok (.getfield 21, 3) := by decide +kernel
theorem dX7_takePerson_4 : decode cX7_takePerson 4 = .ok (.iconst 1, 1) := by decide +kernel
theorem dX7_takePerson_5 : decode cX7_takePerson 5 = .ok (.if_icmp .lt 22, 3) := by decide +kernel
theorem dX7_takePerson_8 : decode cX7_takePerson 8 = .ok (.iload_n 3, 1) := by decide +kernel
theorem dX7_takePerson_9 : decode cX7_takePerson 9 = .ok (.iload_n 2, 1) := by decide +kernel
theorem dX7_takePerson_10 : decode cX7_takePerson 10 = .ok (.isub, 1) := by decide +kernel
theorem dX7_takePerson_11 : decode cX7_takePerson 11 = .ok (.aload_n 0, 1) := by decide +kernel
theorem dX7_takePerson_12 : decode cX7_takePerson 12 = .ok (.getfield 21, 3) := by decide +kernel
theorem dX7_takePerson_15 : decode cX7_takePerson 15 = .ok (.if_icmp .ne 12, 3) := by decide +kernel
theorem dX7_takePerson_18 : decode cX7_takePerson 18 = .ok (.aload_n 0, 1) := by decide +kernel
theorem dX7_takePerson_19 : decode cX7_takePerson 19 = .ok (.getfield 25, 3) := by decide +kernel
theorem dX7_takePerson_22 : decode cX7_takePerson 22 = .ok (.bipush 9, 2) := by decide +kernel
theorem dX7_takePerson_24 : decode cX7_takePerson 24 = .ok (.if_icmp .lt 5, 3) := by decide +kernel
theorem dX7_takePerson_27 : decode cX7_takePerson 27 = .ok (.iconst 0, 1) := by decide +kernel
theorem dX7_takePerson_28 : decode cX7_takePerson 28 = .ok (.ireturn, 1) := by decide +kernel
theorem dX7_takePerson_29 : decode cX7_takePerson 29 = .ok (.iconst 0, 1) := by decide +kernel
theorem dX7_takePerson_30 : decode cX7_takePerson 30 = .ok (.istore 4, 2) := by decide +kernel
theorem dX7_takePerson_32 : decode cX7_takePerson 32 = .ok (.iconst 0, 1) := by decide +kernel
theorem dX7_takePerson_33 : decode cX7_takePerson 33 = .ok (.istore 5, 2) := by decide +kernel
theorem dX7_takePerson_35 : decode cX7_takePerson 35 = .ok (.iload 5, 2) := by decide +kernel
theorem dX7_takePerson_37 : decode cX7_takePerson 37 = .ok (.aload_n 0, 1) := by decide +kernel
theorem dX7_takePerson_38 : decode cX7_takePerson 38 = .ok (.getfield 21, 3) := by decide +kernel
theorem dX7_takePerson_41 : decode cX7_takePerson 41 = .ok (.if_icmp .ge 51, 3) := by decide +kernel
theorem dX7_takePerson_44 : decode cX7_takePerson 44 = .ok (.aload_n 1, 1) := by decide +kernel
theorem dX7_takePerson_45 : decode cX7_takePerson 45 = .ok (.iload_n 2, 1) := by decide +kernel
theorem dX7_takePerson_46 : decode cX7_takePerson 46 = .ok (.iload 5, 2) := by decide +kernel
theorem dX7_takePerson_48 : decode cX7_takePerson 48 = .ok (.iadd, 1) := by decide +kernel
theorem dX7_takePerson_49 : decode cX7_takePerson 49 = .ok (.baload, 1) := by decide +kernel
theorem dX7_takePerson_50 : decode cX7_takePerson 50 = .ok (.bipush 48, 2) := by decide +kernel
theorem dX7_takePerson_52 : decode cX7_takePerson 52 = .ok (.isub, 1) := by decide +kernel
theorem dX7_takePerson_53 : decode cX7_takePerson 53 = .ok (.istore 6, 2) := by decide +kernel
theorem dX7_takePerson_55 : decode cX7_takePerson 55 = .ok (.iload 6, 2) := by decide +kernel
theorem dX7_takePerson_57 : decode cX7_takePerson 57 = .ok (.ifCond .lt 15, 3) := by decide +kernel
theorem dX7_takePerson_60 : decode cX7_takePerson 60 = .ok (.iload 6, 2) := by decide +kernel
theorem dX7_takePerson_62 : decode cX7_takePerson 62 = .ok (.aload_n 0, 1) := by decide +kernel
theorem dX7_takePerson_63 : decode cX7_takePerson 63 = .ok (.getfield 9, 3) := by decide +kernel
theorem dX7_takePerson_66 : decode cX7_takePerson 66 = .ok (.iload 5, 2) := by decide +kernel
theorem dX7_takePerson_68 : decode cX7_takePerson 68 = .ok (.iaload, 1) := by decide +kernel
theorem dX7_takePerson_69 : decode cX7_takePerson 69 = .ok (.if_icmp .lt 5, 3) := by decide +kernel
theorem dX7_takePerson_72 : decode cX7_takePerson 72 = .ok (.iconst 0, 1) := by decide +kernel
theorem dX7_takePerson_73 : decode cX7_takePerson 73 = .ok (.ireturn, 1) := by decide +kernel
theorem dX7_takePerson_74 : decode cX7_takePerson 74 = .ok (.iload 4, 2) := by decide +kernel
theorem dX7_takePerson_76 : decode cX7_takePerson 76 = .ok (.iload 5, 2) := by decide +kernel
theorem dX7_takePerson_78 : decode cX7_takePerson 78 = .ok (.iload 6, 2) := by decide +kernel
theorem dX7_takePerson_80 : decode cX7_takePerson 80 = .ok (.invokestatic 50, 3) := by decide +kernel
theorem dX7_takePerson_83 : decode cX7_takePerson 83 = .ok (.ior, 1) := by decide +kernel
theorem dX7_takePerson_84 : decode cX7_takePerson 84 = .ok (.istore 4, 2) := by decide +kernel
theorem dX7_takePerson_86 : decode cX7_takePerson 86 = .ok (.iinc 5 1, 3) := by decide +kernel
theorem dX7_takePerson_89 : decode cX7_takePerson 89 = .ok (.goto (-54), 3) := by decide +kernel
theorem dX7_takePerson_92 : decode cX7_takePerson 92 = .ok (.aload_n 0, 1) := by decide +kernel
theorem dX7_takePerson_93 : decode cX7_takePerson 93 = .ok (.getfield 15, 3) := by decide +kernel
theorem dX7_takePerson_96 : decode cX7_takePerson 96 = .ok (.aload_n 0, 1) := by decide +kernel
theorem dX7_takePerson_97 : decode cX7_takePerson 97 = .ok (.getfield 25, 3) := by decide +kernel
theorem dX7_takePerson_100 : decode cX7_takePerson 100 = .ok (.iload 4, 2) := by decide +kernel
theorem dX7_takePerson_102 : decode cX7_takePerson 102 = .ok (.iastore, 1) := by decide +kernel
theorem dX7_takePerson_103 : decode cX7_takePerson 103 = .ok (.aload_n 0, 1) := by decide +kernel
theorem dX7_takePerson_104 : decode cX7_takePerson 104 = .ok (.dup, 1) := by decide +kernel
theorem dX7_takePerson_105 : decode cX7_takePerson 105 = .ok (.getfield 25, 3) := by decide +kernel
theorem dX7_takePerson_108 : decode cX7_takePerson 108 = .ok (.iconst 1, 1) := by decide +kernel
theorem dX7_takePerson_109 : decode cX7_takePerson 109 = .ok (.iadd, 1) := by decide +kernel
theorem dX7_takePerson_110 : decode cX7_takePerson 110 = .ok (.putfield 25, 3) := by decide +kernel
theorem dX7_takePerson_113 : decode cX7_takePerson 113 = .ok (.iconst 1, 1) := by decide +kernel
theorem dX7_takePerson_114 : decode cX7_takePerson 114 = .ok (.ireturn, 1) := by decide +kernel
theorem dX7_takeLaw_0 : decode cX7_takeLaw 0 = .ok (.iload_n 1, 1) := by decide +kernel
theorem dX7_takeLaw_1 : decode cX7_takeLaw 1 = .ok (.ifCond .lt 8, 3) := by decide +kernel
theorem dX7_takeLaw_4 : decode cX7_takeLaw 4 = .ok (.iload_n 1, 1) := by decide +kernel
theorem dX7_takeLaw_5 : decode cX7_takeLaw 5 = .ok (.iconst 3, 1) := by decide +kernel
theorem dX7_takeLaw_6 : decode cX7_takeLaw 6 = .ok (.if_icmp .le 5, 3) := by decide +kernel
theorem dX7_takeLaw_9 : decode cX7_takeLaw 9 = .ok (.iconst 0, 1) := by decide +kernel
theorem dX7_takeLaw_10 : decode cX7_takeLaw 10 = .ok (.ireturn, 1) := by decide +kernel
theorem dX7_takeLaw_11 : decode cX7_takeLaw 11 = .ok (.aload_n 0, 1) := by decide +kernel
theorem dX7_takeLaw_12 : decode cX7_takeLaw 12 = .ok (.iload_n 1, 1) := by decide +kernel
theorem dX7_takeLaw_13 : decode cX7_takeLaw 13 = .ok (.putfield 34, 3) := by decide +kernel
theorem dX7_takeLaw_16 : decode cX7_takeLaw 16 = .ok (.iconst 1, 1) := by decide +kernel
theorem dX7_takeLaw_17 : decode cX7_takeLaw 17 = .ok (.ireturn, 1) := by decide +kernel
theorem dX7_takeGuard_0 : decode cX7_takeGuard 0 = .ok (.iload_n 1, 1) := by decide +kernel
theorem dX7_takeGuard_1 : decode cX7_takeGuard 1 = .ok (.ifCond .lt 9, 3) := by decide +kernel
theorem dX7_takeGuard_4 : decode cX7_takeGuard 4 = .ok (.iload_n 1, 1) := by decide +kernel
theorem dX7_takeGuard_5 : decode cX7_takeGuard 5 = .ok (.bipush 31, 2) := by decide +kernel
theorem dX7_takeGuard_7 : decode cX7_takeGuard 7 = .ok (.if_icmp .le 5, 3) := by decide +kernel
theorem dX7_takeGuard_10 : decode cX7_takeGuard 10 = .ok (.iconst 0, 1) := by decide +kernel
theorem dX7_takeGuard_11 : decode cX7_takeGuard 11 = .ok (.ireturn, 1) := by decide +kernel
theorem dX7_takeGuard_12 : decode cX7_takeGuard 12 = .ok (.aload_n 0, 1) := by decide +kernel
theorem dX7_takeGuard_13 : decode cX7_takeGuard 13 = .ok (.iload_n 1, 1) := by decide +kernel
theorem dX7_takeGuard_14 : decode cX7_takeGuard 14 = .ok (.putfield 37, 3) := by decide +kernel
theorem dX7_takeGuard_17 : decode cX7_takeGuard 17 = .ok (.iconst 1, 1) := by decide +kernel
theorem dX7_takeGuard_18 : decode cX7_takeGuard 18 = .ok (.ireturn, 1) := by decide +kernel
theorem dX7_hasPerson_0 : decode cX7_hasPerson 0 = .ok (.iload_n 1, 1) := by decide +kernel
theorem dX7_hasPerson_1 : decode cX7_hasPerson 1 = .ok (.ifCond .lt 15, 3) := by decide +kernel
theorem dX7_hasPerson_4 : decode cX7_hasPerson 4 = .ok (.iload_n 1, 1) := by decide +kernel
theorem dX7_hasPerson_5 : decode cX7_hasPerson 5 = .ok (.aload_n 0, 1) := by decide +kernel
theorem dX7_hasPerson_6 : decode cX7_hasPerson 6 = .ok (.getfield 25, 3) := by decide +kernel
theorem dX7_hasPerson_9 : decode cX7_hasPerson 9 = .ok (.if_icmp .ge 7, 3) := by decide +kernel
theorem dX7_hasPerson_12 : decode cX7_hasPerson 12 = .ok (.iconst 1, 1) := by decide +kernel
theorem dX7_hasPerson_13 : decode cX7_hasPerson 13 = .ok (.goto 4, 3) := by decide +kernel
theorem dX7_hasPerson_16 : decode cX7_hasPerson 16 = .ok (.iconst 0, 1) := by decide +kernel
theorem dX7_hasPerson_17 : decode cX7_hasPerson 17 = .ok (.ireturn, 1) := by decide +kernel
theorem dX7_hasThing_0 : decode cX7_hasThing 0 = .ok (.iload_n 1, 1) := by decide +kernel
theorem dX7_hasThing_1 : decode cX7_hasThing 1 = .ok (.ifCond .lt 15, 3) := by decide +kernel
theorem dX7_hasThing_4 : decode cX7_hasThing 4 = .ok (.iload_n 1, 1) := by decide +kernel
theorem dX7_hasThing_5 : decode cX7_hasThing 5 = .ok (.aload_n 0, 1) := by decide +kernel
theorem dX7_hasThing_6 : decode cX7_hasThing 6 = .ok (.getfield 21, 3) := by decide +kernel
theorem dX7_hasThing_9 : decode cX7_hasThing 9 = .ok (.if_icmp .ge 7, 3) := by decide +kernel
theorem dX7_hasThing_12 : decode cX7_hasThing 12 = .ok (.iconst 1, 1) := by decide +kernel
theorem dX7_hasThing_13 : decode cX7_hasThing 13 = .ok (.goto 4, 3) := by decide +kernel
theorem dX7_hasThing_16 : decode cX7_hasThing 16 = .ok (.iconst 0, 1) := by decide +kernel
theorem dX7_hasThing_17 : decode cX7_hasThing 17 = .ok (.ireturn, 1) := by decide +kernel
theorem dX7_allThings_0 : decode cX7_allThings 0 = .ok (.iconst 1, 1) := by decide +kernel
theorem dX7_allThings_1 : decode cX7_allThings 1 = .ok (.aload_n 0, 1) := by decide +kernel
theorem dX7_allThings_2 : decode cX7_allThings 2 = .ok (.getfield 21, 3) := by decide +kernel
theorem dX7_allThings_5 : decode cX7_allThings 5 = .ok (.ishl, 1) := by decide +kernel
theorem dX7_allThings_6 : decode cX7_allThings 6 = .ok (.iconst 1, 1) := by decide +kernel
theorem dX7_allThings_7 : decode cX7_allThings 7 = .ok (.isub, 1) := by decide +kernel
theorem dX7_allThings_8 : decode cX7_allThings 8 = .ok (.ireturn, 1) := by decide +kernel
theorem dX7_sees_0 : decode cX7_sees 0 = .ok (.aload_n 0, 1) := by decide +kernel
theorem dX7_sees_1 : decode cX7_sees 1 = .ok (.getfield 37, 3) := by decide +kernel
theorem dX7_sees_4 : decode cX7_sees 4 = .ok (.iconst 1, 1) := by decide +kernel
theorem dX7_sees_5 : decode cX7_sees 5 = .ok (.aload_n 0, 1) := by decide +kernel
theorem dX7_sees_6 : decode cX7_sees 6 = .ok (.getfield 21, 3) := by decide +kernel
theorem dX7_sees_9 : decode cX7_sees 9 = .ok (.ishl, 1) := by decide +kernel
theorem dX7_sees_10 : decode cX7_sees 10 = .ok (.iconst 1, 1) := by decide +kernel
theorem dX7_sees_11 : decode cX7_sees 11 = .ok (.isub, 1) := by decide +kernel
theorem dX7_sees_12 : decode cX7_sees 12 = .ok (.iand, 1) := by decide +kernel
theorem dX7_sees_13 : decode cX7_sees 13 = .ok (.ireturn, 1) := by decide +kernel
theorem dX7_thingsOfMoreThan_0 : decode cX7_thingsOfMoreThan 0 = .ok (.iconst 0, 1) := by decide +kernel
theorem dX7_thingsOfMoreThan_1 : decode cX7_thingsOfMoreThan 1 = .ok (.istore_n 2, 1) := by decide +kernel
theorem dX7_thingsOfMoreThan_2 : decode cX7_thingsOfMoreThan 2 = .ok (.iconst 0, 1) := by decide +kernel
theorem dX7_thingsOfMoreThan_3 : decode cX7_thingsOfMoreThan 3 = .ok (.istore_n 3, 1) := by decide +kernel
theorem dX7_thingsOfMoreThan_4 : decode cX7_thingsOfMoreThan 4 = .ok (.iload_n 3, 1) := by decide +kernel
theorem dX7_thingsOfMoreThan_5 : decode cX7_thingsOfMoreThan 5 = .ok (.aload_n 0, 1) := by decide +kernel
theorem dX7_thingsOfMoreThan_6 : decode cX7_thingsOfMoreThan 6 = .ok (.getfield 21, 3) := by decide +kernel
theorem dX7_thingsOfMoreThan_9 : decode cX7_thingsOfMoreThan 9 = .ok (.if_icmp .ge 25, 3) := by decide +kernel
theorem dX7_thingsOfMoreThan_12 : decode cX7_thingsOfMoreThan 12 = .ok (.aload_n 0, 1) := by decide +kernel
theorem dX7_thingsOfMoreThan_13 : decode cX7_thingsOfMoreThan 13 = .ok (.getfield 9, 3) := by decide +kernel
theorem dX7_thingsOfMoreThan_16 : decode cX7_thingsOfMoreThan 16 = .ok (.iload_n 3, 1) := by decide +kernel
theorem dX7_thingsOfMoreThan_17 : decode cX7_thingsOfMoreThan 17 = .ok (.iaload, 1) := by decide +kernel
theorem dX7_thingsOfMoreThan_18 : decode cX7_thingsOfMoreThan 18 = .ok (.iload_n 1, 1) := by decide +kernel
theorem dX7_thingsOfMoreThan_19 : decode cX7_thingsOfMoreThan 19 = .ok (.if_icmp .le 9, 3) := by decide +kernel
theorem dX7_thingsOfMoreThan_22 : decode cX7_thingsOfMoreThan 22 = .ok (.iload_n 2, 1) := by decide +kernel
theorem dX7_thingsOfMoreThan_23 : decode cX7_thingsOfMoreThan 23 = .ok (.iconst 1, 1) := by decide +kernel
theorem dX7_thingsOfMoreThan_24 : decode cX7_thingsOfMoreThan 24 = .ok (.iload_n 3, 1) := by decide +kernel
theorem dX7_thingsOfMoreThan_25 : decode cX7_thingsOfMoreThan 25 = .ok (.ishl, 1) := by decide +kernel
theorem dX7_thingsOfMoreThan_26 : decode cX7_thingsOfMoreThan 26 = .ok (.ior, 1) := by decide +kernel
theorem dX7_thingsOfMoreThan_27 : decode cX7_thingsOfMoreThan 27 = .ok (.istore_n 2, 1) := by decide +kernel
theorem dX7_thingsOfMoreThan_28 : decode cX7_thingsOfMoreThan 28 = .ok (.iinc 3 1, 3) := by decide +kernel
theorem dX7_thingsOfMoreThan_31 : decode cX7_thingsOfMoreThan 31 = .ok (.goto (-27), 3) := by decide +kernel
theorem dX7_thingsOfMoreThan_34 : decode cX7_thingsOfMoreThan 34 = .ok (.iload_n 2, 1) := by decide +kernel
theorem dX7_thingsOfMoreThan_35 : decode cX7_thingsOfMoreThan 35 = .ok (.ireturn, 1) := by decide +kernel
theorem dX7_look_0 : decode cX7_look 0 = .ok (.iload_n 1, 1) := by decide +kernel
theorem dX7_look_1 : decode cX7_look 1 = .ok (.ifCond .lt 20, 3) := by decide +kernel
theorem dX7_look_4 : decode cX7_look 4 = .ok (.iload_n 1, 1) := by decide +kernel
theorem dX7_look_5 : decode cX7_look 5 = .ok (.aload_n 0, 1) := by decide +kernel
theorem dX7_look_6 : decode cX7_look 6 = .ok (.getfield 25, 3) := by decide +kernel
theorem dX7_look_9 : decode cX7_look 9 = .ok (.if_icmp .ge 12, 3) := by decide +kernel
theorem dX7_look_12 : decode cX7_look 12 = .ok (.aload_n 0, 1) := by decide +kernel
theorem dX7_look_13 : decode cX7_look 13 = .ok (.getfield 15, 3) := by decide +kernel
theorem dX7_look_16 : decode cX7_look 16 = .ok (.iload_n 1, 1) := by decide +kernel
theorem dX7_look_17 : decode cX7_look 17 = .ok (.iaload, 1) := by decide +kernel
theorem dX7_look_18 : decode cX7_look 18 = .ok (.goto 4, 3) := by decide +kernel
theorem dX7_look_21 : decode cX7_look 21 = .ok (.iconst 0, 1) := by decide +kernel
theorem dX7_look_22 : decode cX7_look 22 = .ok (.ireturn, 1) := by decide +kernel
theorem dX7_seenUnlike_0 : decode cX7_seenUnlike 0 = .ok (.aload_n 0, 1) := by decide +kernel
theorem dX7_seenUnlike_1 : decode cX7_seenUnlike 1 = .ok (.iload_n 1, 1) := by decide +kernel
theorem dX7_seenUnlike_2 : decode cX7_seenUnlike 2 = .ok (.invokevirtual 54, 3) := by decide +kernel
theorem dX7_seenUnlike_5 : decode cX7_seenUnlike 5 = .ok (.aload_n 0, 1) := by decide +kernel
theorem dX7_seenUnlike_6 : decode cX7_seenUnlike 6 = .ok (.iload_n 2, 1) := by decide +kernel
theorem dX7_seenUnlike_7 : decode cX7_seenUnlike 7 = .ok (.invokevirtual 54, 3) := by decide +kernel
theorem dX7_seenUnlike_10 : decode cX7_seenUnlike 10 = .ok (.invokestatic 57, 3) := by decide +kernel
theorem dX7_seenUnlike_13 : decode cX7_seenUnlike 13 = .ok (.aload_n 0, 1) := by decide +kernel
theorem dX7_seenUnlike_14 : decode cX7_seenUnlike 14 = .ok (.invokevirtual 60, 3) := by decide +kernel
theorem dX7_seenUnlike_17 : decode cX7_seenUnlike 17 = .ok (.iand, 1) := by decide +kernel
theorem dX7_seenUnlike_18 : decode cX7_seenUnlike 18 = .ok (.ireturn, 1) := by decide +kernel
theorem dX7_code_0 : decode cX7_code 0 = .ok (.iconst 0, 1) := by decide +kernel
theorem dX7_code_1 : decode cX7_code 1 = .ok (.istore_n 2, 1) := by decide +kernel
theorem dX7_code_2 : decode cX7_code 2 = .ok (.iconst 0, 1) := by decide +kernel
theorem dX7_code_3 : decode cX7_code 3 = .ok (.istore_n 3, 1) := by decide +kernel
theorem dX7_code_4 : decode cX7_code 4 = .ok (.iload_n 3, 1) := by decide +kernel
theorem dX7_code_5 : decode cX7_code 5 = .ok (.aload_n 0, 1) := by decide +kernel
theorem dX7_code_6 : decode cX7_code 6 = .ok (.getfield 21, 3) := by decide +kernel
theorem dX7_code_9 : decode cX7_code 9 = .ok (.if_icmp .ge 24, 3) := by decide +kernel
theorem dX7_code_12 : decode cX7_code 12 = .ok (.iload_n 2, 1) := by decide +kernel
theorem dX7_code_13 : decode cX7_code 13 = .ok (.aload_n 0, 1) := by decide +kernel
theorem dX7_code_14 : decode cX7_code 14 = .ok (.getfield 9, 3) := by decide +kernel
theorem dX7_code_17 : decode cX7_code 17 = .ok (.iload_n 3, 1) := by decide +kernel
theorem dX7_code_18 : decode cX7_code 18 = .ok (.iaload, 1) := by decide +kernel
theorem dX7_code_19 : decode cX7_code 19 = .ok (.imul, 1) := by decide +kernel
theorem dX7_code_20 : decode cX7_code 20 = .ok (.iload_n 1, 1) := by decide +kernel
theorem dX7_code_21 : decode cX7_code 21 = .ok (.iload_n 3, 1) := by decide +kernel
theorem dX7_code_22 : decode cX7_code 22 = .ok (.invokestatic 64, 3) := by decide +kernel
theorem dX7_code_25 : decode cX7_code 25 = .ok (.iadd, 1) := by decide +kernel
theorem dX7_code_26 : decode cX7_code 26 = .ok (.istore_n 2, 1) := by decide +kernel
theorem dX7_code_27 : decode cX7_code 27 = .ok (.iinc 3 1, 3) := by decide +kernel
theorem dX7_code_30 : decode cX7_code 30 = .ok (.goto (-26), 3) := by decide +kernel
theorem dX7_code_33 : decode cX7_code 33 = .ok (.iload_n 2, 1) := by decide +kernel
theorem dX7_code_34 : decode cX7_code 34 = .ok (.ireturn, 1) := by decide +kernel
theorem dX7_codes_0 : decode cX7_codes 0 = .ok (.iconst 1, 1) := by decide +kernel
theorem dX7_codes_1 : decode cX7_codes 1 = .ok (.istore_n 1, 1) := by decide +kernel
theorem dX7_codes_2 : decode cX7_codes 2 = .ok (.iconst 0, 1) := by decide +kernel
theorem dX7_codes_3 : decode cX7_codes 3 = .ok (.istore_n 2, 1) := by decide +kernel
theorem dX7_codes_4 : decode cX7_codes 4 = .ok (.iload_n 2, 1) := by decide +kernel
theorem dX7_codes_5 : decode cX7_codes 5 = .ok (.aload_n 0, 1) := by decide +kernel
theorem dX7_codes_6 : decode cX7_codes 6 = .ok (.getfield 21, 3) := by decide +kernel
theorem dX7_codes_9 : decode cX7_codes 9 = .ok (.if_icmp .ge 18, 3) := by decide +kernel
theorem dX7_codes_12 : decode cX7_codes 12 = .ok (.iload_n 1, 1) := by decide +kernel
theorem dX7_codes_13 : decode cX7_codes 13 = .ok (.aload_n 0, 1) := by decide +kernel
theorem dX7_codes_14 : decode cX7_codes 14 = .ok (.getfield 9, 3) := by decide +kernel
theorem dX7_codes_17 : decode cX7_codes 17 = .ok (.iload_n 2, 1) := by decide +kernel
theorem dX7_codes_18 : decode cX7_codes 18 = .ok (.iaload, 1) := by decide +kernel
theorem dX7_codes_19 : decode cX7_codes 19 = .ok (.imul, 1) := by decide +kernel
theorem dX7_codes_20 : decode cX7_codes 20 = .ok (.istore_n 1, 1) := by decide +kernel
theorem dX7_codes_21 : decode cX7_codes 21 = .ok (.iinc 2 1, 3) := by decide +kernel
theorem dX7_codes_24 : decode cX7_codes 24 = .ok (.goto (-20), 3) := by decide +kernel
theorem dX7_codes_27 : decode cX7_codes 27 = .ok (.iload_n 1, 1) := by decide +kernel
theorem dX7_codes_28 : decode cX7_codes 28 = .ok (.ireturn, 1) := by decide +kernel
theorem dX7_lookOfCode_0 : decode cX7_lookOfCode 0 = .ok (.iconst 0, 1) := by decide +kernel
theorem dX7_lookOfCode_1 : decode cX7_lookOfCode 1 = .ok (.istore_n 2, 1) := by decide +kernel
theorem dX7_lookOfCode_2 : decode cX7_lookOfCode 2 = .ok (.iload_n 1, 1) := by decide +kernel
theorem dX7_lookOfCode_3 : decode cX7_lookOfCode 3 = .ok (.istore_n 3, 1) := by decide +kernel
theorem dX7_lookOfCode_4 : decode cX7_lookOfCode 4 = .ok (.aload_n 0, 1) := by decide +kernel
theorem dX7_lookOfCode_5 : decode cX7_lookOfCode 5 = .ok (.getfield 21, 3) := by decide +kernel
theorem dX7_lookOfCode_8 : decode cX7_lookOfCode 8 = .ok (.iconst 1, 1) := by decide +kernel
theorem dX7_lookOfCode_9 : decode cX7_lookOfCode 9 = .ok (.isub, 1) := by decide +kernel
theorem dX7_lookOfCode_10 : decode cX7_lookOfCode 10 = .ok (.istore 4, 2) := by decide +kernel
theorem dX7_lookOfCode_12 : decode cX7_lookOfCode 12 = .ok (.iload 4, 2) := by decide +kernel
theorem dX7_lookOfCode_14 : decode cX7_lookOfCode 14 = .ok (.ifCond .lt 40, 3) := by decide +kernel
theorem dX7_lookOfCode_17 : decode cX7_lookOfCode 17 = .ok (.aload_n 0, 1) := by decide +kernel
theorem dX7_lookOfCode_18 : decode cX7_lookOfCode 18 = .ok (.getfield 9, 3) := by decide +kernel
theorem dX7_lookOfCode_21 : decode cX7_lookOfCode 21 = .ok (.iload 4, 2) := by decide +kernel
theorem dX7_lookOfCode_23 : decode cX7_lookOfCode 23 = .ok (.iaload, 1) := by decide +kernel
theorem dX7_lookOfCode_24 : decode cX7_lookOfCode 24 = .ok (.istore 5, 2) := by decide +kernel
theorem dX7_lookOfCode_26 : decode cX7_lookOfCode 26 = .ok (.iload 5, 2) := by decide +kernel
theorem dX7_lookOfCode_28 : decode cX7_lookOfCode 28 = .ok (.ifCond .le 20, 3) := by decide +kernel
theorem dX7_lookOfCode_31 : decode cX7_lookOfCode 31 = .ok (.iload_n 2, 1) := by decide +kernel
theorem dX7_lookOfCode_32 : decode cX7_lookOfCode 32 = .ok (.iload 4, 2) := by decide +kernel
theorem dX7_lookOfCode_34 : decode cX7_lookOfCode 34 = .ok (.iload_n 3, 1) := by decide +kernel
theorem dX7_lookOfCode_35 : decode cX7_lookOfCode 35 = .ok (.iload 5, 2) := by decide +kernel
theorem dX7_lookOfCode_37 : decode cX7_lookOfCode 37 = .ok (.irem, 1) := by decide +kernel
theorem dX7_lookOfCode_38 : decode cX7_lookOfCode 38 = .ok (.invokestatic 50, 3) := by decide +kernel
theorem dX7_lookOfCode_41 : decode cX7_lookOfCode 41 = .ok (.ior, 1) := by decide +kernel
theorem dX7_lookOfCode_42 : decode cX7_lookOfCode 42 = .ok (.istore_n 2, 1) := by decide +kernel
theorem dX7_lookOfCode_43 : decode cX7_lookOfCode 43 = .ok (.iload_n 3, 1) := by decide +kernel
theorem dX7_lookOfCode_44 : decode cX7_lookOfCode 44 = .ok (.iload 5, 2) := by decide +kernel
theorem dX7_lookOfCode_46 : decode cX7_lookOfCode 46 = .ok (.idiv, 1) := by decide +kernel
theorem dX7_lookOfCode_47 : decode cX7_lookOfCode 47 = .ok (.istore_n 3, 1) := by decide +kernel
theorem dX7_lookOfCode_48 : decode cX7_lookOfCode 48 = .ok (.iinc 4 (-1), 3) := by decide +kernel
theorem dX7_lookOfCode_51 : decode cX7_lookOfCode 51 = .ok (.goto (-39), 3) := by decide +kernel
theorem dX7_lookOfCode_54 : decode cX7_lookOfCode 54 = .ok (.iload_n 2, 1) := by decide +kernel
theorem dX7_lookOfCode_55 : decode cX7_lookOfCode 55 = .ok (.ireturn, 1) := by decide +kernel
theorem dX7_lookWithHat_0 : decode cX7_lookWithHat 0 = .ok (.iload_n 1, 1) := by decide +kernel
theorem dX7_lookWithHat_1 : decode cX7_lookWithHat 1 = .ok (.aload_n 0, 1) := by decide +kernel
theorem dX7_lookWithHat_2 : decode cX7_lookWithHat 2 = .ok (.getfield 28, 3) := by decide +kernel
theorem dX7_lookWithHat_5 : decode cX7_lookWithHat 5 = .ok (.aload_n 0, 1) := by decide +kernel
theorem dX7_lookWithHat_6 : decode cX7_lookWithHat 6 = .ok (.getfield 28, 3) := by decide +kernel
theorem dX7_lookWithHat_9 : decode cX7_lookWithHat 9 = .ok (.iconst 5, 1) := by decide +kernel
theorem dX7_lookWithHat_10 : decode cX7_lookWithHat 10 = .ok (.ishl, 1) := by decide +kernel
theorem dX7_lookWithHat_11 : decode cX7_lookWithHat 11 = .ok (.ior, 1) := by decide +kernel
theorem dX7_lookWithHat_12 : decode cX7_lookWithHat 12 = .ok (.iconst (-1), 1) := by decide +kernel
theorem dX7_lookWithHat_13 : decode cX7_lookWithHat 13 = .ok (.ixor, 1) := by decide +kernel
theorem dX7_lookWithHat_14 : decode cX7_lookWithHat 14 = .ok (.iand, 1) := by decide +kernel
theorem dX7_lookWithHat_15 : decode cX7_lookWithHat 15 = .ok (.istore_n 3, 1) := by decide +kernel
theorem dX7_lookWithHat_16 : decode cX7_lookWithHat 16 = .ok (.iload_n 2, 1) := by decide +kernel
theorem dX7_lookWithHat_17 : decode cX7_lookWithHat 17 = .ok (.ifCond .lt 22, 3) := by decide +kernel
theorem dX7_lookWithHat_20 : decode cX7_lookWithHat 20 = .ok (.iload_n 2, 1) := by decide +kernel
theorem dX7_lookWithHat_21 : decode cX7_lookWithHat 21 = .ok (.aload_n 0, 1) := by decide +kernel
theorem dX7_lookWithHat_22 : decode cX7_lookWithHat 22 = .ok (.getfield 31, 3) := by decide +kernel
theorem dX7_lookWithHat_25 : decode cX7_lookWithHat 25 = .ok (.if_icmp .ge 14, 3) := by decide +kernel
theorem dX7_lookWithHat_28 : decode cX7_lookWithHat 28 = .ok (.iload_n 3, 1) := by decide +kernel
theorem dX7_lookWithHat_29 : decode cX7_lookWithHat 29 = .ok (.aload_n 0, 1) := by decide +kernel
theorem dX7_lookWithHat_30 : decode cX7_lookWithHat 30 = .ok (.getfield 18, 3) := by decide +kernel
theorem dX7_lookWithHat_33 : decode cX7_lookWithHat 33 = .ok (.iload_n 2, 1) := by decide +kernel
theorem dX7_lookWithHat_34 : decode cX7_lookWithHat 34 = .ok (.iaload, 1) := by decide +kernel
theorem dX7_lookWithHat_35 : decode cX7_lookWithHat 35 = .ok (.ior, 1) := by decide +kernel
theorem dX7_lookWithHat_36 : decode cX7_lookWithHat 36 = .ok (.goto 4, 3) := by decide +kernel
theorem dX7_lookWithHat_39 : decode cX7_lookWithHat 39 = .ok (.iload_n 1, 1) := by decide +kernel
theorem dX7_lookWithHat_40 : decode cX7_lookWithHat 40 = .ok (.ireturn, 1) := by decide +kernel
theorem dX7_lets_0 : decode cX7_lets 0 = .ok (.iload_n 1, 1) := by decide +kernel
theorem dX7_lets_1 : decode cX7_lets 1 = .ok (.invokestatic 44, 3) := by decide +kernel
theorem dX7_lets_4 : decode cX7_lets 4 = .ok (.istore_n 3, 1) := by decide +kernel
theorem dX7_lets_5 : decode cX7_lets 5 = .ok (.aload_n 0, 1) := by decide +kernel
theorem dX7_lets_6 : decode cX7_lets 6 = .ok (.getfield 34, 3) := by decide +kernel
theorem dX7_lets_9 : decode cX7_lets 9 = .ok (.tableswitch 65 1 3 #[27, 38, 54], 27) := by decide +kernel
theorem dX7_lets_36 : decode cX7_lets 36 = .ok (.iload_n 3, 1) := by decide +kernel
theorem dX7_lets_37 : decode cX7_lets 37 = .ok (.iconst 2, 1) := by decide +kernel
theorem dX7_lets_38 : decode cX7_lets 38 = .ok (.if_icmp .ne 7, 3) := by decide +kernel
theorem dX7_lets_41 : decode cX7_lets 41 = .ok (.iconst 1, 1) := by decide +kernel
theorem dX7_lets_42 : decode cX7_lets 42 = .ok (.goto 4, 3) := by decide +kernel
theorem dX7_lets_45 : decode cX7_lets 45 = .ok (.iconst 0, 1) := by decide +kernel
theorem dX7_lets_46 : decode cX7_lets 46 = .ok (.ireturn, 1) := by decide +kernel
theorem dX7_lets_47 : decode cX7_lets 47 = .ok (.iload_n 3, 1) := by decide +kernel
theorem dX7_lets_48 : decode cX7_lets 48 = .ok (.iconst 1, 1) := by decide +kernel
theorem dX7_lets_49 : decode cX7_lets 49 = .ok (.if_icmp .ne 12, 3) := by decide +kernel
theorem dX7_lets_52 : decode cX7_lets 52 = .ok (.iload_n 1, 1) := by decide +kernel
theorem dX7_lets_53 : decode cX7_lets 53 = .ok (.iload_n 2, 1) := by decide +kernel
theorem dX7_lets_54 : decode cX7_lets 54 = .ok (.if_icmp .eq 7, 3) := by decide +kernel
theorem dX7_lets_57 : decode cX7_lets 57 = .ok (.iconst 1, 1) := by decide +kernel
theorem dX7_lets_58 : decode cX7_lets 58 = .ok (.goto 4, 3) := by decide +kernel
theorem dX7_lets_61 : decode cX7_lets 61 = .ok (.iconst 0, 1) := by decide +kernel
theorem dX7_lets_62 : decode cX7_lets 62 = .ok (.ireturn, 1) := by decide +kernel
theorem dX7_lets_63 : decode cX7_lets 63 = .ok (.iload_n 3, 1) := by decide +kernel
theorem dX7_lets_64 : decode cX7_lets 64 = .ok (.iconst 1, 1) := by decide +kernel
theorem dX7_lets_65 : decode cX7_lets 65 = .ok (.if_icmp .gt 7, 3) := by decide +kernel
theorem dX7_lets_68 : decode cX7_lets 68 = .ok (.iconst 1, 1) := by decide +kernel
theorem dX7_lets_69 : decode cX7_lets 69 = .ok (.goto 4, 3) := by decide +kernel
theorem dX7_lets_72 : decode cX7_lets 72 = .ok (.iconst 0, 1) := by decide +kernel
theorem dX7_lets_73 : decode cX7_lets 73 = .ok (.ireturn, 1) := by decide +kernel
theorem dX7_lets_74 : decode cX7_lets 74 = .ok (.iload_n 3, 1) := by decide +kernel
theorem dX7_lets_75 : decode cX7_lets 75 = .ok (.iconst 1, 1) := by decide +kernel
theorem dX7_lets_76 : decode cX7_lets 76 = .ok (.if_icmp .ne 7, 3) := by decide +kernel
theorem dX7_lets_79 : decode cX7_lets 79 = .ok (.iconst 1, 1) := by decide +kernel
theorem dX7_lets_80 : decode cX7_lets 80 = .ok (.goto 4, 3) := by decide +kernel
theorem dX7_lets_83 : decode cX7_lets 83 = .ok (.iconst 0, 1) := by decide +kernel
theorem dX7_lets_84 : decode cX7_lets 84 = .ok (.ireturn, 1) := by decide +kernel
theorem dX7_barBehind_0 : decode cX7_barBehind 0 = .ok (.aload_n 0, 1) := by decide +kernel
theorem dX7_barBehind_1 : decode cX7_barBehind 1 = .ok (.getfield 34, 3) := by decide +kernel
theorem dX7_barBehind_4 : decode cX7_barBehind 4 = .ok (.iconst 2, 1) := by decide +kernel
theorem dX7_barBehind_5 : decode cX7_barBehind 5 = .ok (.if_icmp .ne 30, 3) := by decide +kernel
theorem dX7_barBehind_8 : decode cX7_barBehind 8 = .ok (.iconst 0, 1) := by decide +kernel
theorem dX7_barBehind_9 : decode cX7_barBehind 9 = .ok (.istore_n 2, 1) := by decide +kernel
theorem dX7_barBehind_10 : decode cX7_barBehind 10 = .ok (.iload_n 2, 1) := by decide +kernel
theorem dX7_barBehind_11 : decode cX7_barBehind 11 = .ok (.aload_n 0, 1) := by decide +kernel
theorem dX7_barBehind_12 : decode cX7_barBehind 12 = .ok (.getfield 21, 3) := by decide +kernel
theorem dX7_barBehind_15 : decode cX7_barBehind 15 = .ok (.if_icmp .ge 20, 3) := by decide +kernel
theorem dX7_barBehind_18 : decode cX7_barBehind 18 = .ok (.iload_n 1, 1) := by decide +kernel
theorem dX7_barBehind_19 : decode cX7_barBehind 19 = .ok (.iconst 1, 1) := by decide +kernel
theorem dX7_barBehind_20 : decode cX7_barBehind 20 = .ok (.iload_n 2, 1) := by decide +kernel
theorem dX7_barBehind_21 : decode cX7_barBehind 21 = .ok (.ishl, 1) := by decide +kernel
theorem dX7_barBehind_22 : decode cX7_barBehind 22 = .ok (.if_icmp .ne 7, 3) := by decide +kernel
theorem dX7_barBehind_25 : decode cX7_barBehind 25 = .ok (.iload_n 2, 1) := by decide +kernel
theorem dX7_barBehind_26 : decode cX7_barBehind 26 = .ok (.iconst 1, 1) := by decide +kernel
theorem dX7_barBehind_27 : decode cX7_barBehind 27 = .ok (.iadd, 1) := by decide +kernel
