theorem d_E_byteAt_0 : decode b_E_byteAt 0 = .ok (.aload_n 0, 1) := by decide +kernel
theorem d_E_byteAt_1 : decode b_E_byteAt 1 = .ok (.getfield 9, 3) := by decide +kernel
theorem d_E_byteAt_4 : decode b_E_byteAt 4 = .ok (.iload_n 1, 1) := by decide +kernel
theorem d_E_byteAt_5 : decode b_E_byteAt 5 = .ok (.baload, 1) := by decide +kernel
theorem d_E_byteAt_6 : decode b_E_byteAt 6 = .ok (.sipush 255, 3) := by decide +kernel
theorem d_E_byteAt_9 : decode b_E_byteAt 9 = .ok (.iand, 1) := by decide +kernel
theorem d_E_byteAt_10 : decode b_E_byteAt 10 = .ok (.ireturn, 1) := by decide +kernel
theorem d_E_init_0 : decode b_E_init 0 = .ok (.aload_n 0, 1) := by decide +kernel
theorem d_E_init_1 : decode b_E_init 1 = .ok (.invokespecial 3, 3) := by decide +kernel
theorem d_E_init_4 : decode b_E_init 4 = .ok (.aload_n 0, 1) := by decide +kernel
theorem d_E_init_5 : decode b_E_init 5 = .ok (.sipush 512, 3) := by decide +kernel
theorem d_E_init_8 : decode b_E_init 8 = .ok (.newarray .byte, 2) := by decide +kernel
theorem d_E_init_10 : decode b_E_init 10 = .ok (.putfield 9, 3) := by decide +kernel
theorem d_E_init_13 : decode b_E_init 13 = .ok (.aload_n 0, 1) := by decide +kernel
theorem d_E_init_14 : decode b_E_init 14 = .ok (.bipush 64, 2) := by decide +kernel
theorem d_E_init_16 : decode b_E_init 16 = .ok (.newarray .boolean, 2) := by decide +kernel
theorem d_E_init_18 : decode b_E_init 18 = .ok (.putfield 15, 3) := by decide +kernel
theorem d_E_init_21 : decode b_E_init 21 = .ok (.return_, 1) := by decide +kernel
theorem d_E_loadCapability_0 : decode b_E_loadCapability 0 = .ok (.aload_n 2, 1) := by decide +kernel
theorem d_E_loadCapability_1 : decode b_E_loadCapability 1 = .ok (.aload_n 0, 1) := by decide +kernel
theorem d_E_loadCapability_2 : decode b_E_loadCapability 2 = .ok (.getfield 15, 3) := by decide +kernel
theorem d_E_loadCapability_5 : decode b_E_loadCapability 5 = .ok (.iload_n 1, 1) := by decide +kernel
theorem d_E_loadCapability_6 : decode b_E_loadCapability 6 = .ok (.bipush 8, 2) := by decide +kernel
theorem d_E_loadCapability_8 : decode b_E_loadCapability 8 = .ok (.idiv, 1) := by decide +kernel
theorem d_E_loadCapability_9 : decode b_E_loadCapability 9 = .ok (.baload, 1) := by decide +kernel
theorem d_E_loadCapability_10 : decode b_E_loadCapability 10 = .ok (.aload_n 0, 1) := by decide +kernel
theorem d_E_loadCapability_11 : decode b_E_loadCapability 11 = .ok (.iload_n 1, 1) := by decide +kernel
theorem d_E_loadCapability_12 : decode b_E_loadCapability 12 = .ok (.invokevirtual 23, 3) := by decide +kernel
theorem d_E_loadCapability_15 : decode b_E_loadCapability 15 = .ok (.aload_n 0, 1) := by decide +kernel
theorem d_E_loadCapability_16 : decode b_E_loadCapability 16 = .ok (.iload_n 1, 1) := by decide +kernel
theorem d_E_loadCapability_17 : decode b_E_loadCapability 17 = .ok (.iconst 4, 1) := by decide +kernel
theorem d_E_loadCapability_18 : decode b_E_loadCapability 18 = .ok (.iadd, 1) := by decide +kernel
theorem d_E_loadCapability_19 : decode b_E_loadCapability 19 = .ok (.invokevirtual 23, 3) := by decide +kernel
theorem d_E_loadCapability_22 : decode b_E_loadCapability 22 = .ok (.invokevirtual 26, 3) := by decide +kernel
theorem d_E_loadCapability_25 : decode b_E_loadCapability 25 = .ok (.return_, 1) := by decide +kernel
theorem d_E_store_0 : decode b_E_store 0 = .ok (.iconst 0, 1) := by decide +kernel
theorem d_E_store_1 : decode b_E_store 1 = .ok (.istore 4, 2) := by decide +kernel
theorem d_E_store_3 : decode b_E_store 3 = .ok (.iload 4, 2) := by decide +kernel
theorem d_E_store_5 : decode b_E_store 5 = .ok (.iload_n 3, 1) := by decide +kernel
theorem d_E_store_6 : decode b_E_store 6 = .ok (.if_icmp .ge 39, 3) := by decide +kernel
theorem d_E_store_9 : decode b_E_store 9 = .ok (.aload_n 0, 1) := by decide +kernel
theorem d_E_store_10 : decode b_E_store 10 = .ok (.getfield 9, 3) := by decide +kernel
theorem d_E_store_13 : decode b_E_store 13 = .ok (.iload_n 1, 1) := by decide +kernel
theorem d_E_store_14 : decode b_E_store 14 = .ok (.iload 4, 2) := by decide +kernel
theorem d_E_store_16 : decode b_E_store 16 = .ok (.iadd, 1) := by decide +kernel
theorem d_E_store_17 : decode b_E_store 17 = .ok (.iload_n 2, 1) := by decide +kernel
theorem d_E_store_18 : decode b_E_store 18 = .ok (.bipush 8, 2) := by decide +kernel
theorem d_E_store_20 : decode b_E_store 20 = .ok (.iload 4, 2) := by decide +kernel
theorem d_E_store_22 : decode b_E_store 22 = .ok (.imul, 1) := by decide +kernel
theorem d_E_store_23 : decode b_E_store 23 = .ok (.iushr, 1) := by decide +kernel
theorem d_E_store_24 : decode b_E_store 24 = .ok (.i2b, 1) := by decide +kernel
theorem d_E_store_25 : decode b_E_store 25 = .ok (.bastore, 1) := by decide +kernel
theorem d_E_store_26 : decode b_E_store 26 = .ok (.aload_n 0, 1) := by decide +kernel
theorem d_E_store_27 : decode b_E_store 27 = .ok (.getfield 15, 3) := by decide +kernel
theorem d_E_store_30 : decode b_E_store 30 = .ok (.iload_n 1, 1) := by decide +kernel
theorem d_E_store_31 : decode b_E_store 31 = .ok (.iload 4, 2) := by decide +kernel
theorem d_E_store_33 : decode b_E_store 33 = .ok (.iadd, 1) := by decide +kernel
theorem d_E_store_34 : decode b_E_store 34 = .ok (.bipush 8, 2) := by decide +kernel
theorem d_E_store_36 : decode b_E_store 36 = .ok (.idiv, 1) := by decide +kernel
theorem d_E_store_37 : decode b_E_store 37 = .ok (.iconst 0, 1) := by decide +kernel
theorem d_E_store_38 : decode b_E_store 38 = .ok (.bastore, 1) := by decide +kernel
theorem d_E_store_39 : decode b_E_store 39 = .ok (.iinc 4 1, 3) := by decide +kernel
theorem d_E_store_42 : decode b_E_store 42 = .ok (.goto (-39), 3) := by decide +kernel
theorem d_E_store_45 : decode b_E_store 45 = .ok (.return_, 1) := by decide +kernel
theorem d_E_storeCapability_0 : decode b_E_storeCapability 0 = .ok (.aload_n 0, 1) := by decide +kernel
theorem d_E_storeCapability_1 : decode b_E_storeCapability 1 = .ok (.iload_n 1, 1) := by decide +kernel
theorem d_E_storeCapability_2 : decode b_E_storeCapability 2 = .ok (.aload_n 2, 1) := by decide +kernel
theorem d_E_storeCapability_3 : decode b_E_storeCapability 3 = .ok (.getfield 32, 3) := by decide +kernel
theorem d_E_storeCapability_6 : decode b_E_storeCapability 6 = .ok (.iconst 4, 1) := by decide +kernel
theorem d_E_storeCapability_7 : decode b_E_storeCapability 7 = .ok (.invokevirtual 36, 3) := by decide +kernel
theorem d_E_storeCapability_10 : decode b_E_storeCapability 10 = .ok (.aload_n 0, 1) := by decide +kernel
theorem d_E_storeCapability_11 : decode b_E_storeCapability 11 = .ok (.iload_n 1, 1) := by decide +kernel
theorem d_E_storeCapability_12 : decode b_E_storeCapability 12 = .ok (.iconst 4, 1) := by decide +kernel
theorem d_E_storeCapability_13 : decode b_E_storeCapability 13 = .ok (.iadd, 1) := by decide +kernel
theorem d_E_storeCapability_14 : decode b_E_storeCapability 14 = .ok (.aload_n 2, 1) := by decide +kernel
theorem d_E_storeCapability_15 : decode b_E_storeCapability 15 = .ok (.invokevirtual 40, 3) := by decide +kernel
theorem d_E_storeCapability_18 : decode b_E_storeCapability 18 = .ok (.iconst 4, 1) := by decide +kernel
theorem d_E_storeCapability_19 : decode b_E_storeCapability 19 = .ok (.invokevirtual 36, 3) := by decide +kernel
theorem d_E_storeCapability_22 : decode b_E_storeCapability 22 = .ok (.aload_n 0, 1) := by decide +kernel
theorem d_E_storeCapability_23 : decode b_E_storeCapability 23 = .ok (.getfield 15, 3) := by decide +kernel
theorem d_E_storeCapability_26 : decode b_E_storeCapability 26 = .ok (.iload_n 1, 1) := by decide +kernel
theorem d_E_storeCapability_27 : decode b_E_storeCapability 27 = .ok (.bipush 8, 2) := by decide +kernel
theorem d_E_storeCapability_29 : decode b_E_storeCapability 29 = .ok (.idiv, 1) := by decide +kernel
theorem d_E_storeCapability_30 : decode b_E_storeCapability 30 = .ok (.aload_n 2, 1) := by decide +kernel
theorem d_E_storeCapability_31 : decode b_E_storeCapability 31 = .ok (.getfield 44, 3) := by decide +kernel
theorem d_E_storeCapability_34 : decode b_E_storeCapability 34 = .ok (.bastore, 1) := by decide +kernel
theorem d_E_storeCapability_35 : decode b_E_storeCapability 35 = .ok (.return_, 1) := by decide +kernel
theorem d_E_wordAt_0 : decode b_E_wordAt 0 = .ok (.aload_n 0, 1) := by decide +kernel
theorem d_E_wordAt_1 : decode b_E_wordAt 1 = .ok (.iload_n 1, 1) := by decide +kernel
theorem d_E_wordAt_2 : decode b_E_wordAt 2 = .ok (.invokevirtual 19, 3) := by decide +kernel
theorem d_E_wordAt_5 : decode b_E_wordAt 5 = .ok (.aload_n 0, 1) := by decide +kernel
theorem d_E_wordAt_6 : decode b_E_wordAt 6 = .ok (.iload_n 1, 1) := by decide +kernel
theorem d_E_wordAt_7 : decode b_E_wordAt 7 = .ok (.iconst 1, 1) := by decide +kernel
theorem d_E_wordAt_8 : decode b_E_wordAt 8 = .ok (.iadd, 1) := by decide +kernel
theorem d_E_wordAt_9 : decode b_E_wordAt 9 = .ok (.invokevirtual 19, 3) := by decide +kernel
theorem d_E_wordAt_12 : decode b_E_wordAt 12 = .ok (.bipush 8, 2) := by decide +kernel
theorem d_E_wordAt_14 : decode b_E_wordAt 14 = .ok (.ishl, 1) := by decide +kernel
theorem d_E_wordAt_15 : decode b_E_wordAt 15 = .ok (.ior, 1) := by decide +kernel
theorem d_E_wordAt_16 : decode b_E_wordAt 16 = .ok (.aload_n 0, 1) := by decide +kernel
theorem d_E_wordAt_17 : decode b_E_wordAt 17 = .ok (.iload_n 1, 1) := by decide +kernel
theorem d_E_wordAt_18 : decode b_E_wordAt 18 = .ok (.iconst 2, 1) := by decide +kernel
theorem d_E_wordAt_19 : decode b_E_wordAt 19 = .ok (.iadd, 1) := by decide +kernel
theorem d_E_wordAt_20 : decode b_E_wordAt 20 = .ok (.invokevirtual 19, 3) := by decide +kernel
theorem d_E_wordAt_23 : decode b_E_wordAt 23 = .ok (.bipush 16, 2) := by decide +kernel
theorem d_E_wordAt_25 : decode b_E_wordAt 25 = .ok (.ishl, 1) := by decide +kernel
theorem d_E_wordAt_26 : decode b_E_wordAt 26 = .ok (.ior, 1) := by decide +kernel
theorem d_E_wordAt_27 : decode b_E_wordAt 27 = .ok (.aload_n 0, 1) := by decide +kernel
theorem d_E_wordAt_28 : decode b_E_wordAt 28 = .ok (.iload_n 1, 1) := by decide +kernel
theorem d_E_wordAt_29 : decode b_E_wordAt 29 = .ok (.iconst 3, 1) := by decide +kernel
theorem d_E_wordAt_30 : decode b_E_wordAt 30 = .ok (.iadd, 1) := by decide +kernel
theorem d_E_wordAt_31 : decode b_E_wordAt 31 = .ok (.invokevirtual 19, 3) := by decide +kernel
theorem d_E_wordAt_34 : decode b_E_wordAt 34 = .ok (.bipush 24, 2) := by decide +kernel
theorem d_E_wordAt_36 : decode b_E_wordAt 36 = .ok (.ishl, 1) := by decide +kernel
theorem d_E_wordAt_37 : decode b_E_wordAt 37 = .ok (.ior, 1) := by decide +kernel
theorem d_E_wordAt_38 : decode b_E_wordAt 38 = .ok (.ireturn, 1) := by decide +kernel
theorem d_K_become_0 : decode b_K_become 0 = .ok (.aload_n 0, 1) := by decide +kernel
theorem d_K_become_1 : decode b_K_become 1 = .ok (.aload_n 1, 1) := by decide +kernel
theorem d_K_become_2 : decode b_K_become 2 = .ok (.getfield 9, 3) := by decide +kernel
theorem d_K_become_5 : decode b_K_become 5 = .ok (.putfield 9, 3) := by decide +kernel
theorem d_K_become_8 : decode b_K_become 8 = .ok (.aload_n 0, 1) := by decide +kernel
theorem d_K_become_9 : decode b_K_become 9 = .ok (.aload_n 1, 1) := by decide +kernel
theorem d_K_become_10 : decode b_K_become 10 = .ok (.getfield 15, 3) := by decide +kernel
theorem d_K_become_13 : decode b_K_become 13 = .ok (.putfield 15, 3) := by decide +kernel
theorem d_K_become_16 : decode b_K_become 16 = .ok (.aload_n 0, 1) := by decide +kernel
theorem d_K_become_17 : decode b_K_become 17 = .ok (.aload_n 1, 1) := by decide +kernel
theorem d_K_become_18 : decode b_K_become 18 = .ok (.getfield 19, 3) := by decide +kernel
theorem d_K_become_21 : decode b_K_become 21 = .ok (.putfield 19, 3) := by decide +kernel
theorem d_K_become_24 : decode b_K_become 24 = .ok (.aload_n 0, 1) := by decide +kernel
theorem d_K_become_25 : decode b_K_become 25 = .ok (.aload_n 1, 1) := by decide +kernel
theorem d_K_become_26 : decode b_K_become 26 = .ok (.getfield 22, 3) := by decide +kernel
theorem d_K_become_29 : decode b_K_become 29 = .ok (.putfield 22, 3) := by decide +kernel
theorem d_K_become_32 : decode b_K_become 32 = .ok (.aload_n 0, 1) := by decide +kernel
theorem d_K_become_33 : decode b_K_become 33 = .ok (.aload_n 1, 1) := by decide +kernel
theorem d_K_become_34 : decode b_K_become 34 = .ok (.getfield 25, 3) := by decide +kernel
theorem d_K_become_37 : decode b_K_become 37 = .ok (.putfield 25, 3) := by decide +kernel
theorem d_K_become_40 : decode b_K_become 40 = .ok (.aload_n 0, 1) := by decide +kernel
theorem d_K_become_41 : decode b_K_become 41 = .ok (.aload_n 1, 1) := by decide +kernel
theorem d_K_become_42 : decode b_K_become 42 = .ok (.getfield 28, 3) := by decide +kernel
theorem d_K_become_45 : decode b_K_become 45 = .ok (.putfield 28, 3) := by decide +kernel
theorem d_K_become_48 : decode b_K_become 48 = .ok (.return_, 1) := by decide +kernel
theorem d_K_becomeGranted_0 : decode b_K_becomeGranted 0 = .ok (.aload_n 0, 1) := by decide +kernel
theorem d_K_becomeGranted_1 : decode b_K_becomeGranted 1 = .ok (.iconst 1, 1) := by decide +kernel
theorem d_K_becomeGranted_2 : decode b_K_becomeGranted 2 = .ok (.putfield 9, 3) := by decide +kernel
theorem d_K_becomeGranted_5 : decode b_K_becomeGranted 5 = .ok (.aload_n 0, 1) := by decide +kernel
theorem d_K_becomeGranted_6 : decode b_K_becomeGranted 6 = .ok (.iload_n 1, 1) := by decide +kernel
theorem d_K_becomeGranted_7 : decode b_K_becomeGranted 7 = .ok (.putfield 15, 3) := by decide +kernel
theorem d_K_becomeGranted_10 : decode b_K_becomeGranted 10 = .ok (.aload_n 0, 1) := by decide +kernel
theorem d_K_becomeGranted_11 : decode b_K_becomeGranted 11 = .ok (.iload_n 2, 1) := by decide +kernel
theorem d_K_becomeGranted_12 : decode b_K_becomeGranted 12 = .ok (.putfield 19, 3) := by decide +kernel
theorem d_K_becomeGranted_15 : decode b_K_becomeGranted 15 = .ok (.aload_n 0, 1) := by decide +kernel
theorem d_K_becomeGranted_16 : decode b_K_becomeGranted 16 = .ok (.iload 4, 2) := by decide +kernel
theorem d_K_becomeGranted_18 : decode b_K_becomeGranted 18 = .ok (.putfield 22, 3) := by decide +kernel
theorem d_K_becomeGranted_21 : decode b_K_becomeGranted 21 = .ok (.aload_n 0, 1) := by decide +kernel
theorem d_K_becomeGranted_22 : decode b_K_becomeGranted 22 = .ok (.iconst 0, 1) := by decide +kernel
theorem d_K_becomeGranted_23 : decode b_K_becomeGranted 23 = .ok (.putfield 25, 3) := by decide +kernel
theorem d_K_becomeGranted_26 : decode b_K_becomeGranted 26 = .ok (.aload_n 0, 1) := by decide +kernel
theorem d_K_becomeGranted_27 : decode b_K_becomeGranted 27 = .ok (.iload_n 3, 1) := by decide +kernel
theorem d_K_becomeGranted_28 : decode b_K_becomeGranted 28 = .ok (.putfield 28, 3) := by decide +kernel
theorem d_K_becomeGranted_31 : decode b_K_becomeGranted 31 = .ok (.return_, 1) := by decide +kernel
theorem d_K_becomeNumber_0 : decode b_K_becomeNumber 0 = .ok (.aload_n 0, 1) := by decide +kernel
theorem d_K_becomeNumber_1 : decode b_K_becomeNumber 1 = .ok (.iconst 0, 1) := by decide +kernel
theorem d_K_becomeNumber_2 : decode b_K_becomeNumber 2 = .ok (.putfield 9, 3) := by decide +kernel
theorem d_K_becomeNumber_5 : decode b_K_becomeNumber 5 = .ok (.aload_n 0, 1) := by decide +kernel
theorem d_K_becomeNumber_6 : decode b_K_becomeNumber 6 = .ok (.iconst 0, 1) := by decide +kernel
theorem d_K_becomeNumber_7 : decode b_K_becomeNumber 7 = .ok (.putfield 15, 3) := by decide +kernel
theorem d_K_becomeNumber_10 : decode b_K_becomeNumber 10 = .ok (.aload_n 0, 1) := by decide +kernel
theorem d_K_becomeNumber_11 : decode b_K_becomeNumber 11 = .ok (.iconst 0, 1) := by decide +kernel
theorem d_K_becomeNumber_12 : decode b_K_becomeNumber 12 = .ok (.putfield 19, 3) := by decide +kernel
theorem d_K_becomeNumber_15 : decode b_K_becomeNumber 15 = .ok (.aload_n 0, 1) := by decide +kernel
theorem d_K_becomeNumber_16 : decode b_K_becomeNumber 16 = .ok (.iconst 0, 1) := by decide +kernel
theorem d_K_becomeNumber_17 : decode b_K_becomeNumber 17 = .ok (.putfield 22, 3) := by decide +kernel
theorem d_K_becomeNumber_20 : decode b_K_becomeNumber 20 = .ok (.aload_n 0, 1) := by decide +kernel
theorem d_K_becomeNumber_21 : decode b_K_becomeNumber 21 = .ok (.iconst 0, 1) := by decide +kernel
theorem d_K_becomeNumber_22 : decode b_K_becomeNumber 22 = .ok (.putfield 25, 3) := by decide +kernel
theorem d_K_becomeNumber_25 : decode b_K_becomeNumber 25 = .ok (.aload_n 0, 1) := by decide +kernel
theorem d_K_becomeNumber_26 : decode b_K_becomeNumber 26 = .ok (.iload_n 1, 1) := by decide +kernel
theorem d_K_becomeNumber_27 : decode b_K_becomeNumber 27 = .ok (.putfield 28, 3) := by decide +kernel
theorem d_K_becomeNumber_30 : decode b_K_becomeNumber 30 = .ok (.return_, 1) := by decide +kernel
theorem d_K_becomeUnpacked_0 : decode b_K_becomeUnpacked 0 = .ok (.aload_n 0, 1) := by decide +kernel
theorem d_K_becomeUnpacked_1 : decode b_K_becomeUnpacked 1 = .ok (.iload_n 1, 1) := by decide +kernel
theorem d_K_becomeUnpacked_2 : decode b_K_becomeUnpacked 2 = .ok (.putfield 9, 3) := by decide +kernel
theorem d_K_becomeUnpacked_5 : decode b_K_becomeUnpacked 5 = .ok (.aload_n 0, 1) := by decide +kernel
theorem d_K_becomeUnpacked_6 : decode b_K_becomeUnpacked 6 = .ok (.iload_n 3, 1) := by decide +kernel
theorem d_K_becomeUnpacked_7 : decode b_K_becomeUnpacked 7 = .ok (.sipush 1023, 3) := by decide +kernel
theorem d_K_becomeUnpacked_10 : decode b_K_becomeUnpacked 10 = .ok (.iand, 1) := by decide +kernel
theorem d_K_becomeUnpacked_11 : decode b_K_becomeUnpacked 11 = .ok (.putfield 15, 3) := by decide +kernel
theorem d_K_becomeUnpacked_14 : decode b_K_becomeUnpacked 14 = .ok (.aload_n 0, 1) := by decide +kernel
theorem d_K_becomeUnpacked_15 : decode b_K_becomeUnpacked 15 = .ok (.iload_n 3, 1) := by decide +kernel
theorem d_K_becomeUnpacked_16 : decode b_K_becomeUnpacked 16 = .ok (.bipush 10, 2) := by decide +kernel
theorem d_K_becomeUnpacked_18 : decode b_K_becomeUnpacked 18 = .ok (.iushr, 1) := by decide +kernel
theorem d_K_becomeUnpacked_19 : decode b_K_becomeUnpacked 19 = .ok (.sipush 1023, 3) := by decide +kernel
theorem d_K_becomeUnpacked_22 : decode b_K_becomeUnpacked 22 = .ok (.iand, 1) := by decide +kernel
theorem d_K_becomeUnpacked_23 : decode b_K_becomeUnpacked 23 = .ok (.putfield 19, 3) := by decide +kernel
theorem d_K_becomeUnpacked_26 : decode b_K_becomeUnpacked 26 = .ok (.aload_n 0, 1) := by decide +kernel
theorem d_K_becomeUnpacked_27 : decode b_K_becomeUnpacked 27 = .ok (.iload_n 3, 1) := by decide +kernel
theorem d_K_becomeUnpacked_28 : decode b_K_becomeUnpacked 28 = .ok (.bipush 20, 2) := by decide +kernel
theorem d_K_becomeUnpacked_30 : decode b_K_becomeUnpacked 30 = .ok (.iushr, 1) := by decide +kernel
theorem d_K_becomeUnpacked_31 : decode b_K_becomeUnpacked 31 = .ok (.bipush 15, 2) := by decide +kernel
theorem d_K_becomeUnpacked_33 : decode b_K_becomeUnpacked 33 = .ok (.iand, 1) := by decide +kernel
theorem d_K_becomeUnpacked_34 : decode b_K_becomeUnpacked 34 = .ok (.putfield 25, 3) := by decide +kernel
theorem d_K_becomeUnpacked_37 : decode b_K_becomeUnpacked 37 = .ok (.aload_n 0, 1) := by decide +kernel
theorem d_K_becomeUnpacked_38 : decode b_K_becomeUnpacked 38 = .ok (.iload_n 3, 1) := by decide +kernel
theorem d_K_becomeUnpacked_39 : decode b_K_becomeUnpacked 39 = .ok (.bipush 24, 2) := by decide +kernel
theorem d_K_becomeUnpacked_41 : decode b_K_becomeUnpacked 41 = .ok (.iushr, 1) := by decide +kernel
theorem d_K_becomeUnpacked_42 : decode b_K_becomeUnpacked 42 = .ok (.sipush 255, 3) := by decide +kernel
theorem d_K_becomeUnpacked_45 : decode b_K_becomeUnpacked 45 = .ok (.iand, 1) := by decide +kernel
theorem d_K_becomeUnpacked_46 : decode b_K_becomeUnpacked 46 = .ok (.putfield 22, 3) := by decide +kernel
theorem d_K_becomeUnpacked_49 : decode b_K_becomeUnpacked 49 = .ok (.aload_n 0, 1) := by decide +kernel
theorem d_K_becomeUnpacked_50 : decode b_K_becomeUnpacked 50 = .ok (.iload_n 2, 1) := by decide +kernel
theorem d_K_becomeUnpacked_51 : decode b_K_becomeUnpacked 51 = .ok (.putfield 28, 3) := by decide +kernel
theorem d_K_becomeUnpacked_54 : decode b_K_becomeUnpacked 54 = .ok (.return_, 1) := by decide +kernel
theorem d_K_hasAddressInBounds_0 : decode b_K_hasAddressInBounds 0 = .ok (.aload_n 0, 1) := by decide +kernel
theorem d_K_hasAddressInBounds_1 : decode b_K_hasAddressInBounds 1 = .ok (.getfield 28, 3) := by decide +kernel
theorem d_K_hasAddressInBounds_4 : decode b_K_hasAddressInBounds 4 = .ok (.aload_n 0, 1) := by decide +kernel
theorem d_K_hasAddressInBounds_5 : decode b_K_hasAddressInBounds 5 = .ok (.getfield 15, 3) := by decide +kernel
theorem d_K_hasAddressInBounds_8 : decode b_K_hasAddressInBounds 8 = .ok (.if_icmp .lt 18, 3) := by decide +kernel
theorem d_K_hasAddressInBounds_11 : decode b_K_hasAddressInBounds 11 = .ok (.aload_n 0, 1) := by decide +kernel
theorem d_K_hasAddressInBounds_12 : decode b_K_hasAddressInBounds 12 = .ok (.getfield 28, 3) := by decide +kernel
theorem d_K_hasAddressInBounds_15 : decode b_K_hasAddressInBounds 15 = .ok (.aload_n 0, 1) := by decide +kernel
theorem d_K_hasAddressInBounds_16 : decode b_K_hasAddressInBounds 16 = .ok (.getfield 19, 3) := by decide +kernel
theorem d_K_hasAddressInBounds_19 : decode b_K_hasAddressInBounds 19 = .ok (.if_icmp .ge 7, 3) := by decide +kernel
theorem d_K_hasAddressInBounds_22 : decode b_K_hasAddressInBounds 22 = .ok (.iconst 1, 1) := by decide +kernel
theorem d_K_hasAddressInBounds_23 : decode b_K_hasAddressInBounds 23 = .ok (.goto 4, 3) := by decide +kernel
theorem d_K_hasAddressInBounds_26 : decode b_K_hasAddressInBounds 26 = .ok (.iconst 0, 1) := by decide +kernel
theorem d_K_hasAddressInBounds_27 : decode b_K_hasAddressInBounds 27 = .ok (.ireturn, 1) := by decide +kernel
theorem d_K_init_0 : decode b_K_init 0 = .ok (.aload_n 0, 1) := by decide +kernel
theorem d_K_init_1 : decode b_K_init 1 = .ok (.invokespecial 3, 3) := by decide +kernel
theorem d_K_init_4 : decode b_K_init 4 = .ok (.return_, 1) := by decide +kernel
theorem d_K_isWithin_0 : decode b_K_isWithin 0 = .ok (.aload_n 0, 1) := by decide +kernel
theorem d_K_isWithin_1 : decode b_K_isWithin 1 = .ok (.getfield 9, 3) := by decide +kernel
theorem d_K_isWithin_4 : decode b_K_isWithin 4 = .ok (.aload_n 1, 1) := by decide +kernel
theorem d_K_isWithin_5 : decode b_K_isWithin 5 = .ok (.getfield 9, 3) := by decide +kernel
theorem d_K_isWithin_8 : decode b_K_isWithin 8 = .ok (.if_icmp .ne 40, 3) := by decide +kernel
theorem d_K_isWithin_11 : decode b_K_isWithin 11 = .ok (.aload_n 0, 1) := by decide +kernel
theorem d_K_isWithin_12 : decode b_K_isWithin 12 = .ok (.getfield 15, 3) := by decide +kernel
theorem d_K_isWithin_15 : decode b_K_isWithin 15 = .ok (.aload_n 1, 1) := by decide +kernel
theorem d_K_isWithin_16 : decode b_K_isWithin 16 = .ok (.getfield 15, 3) := by decide +kernel
theorem d_K_isWithin_19 : decode b_K_isWithin 19 = .ok (.if_icmp .lt 29, 3) := by decide +kernel
theorem d_K_isWithin_22 : decode b_K_isWithin 22 = .ok (.aload_n 0, 1) := by decide +kernel
theorem d_K_isWithin_23 : decode b_K_isWithin 23 = .ok (.getfield 19, 3) := by decide +kernel
theorem d_K_isWithin_26 : decode b_K_isWithin 26 = .ok (.aload_n 1, 1) := by decide +kernel
theorem d_K_isWithin_27 : decode b_K_isWithin 27 = .ok (.getfield 19, 3) := by decide +kernel
theorem d_K_isWithin_30 : decode b_K_isWithin 30 = .ok (.if_icmp .gt 18, 3) := by decide +kernel
theorem d_K_isWithin_33 : decode b_K_isWithin 33 = .ok (.aload_n 1, 1) := by decide +kernel
theorem d_K_isWithin_34 : decode b_K_isWithin 34 = .ok (.aload_n 0, 1) := by decide +kernel
theorem d_K_isWithin_35 : decode b_K_isWithin 35 = .ok (.getfield 22, 3) := by decide +kernel
theorem d_K_isWithin_38 : decode b_K_isWithin 38 = .ok (.invokevirtual 31, 3) := by decide +kernel
theorem d_K_isWithin_41 : decode b_K_isWithin 41 = .ok (.ifCond .eq 7, 3) := by decide +kernel
theorem d_K_isWithin_44 : decode b_K_isWithin 44 = .ok (.iconst 1, 1) := by decide +kernel
theorem d_K_isWithin_45 : decode b_K_isWithin 45 = .ok (.goto 4, 3) := by decide +kernel
theorem d_K_isWithin_48 : decode b_K_isWithin 48 = .ok (.iconst 0, 1) := by decide +kernel
theorem d_K_isWithin_49 : decode b_K_isWithin 49 = .ok (.ireturn, 1) := by decide +kernel
theorem d_K_moveTo_0 : decode b_K_moveTo 0 = .ok (.aload_n 0, 1) := by decide +kernel
theorem d_K_moveTo_1 : decode b_K_moveTo 1 = .ok (.iload_n 1, 1) := by decide +kernel
theorem d_K_moveTo_2 : decode b_K_moveTo 2 = .ok (.putfield 28, 3) := by decide +kernel
theorem d_K_moveTo_5 : decode b_K_moveTo 5 = .ok (.iload_n 1, 1) := by decide +kernel
theorem d_K_moveTo_6 : decode b_K_moveTo 6 = .ok (.aload_n 0, 1) := by decide +kernel
theorem d_K_moveTo_7 : decode b_K_moveTo 7 = .ok (.getfield 15, 3) := by decide +kernel
theorem d_K_moveTo_10 : decode b_K_moveTo 10 = .ok (.bipush 64, 2) := by decide +kernel
theorem d_K_moveTo_12 : decode b_K_moveTo 12 = .ok (.isub, 1) := by decide +kernel
theorem d_K_moveTo_13 : decode b_K_moveTo 13 = .ok (.if_icmp .lt 18, 3) := by decide +kernel
theorem d_K_moveTo_16 : decode b_K_moveTo 16 = .ok (.iload_n 1, 1) := by decide +kernel
theorem d_K_moveTo_17 : decode b_K_moveTo 17 = .ok (.aload_n 0, 1) := by decide +kernel
theorem d_K_moveTo_18 : decode b_K_moveTo 18 = .ok (.getfield 19, 3) := by decide +kernel
theorem d_K_moveTo_21 : decode b_K_moveTo 21 = .ok (.bipush 64, 2) := by decide +kernel
theorem d_K_moveTo_23 : decode b_K_moveTo 23 = .ok (.iadd, 1) := by decide +kernel
theorem d_K_moveTo_24 : decode b_K_moveTo 24 = .ok (.if_icmp .ge 7, 3) := by decide +kernel
theorem d_K_moveTo_27 : decode b_K_moveTo 27 = .ok (.iconst 1, 1) := by decide +kernel
theorem d_K_moveTo_28 : decode b_K_moveTo 28 = .ok (.goto 4, 3) := by decide +kernel
theorem d_K_moveTo_31 : decode b_K_moveTo 31 = .ok (.iconst 0, 1) := by decide +kernel
theorem d_K_moveTo_32 : decode b_K_moveTo 32 = .ok (.istore_n 2, 1) := by decide +kernel
theorem d_K_moveTo_33 : decode b_K_moveTo 33 = .ok (.aload_n 0, 1) := by decide +kernel
theorem d_K_moveTo_34 : decode b_K_moveTo 34 = .ok (.aload_n 0, 1) := by decide +kernel
theorem d_K_moveTo_35 : decode b_K_moveTo 35 = .ok (.getfield 9, 3) := by decide +kernel
theorem d_K_moveTo_38 : decode b_K_moveTo 38 = .ok (.ifCond .eq 11, 3) := by decide +kernel
theorem d_K_moveTo_41 : decode b_K_moveTo 41 = .ok (.iload_n 2, 1) := by decide +kernel
theorem d_K_moveTo_42 : decode b_K_moveTo 42 = .ok (.ifCond .eq 7, 3) := by decide +kernel
theorem d_K_moveTo_45 : decode b_K_moveTo 45 = .ok (.iconst 1, 1) := by decide +kernel
theorem d_K_moveTo_46 : decode b_K_moveTo 46 = .ok (.goto 4, 3) := by decide +kernel
theorem d_K_moveTo_49 : decode b_K_moveTo 49 = .ok (.iconst 0, 1) := by decide +kernel
theorem d_K_moveTo_50 : decode b_K_moveTo 50 = .ok (.putfield 9, 3) := by decide +kernel
theorem d_K_moveTo_53 : decode b_K_moveTo 53 = .ok (.return_, 1) := by decide +kernel
theorem d_K_packed_0 : decode b_K_packed 0 = .ok (.aload_n 0, 1) := by decide +kernel
theorem d_K_packed_1 : decode b_K_packed 1 = .ok (.getfield 15, 3) := by decide +kernel
theorem d_K_packed_4 : decode b_K_packed 4 = .ok (.aload_n 0, 1) := by decide +kernel
theorem d_K_packed_5 : decode b_K_packed 5 = .ok (.getfield 19, 3) := by decide +kernel
theorem d_K_packed_8 : decode b_K_packed 8 = .ok (.bipush 10, 2) := by decide +kernel
theorem d_K_packed_10 : decode b_K_packed 10 = .ok (.ishl, 1) := by decide +kernel
theorem d_K_packed_11 : decode b_K_packed 11 = .ok (.ior, 1) := by decide +kernel
theorem d_K_packed_12 : decode b_K_packed 12 = .ok (.aload_n 0, 1) := by decide +kernel
theorem d_K_packed_13 : decode b_K_packed 13 = .ok (.getfield 25, 3) := by decide +kernel
theorem d_K_packed_16 : decode b_K_packed 16 = .ok (.bipush 20, 2) := by decide +kernel
theorem d_K_packed_18 : decode b_K_packed 18 = .ok (.ishl, 1) := by decide +kernel
theorem d_K_packed_19 : decode b_K_packed 19 = .ok (.ior, 1) := by decide +kernel
theorem d_K_packed_20 : decode b_K_packed 20 = .ok (.aload_n 0, 1) := by decide +kernel
theorem d_K_packed_21 : decode b_K_packed 21 = .ok (.getfield 22, 3) := by decide +kernel
theorem d_K_packed_24 : decode b_K_packed 24 = .ok (.bipush 24, 2) := by decide +kernel
theorem d_K_packed_26 : decode b_K_packed 26 = .ok (.ishl, 1) := by decide +kernel
theorem d_K_packed_27 : decode b_K_packed 27 = .ok (.ior, 1) := by decide +kernel
theorem d_K_packed_28 : decode b_K_packed 28 = .ok (.ireturn, 1) := by decide +kernel
theorem d_K_part_0 : decode b_K_part 0 = .ok (.iload_n 1, 1) := by decide +kernel
theorem d_K_part_1 : decode b_K_part 1 = .ok (.tableswitch 68 0 4 #[35, 48, 53, 58, 63], 35) := by decide +kernel
theorem d_K_part_36 : decode b_K_part 36 = .ok (.aload_n 0, 1) := by decide +kernel
theorem d_K_part_37 : decode b_K_part 37 = .ok (.getfield 9, 3) := by decide +kernel
theorem d_K_part_40 : decode b_K_part 40 = .ok (.ifCond .eq 7, 3) := by decide +kernel
theorem d_K_part_43 : decode b_K_part 43 = .ok (.iconst 1, 1) := by decide +kernel
theorem d_K_part_44 : decode b_K_part 44 = .ok (.goto 4, 3) := by decide +kernel
theorem d_K_part_47 : decode b_K_part 47 = .ok (.iconst 0, 1) := by decide +kernel
theorem d_K_part_48 : decode b_K_part 48 = .ok (.ireturn, 1) := by decide +kernel
theorem d_K_part_49 : decode b_K_part 49 = .ok (.aload_n 0, 1) := by decide +kernel
theorem d_K_part_50 : decode b_K_part 50 = .ok (.getfield 15, 3) := by decide +kernel
theorem d_K_part_53 : decode b_K_part 53 = .ok (.ireturn, 1) := by decide +kernel
theorem d_K_part_54 : decode b_K_part 54 = .ok (.aload_n 0, 1) := by decide +kernel
theorem d_K_part_55 : decode b_K_part 55 = .ok (.getfield 19, 3) := by decide +kernel
theorem d_K_part_58 : decode b_K_part 58 = .ok (.ireturn, 1) := by decide +kernel
theorem d_K_part_59 : decode b_K_part 59 = .ok (.aload_n 0, 1) := by decide +kernel
theorem d_K_part_60 : decode b_K_part 60 = .ok (.getfield 22, 3) := by decide +kernel
theorem d_K_part_63 : decode b_K_part 63 = .ok (.ireturn, 1) := by decide +kernel
theorem d_K_part_64 : decode b_K_part 64 = .ok (.aload_n 0, 1) := by decide +kernel
theorem d_K_part_65 : decode b_K_part 65 = .ok (.getfield 25, 3) := by decide +kernel
theorem d_K_part_68 : decode b_K_part 68 = .ok (.ireturn, 1) := by decide +kernel
theorem d_K_part_69 : decode b_K_part 69 = .ok (.aload_n 0, 1) := by decide +kernel
theorem d_K_part_70 : decode b_K_part 70 = .ok (.getfield 28, 3) := by decide +kernel
theorem d_K_part_73 : decode b_K_part 73 = .ok (.ireturn, 1) := by decide +kernel
theorem d_K_permits_0 : decode b_K_permits 0 = .ok (.aload_n 0, 1) := by decide +kernel
theorem d_K_permits_1 : decode b_K_permits 1 = .ok (.getfield 22, 3) := by decide +kernel
theorem d_K_permits_4 : decode b_K_permits 4 = .ok (.iload_n 1, 1) := by decide +kernel
theorem d_K_permits_5 : decode b_K_permits 5 = .ok (.iand, 1) := by decide +kernel
theorem d_K_permits_6 : decode b_K_permits 6 = .ok (.iload_n 1, 1) := by decide +kernel
theorem d_K_permits_7 : decode b_K_permits 7 = .ok (.if_icmp .ne 7, 3) := by decide +kernel
theorem d_K_permits_10 : decode b_K_permits 10 = .ok (.iconst 1, 1) := by decide +kernel
theorem d_K_permits_11 : decode b_K_permits 11 = .ok (.goto 4, 3) := by decide +kernel
theorem d_K_permits_14 : decode b_K_permits 14 = .ok (.iconst 0, 1) := by decide +kernel
theorem d_K_permits_15 : decode b_K_permits 15 = .ok (.ireturn, 1) := by decide +kernel
theorem d_K_refusal_0 : decode b_K_refusal 0 = .ok (.aload_n 0, 1) := by decide +kernel
theorem d_K_refusal_1 : decode b_K_refusal 1 = .ok (.getfield 9, 3) := by decide +kernel
theorem d_K_refusal_4 : decode b_K_refusal 4 = .ok (.ifCond .ne 5, 3) := by decide +kernel
theorem d_K_refusal_7 : decode b_K_refusal 7 = .ok (.iconst 1, 1) := by decide +kernel
theorem d_K_refusal_8 : decode b_K_refusal 8 = .ok (.ireturn, 1) := by decide +kernel
theorem d_K_refusal_9 : decode b_K_refusal 9 = .ok (.aload_n 0, 1) := by decide +kernel
theorem d_K_refusal_10 : decode b_K_refusal 10 = .ok (.getfield 25, 3) := by decide +kernel
theorem d_K_refusal_13 : decode b_K_refusal 13 = .ok (.ifCond .eq 5, 3) := by decide +kernel
theorem d_K_refusal_16 : decode b_K_refusal 16 = .ok (.iconst 2, 1) := by decide +kernel
theorem d_K_refusal_17 : decode b_K_refusal 17 = .ok (.ireturn, 1) := by decide +kernel
theorem d_K_refusal_18 : decode b_K_refusal 18 = .ok (.aload_n 0, 1) := by decide +kernel
theorem d_K_refusal_19 : decode b_K_refusal 19 = .ok (.iload_n 1, 1) := by decide +kernel
theorem d_K_refusal_20 : decode b_K_refusal 20 = .ok (.invokevirtual 31, 3) := by decide +kernel
theorem d_K_refusal_23 : decode b_K_refusal 23 = .ok (.ifCond .ne 5, 3) := by decide +kernel
theorem d_K_refusal_26 : decode b_K_refusal 26 = .ok (.iconst 3, 1) := by decide +kernel
theorem d_K_refusal_27 : decode b_K_refusal 27 = .ok (.ireturn, 1) := by decide +kernel
theorem d_K_refusal_28 : decode b_K_refusal 28 = .ok (.lload_n 2, 1) := by decide +kernel
theorem d_K_refusal_29 : decode b_K_refusal 29 = .ok (.aload_n 0, 1) := by decide +kernel
theorem d_K_refusal_30 : decode b_K_refusal 30 = .ok (.getfield 15, 3) := by decide +kernel
theorem d_K_refusal_33 : decode b_K_refusal 33 = .ok (.i2l, 1) := by decide +kernel
theorem d_K_refusal_34 : decode b_K_refusal 34 = .ok (.lcmp, 1) := by decide +kernel
theorem d_K_refusal_35 : decode b_K_refusal 35 = .ok (.ifCond .lt 29, 3) := by decide +kernel
theorem d_K_refusal_38 : decode b_K_refusal 38 = .ok (.lload_n 2, 1) := by decide +kernel
theorem d_K_refusal_39 : decode b_K_refusal 39 = .ok (.iload 4, 2) := by decide +kernel
theorem d_K_refusal_41 : decode b_K_refusal 41 = .ok (.i2l, 1) := by decide +kernel
theorem d_K_refusal_42 : decode b_K_refusal 42 = .ok (.ladd, 1) := by decide +kernel
theorem d_K_refusal_43 : decode b_K_refusal 43 = .ok (.aload_n 0, 1) := by decide +kernel
theorem d_K_refusal_44 : decode b_K_refusal 44 = .ok (.getfield 19, 3) := by decide +kernel
theorem d_K_refusal_47 : decode b_K_refusal 47 = .ok (.i2l, 1) := by decide +kernel
theorem d_K_refusal_48 : decode b_K_refusal 48 = .ok (.lcmp, 1) := by decide +kernel
theorem d_K_refusal_49 : decode b_K_refusal 49 = .ok (.ifCond .gt 15, 3) := by decide +kernel
theorem d_K_refusal_52 : decode b_K_refusal 52 = .ok (.lload_n 2, 1) := by decide +kernel
theorem d_K_refusal_53 : decode b_K_refusal 53 = .ok (.iload 4, 2) := by decide +kernel
theorem d_K_refusal_55 : decode b_K_refusal 55 = .ok (.i2l, 1) := by decide +kernel
theorem d_K_refusal_56 : decode b_K_refusal 56 = .ok (.ladd, 1) := by decide +kernel
theorem d_K_refusal_57 : decode b_K_refusal 57 = .ok (.ldc2_w 35, 3) := by decide +kernel
theorem d_K_refusal_60 : decode b_K_refusal 60 = .ok (.lcmp, 1) := by decide +kernel
theorem d_K_refusal_61 : decode b_K_refusal 61 = .ok (.ifCond .le 5, 3) := by decide +kernel
theorem d_K_refusal_64 : decode b_K_refusal 64 = .ok (.iconst 4, 1) := by decide +kernel
theorem d_K_refusal_65 : decode b_K_refusal 65 = .ok (.ireturn, 1) := by decide +kernel
theorem d_K_refusal_66 : decode b_K_refusal 66 = .ok (.lload_n 2, 1) := by decide +kernel
theorem d_K_refusal_67 : decode b_K_refusal 67 = .ok (.iload 4, 2) := by decide +kernel
theorem d_K_refusal_69 : decode b_K_refusal 69 = .ok (.iconst 1, 1) := by decide +kernel
theorem d_K_refusal_70 : decode b_K_refusal 70 = .ok (.isub, 1) := by decide +kernel
theorem d_K_refusal_71 : decode b_K_refusal 71 = .ok (.i2l, 1) := by decide +kernel
theorem d_K_refusal_72 : decode b_K_refusal 72 = .ok (.land, 1) := by decide +kernel
theorem d_K_refusal_73 : decode b_K_refusal 73 = .ok (.lconst 0, 1) := by decide +kernel
theorem d_K_refusal_74 : decode b_K_refusal 74 = .ok (.lcmp, 1) := by decide +kernel
theorem d_K_refusal_75 : decode b_K_refusal 75 = .ok (.ifCond .ne 7, 3) := by decide +kernel
theorem d_K_refusal_78 : decode b_K_refusal 78 = .ok (.iconst 0, 1) := by decide +kernel
theorem d_K_refusal_79 : decode b_K_refusal 79 = .ok (.goto 4, 3) := by decide +kernel
theorem d_K_refusal_82 : decode b_K_refusal 82 = .ok (.iconst 5, 1) := by decide +kernel
theorem d_K_refusal_83 : decode b_K_refusal 83 = .ok (.ireturn, 1) := by decide +kernel
