theorem dX0_init_0 : decode cX0_init 0 = .ok (.aload_n 0, 1) := by decide +kernel
theorem dX0_init_1 : decode cX0_init 1 = .ok (.invokespecial 3, 3) := by decide +kernel
theorem dX0_init_4 : decode cX0_init 4 = .ok (.aload_n 0, 1) := by decide +kernel
theorem dX0_init_5 : decode cX0_init 5 = .ok (.iconst (-1), 1) := by decide +kernel
theorem dX0_init_6 : decode cX0_init 6 = .ok (.putfield 9, 3) := by decide +kernel
theorem dX0_init_9 : decode cX0_init 9 = .ok (.return_, 1) := by decide +kernel
theorem dX0_makeNew_0 : decode cX0_makeNew 0 = .ok (.aload_n 0, 1) := by decide +kernel
theorem dX0_makeNew_1 : decode cX0_makeNew 1 = .ok (.iload_n 1, 1) := by decide +kernel
theorem dX0_makeNew_2 : decode cX0_makeNew 2 = .ok (.putfield 15, 3) := by decide +kernel
theorem dX0_makeNew_5 : decode cX0_makeNew 5 = .ok (.aload_n 0, 1) := by decide +kernel
theorem dX0_makeNew_6 : decode cX0_makeNew 6 = .ok (.iload_n 2, 1) := by decide +kernel
theorem dX0_makeNew_7 : decode cX0_makeNew 7 = .ok (.putfield 18, 3) := by decide +kernel
theorem dX0_makeNew_10 : decode cX0_makeNew 10 = .ok (.aload_n 0, 1) := by decide +kernel
theorem dX0_makeNew_11 : decode cX0_makeNew 11 = .ok (.iload_n 3, 1) := by decide +kernel
theorem dX0_makeNew_12 : decode cX0_makeNew 12 = .ok (.putfield 21, 3) := by decide +kernel
theorem dX0_makeNew_15 : decode cX0_makeNew 15 = .ok (.aload_n 0, 1) := by decide +kernel
theorem dX0_makeNew_16 : decode cX0_makeNew 16 = .ok (.iload 4, 2) := by decide +kernel
theorem dX0_makeNew_18 : decode cX0_makeNew 18 = .ok (.putfield 24, 3) := by decide +kernel
theorem dX0_makeNew_21 : decode cX0_makeNew 21 = .ok (.aload_n 0, 1) := by decide +kernel
theorem dX0_makeNew_22 : decode cX0_makeNew 22 = .ok (.iconst 0, 1) := by decide +kernel
theorem dX0_makeNew_23 : decode cX0_makeNew 23 = .ok (.putfield 27, 3) := by decide +kernel
theorem dX0_makeNew_26 : decode cX0_makeNew 26 = .ok (.aload_n 0, 1) := by decide +kernel
theorem dX0_makeNew_27 : decode cX0_makeNew 27 = .ok (.iconst 0, 1) := by decide +kernel
theorem dX0_makeNew_28 : decode cX0_makeNew 28 = .ok (.putfield 30, 3) := by decide +kernel
theorem dX0_makeNew_31 : decode cX0_makeNew 31 = .ok (.aload_n 0, 1) := by decide +kernel
theorem dX0_makeNew_32 : decode cX0_makeNew 32 = .ok (.iconst 0, 1) := by decide +kernel
theorem dX0_makeNew_33 : decode cX0_makeNew 33 = .ok (.putfield 34, 3) := by decide +kernel
theorem dX0_makeNew_36 : decode cX0_makeNew 36 = .ok (.aload_n 0, 1) := by decide +kernel
theorem dX0_makeNew_37 : decode cX0_makeNew 37 = .ok (.iload 4, 2) := by decide +kernel
theorem dX0_makeNew_39 : decode cX0_makeNew 39 = .ok (.putfield 37, 3) := by decide +kernel
theorem dX0_makeNew_42 : decode cX0_makeNew 42 = .ok (.aload_n 0, 1) := by decide +kernel
theorem dX0_makeNew_43 : decode cX0_makeNew 43 = .ok (.iconst 0, 1) := by decide +kernel
theorem dX0_makeNew_44 : decode cX0_makeNew 44 = .ok (.putfield 40, 3) := by decide +kernel
theorem dX0_makeNew_47 : decode cX0_makeNew 47 = .ok (.aload_n 0, 1) := by decide +kernel
theorem dX0_makeNew_48 : decode cX0_makeNew 48 = .ok (.iconst 0, 1) := by decide +kernel
theorem dX0_makeNew_49 : decode cX0_makeNew 49 = .ok (.putfield 43, 3) := by decide +kernel
theorem dX0_makeNew_52 : decode cX0_makeNew 52 = .ok (.aload_n 0, 1) := by decide +kernel
theorem dX0_makeNew_53 : decode cX0_makeNew 53 = .ok (.iconst 0, 1) := by decide +kernel
theorem dX0_makeNew_54 : decode cX0_makeNew 54 = .ok (.invokevirtual 46, 3) := by decide +kernel
theorem dX0_makeNew_57 : decode cX0_makeNew 57 = .ok (.return_, 1) := by decide +kernel
theorem dX0_copyFrom_0 : decode cX0_copyFrom 0 = .ok (.aload_n 0, 1) := by decide +kernel
theorem dX0_copyFrom_1 : decode cX0_copyFrom 1 = .ok (.aload_n 1, 1) := by decide +kernel
theorem dX0_copyFrom_2 : decode cX0_copyFrom 2 = .ok (.getfield 15, 3) := by decide +kernel
theorem dX0_copyFrom_5 : decode cX0_copyFrom 5 = .ok (.putfield 15, 3) := by decide +kernel
theorem dX0_copyFrom_8 : decode cX0_copyFrom 8 = .ok (.aload_n 0, 1) := by decide +kernel
theorem dX0_copyFrom_9 : decode cX0_copyFrom 9 = .ok (.aload_n 1, 1) := by decide +kernel
theorem dX0_copyFrom_10 : decode cX0_copyFrom 10 = .ok (.getfield 18, 3) := by decide +kernel
theorem dX0_copyFrom_13 : decode cX0_copyFrom 13 = .ok (.putfield 18, 3) := by decide +kernel
theorem dX0_copyFrom_16 : decode cX0_copyFrom 16 = .ok (.aload_n 0, 1) := by decide +kernel
theorem dX0_copyFrom_17 : decode cX0_copyFrom 17 = .ok (.aload_n 1, 1) := by decide +kernel
theorem dX0_copyFrom_18 : decode cX0_copyFrom 18 = .ok (.getfield 21, 3) := by decide +kernel
theorem dX0_copyFrom_21 : decode cX0_copyFrom 21 = .ok (.putfield 21, 3) := by decide +kernel
theorem dX0_copyFrom_24 : decode cX0_copyFrom 24 = .ok (.aload_n 0, 1) := by decide +kernel
theorem dX0_copyFrom_25 : decode cX0_copyFrom 25 = .ok (.aload_n 1, 1) := by decide +kernel
theorem dX0_copyFrom_26 : decode cX0_copyFrom 26 = .ok (.getfield 24, 3) := by decide +kernel
theorem dX0_copyFrom_29 : decode cX0_copyFrom 29 = .ok (.putfield 24, 3) := by decide +kernel
theorem dX0_copyFrom_32 : decode cX0_copyFrom 32 = .ok (.aload_n 0, 1) := by decide +kernel
theorem dX0_copyFrom_33 : decode cX0_copyFrom 33 = .ok (.aload_n 1, 1) := by decide +kernel
theorem dX0_copyFrom_34 : decode cX0_copyFrom 34 = .ok (.getfield 27, 3) := by decide +kernel
theorem dX0_copyFrom_37 : decode cX0_copyFrom 37 = .ok (.putfield 27, 3) := by decide +kernel
theorem dX0_copyFrom_40 : decode cX0_copyFrom 40 = .ok (.aload_n 0, 1) := by decide +kernel
theorem dX0_copyFrom_41 : decode cX0_copyFrom 41 = .ok (.aload_n 1, 1) := by decide +kernel
theorem dX0_copyFrom_42 : decode cX0_copyFrom 42 = .ok (.getfield 30, 3) := by decide +kernel
theorem dX0_copyFrom_45 : decode cX0_copyFrom 45 = .ok (.putfield 30, 3) := by decide +kernel
theorem dX0_copyFrom_48 : decode cX0_copyFrom 48 = .ok (.aload_n 0, 1) := by decide +kernel
theorem dX0_copyFrom_49 : decode cX0_copyFrom 49 = .ok (.aload_n 1, 1) := by decide +kernel
theorem dX0_copyFrom_50 : decode cX0_copyFrom 50 = .ok (.getfield 50, 3) := by decide +kernel
theorem dX0_copyFrom_53 : decode cX0_copyFrom 53 = .ok (.putfield 50, 3) := by decide +kernel
theorem dX0_copyFrom_56 : decode cX0_copyFrom 56 = .ok (.aload_n 0, 1) := by decide +kernel
theorem dX0_copyFrom_57 : decode cX0_copyFrom 57 = .ok (.aload_n 1, 1) := by decide +kernel
theorem dX0_copyFrom_58 : decode cX0_copyFrom 58 = .ok (.getfield 9, 3) := by decide +kernel
theorem dX0_copyFrom_61 : decode cX0_copyFrom 61 = .ok (.putfield 9, 3) := by decide +kernel
theorem dX0_copyFrom_64 : decode cX0_copyFrom 64 = .ok (.aload_n 0, 1) := by decide +kernel
theorem dX0_copyFrom_65 : decode cX0_copyFrom 65 = .ok (.aload_n 1, 1) := by decide +kernel
theorem dX0_copyFrom_66 : decode cX0_copyFrom 66 = .ok (.getfield 53, 3) := by decide +kernel
theorem dX0_copyFrom_69 : decode cX0_copyFrom 69 = .ok (.putfield 53, 3) := by decide +kernel
theorem dX0_copyFrom_72 : decode cX0_copyFrom 72 = .ok (.aload_n 0, 1) := by decide +kernel
theorem dX0_copyFrom_73 : decode cX0_copyFrom 73 = .ok (.aload_n 1, 1) := by decide +kernel
theorem dX0_copyFrom_74 : decode cX0_copyFrom 74 = .ok (.getfield 56, 3) := by decide +kernel
theorem dX0_copyFrom_77 : decode cX0_copyFrom 77 = .ok (.putfield 56, 3) := by decide +kernel
theorem dX0_copyFrom_80 : decode cX0_copyFrom 80 = .ok (.aload_n 0, 1) := by decide +kernel
theorem dX0_copyFrom_81 : decode cX0_copyFrom 81 = .ok (.aload_n 1, 1) := by decide +kernel
theorem dX0_copyFrom_82 : decode cX0_copyFrom 82 = .ok (.getfield 59, 3) := by decide +kernel
theorem dX0_copyFrom_85 : decode cX0_copyFrom 85 = .ok (.putfield 59, 3) := by decide +kernel
theorem dX0_copyFrom_88 : decode cX0_copyFrom 88 = .ok (.aload_n 0, 1) := by decide +kernel
theorem dX0_copyFrom_89 : decode cX0_copyFrom 89 = .ok (.aload_n 1, 1) := by decide +kernel
theorem dX0_copyFrom_90 : decode cX0_copyFrom 90 = .ok (.getfield 34, 3) := by decide +kernel
theorem dX0_copyFrom_93 : decode cX0_copyFrom 93 = .ok (.putfield 34, 3) := by decide +kernel
theorem dX0_copyFrom_96 : decode cX0_copyFrom 96 = .ok (.aload_n 0, 1) := by decide +kernel
theorem dX0_copyFrom_97 : decode cX0_copyFrom 97 = .ok (.aload_n 1, 1) := by decide +kernel
theorem dX0_copyFrom_98 : decode cX0_copyFrom 98 = .ok (.getfield 37, 3) := by decide +kernel
theorem dX0_copyFrom_101 : decode cX0_copyFrom 101 = .ok (.putfield 37, 3) := by decide +kernel
theorem dX0_copyFrom_104 : decode cX0_copyFrom 104 = .ok (.aload_n 0, 1) := by decide +kernel
theorem dX0_copyFrom_105 : decode cX0_copyFrom 105 = .ok (.aload_n 1, 1) := by decide +kernel
theorem dX0_copyFrom_106 : decode cX0_copyFrom 106 = .ok (.getfield 40, 3) := by decide +kernel
theorem dX0_copyFrom_109 : decode cX0_copyFrom 109 = .ok (.putfield 40, 3) := by decide +kernel
theorem dX0_copyFrom_112 : decode cX0_copyFrom 112 = .ok (.aload_n 0, 1) := by decide +kernel
theorem dX0_copyFrom_113 : decode cX0_copyFrom 113 = .ok (.aload_n 1, 1) := by decide +kernel
theorem dX0_copyFrom_114 : decode cX0_copyFrom 114 = .ok (.getfield 43, 3) := by decide +kernel
theorem dX0_copyFrom_117 : decode cX0_copyFrom 117 = .ok (.putfield 43, 3) := by decide +kernel
theorem dX0_copyFrom_120 : decode cX0_copyFrom 120 = .ok (.return_, 1) := by decide +kernel
theorem dX0_weight_0 : decode cX0_weight 0 = .ok (.aload_n 0, 1) := by decide +kernel
theorem dX0_weight_1 : decode cX0_weight 1 = .ok (.getfield 18, 3) := by decide +kernel
theorem dX0_weight_4 : decode cX0_weight 4 = .ok (.aload_n 0, 1) := by decide +kernel
theorem dX0_weight_5 : decode cX0_weight 5 = .ok (.getfield 24, 3) := by decide +kernel
theorem dX0_weight_8 : decode cX0_weight 8 = .ok (.bipush 10, 2) := by decide +kernel
theorem dX0_weight_10 : decode cX0_weight 10 = .ok (.idiv, 1) := by decide +kernel
theorem dX0_weight_11 : decode cX0_weight 11 = .ok (.iadd, 1) := by decide +kernel
theorem dX0_weight_12 : decode cX0_weight 12 = .ok (.ireturn, 1) := by decide +kernel
theorem dX0_hold_0 : decode cX0_hold 0 = .ok (.aload_n 0, 1) := by decide +kernel
theorem dX0_hold_1 : decode cX0_hold 1 = .ok (.getfield 56, 3) := by decide +kernel
theorem dX0_hold_4 : decode cX0_hold 4 = .ok (.aload_n 0, 1) := by decide +kernel
theorem dX0_hold_5 : decode cX0_hold 5 = .ok (.getfield 59, 3) := by decide +kernel
theorem dX0_hold_8 : decode cX0_hold 8 = .ok (.invokestatic 62, 3) := by decide +kernel
theorem dX0_hold_11 : decode cX0_hold 11 = .ok (.ireturn, 1) := by decide +kernel
theorem dX0_hangUp_0 : decode cX0_hangUp 0 = .ok (.aload_n 0, 1) := by decide +kernel
theorem dX0_hangUp_1 : decode cX0_hangUp 1 = .ok (.iconst 1, 1) := by decide +kernel
theorem dX0_hangUp_2 : decode cX0_hangUp 2 = .ok (.putfield 50, 3) := by decide +kernel
theorem dX0_hangUp_5 : decode cX0_hangUp 5 = .ok (.aload_n 0, 1) := by decide +kernel
theorem dX0_hangUp_6 : decode cX0_hangUp 6 = .ok (.iload_n 2, 1) := by decide +kernel
theorem dX0_hangUp_7 : decode cX0_hangUp 7 = .ok (.putfield 56, 3) := by decide +kernel
theorem dX0_hangUp_10 : decode cX0_hangUp 10 = .ok (.aload_n 0, 1) := by decide +kernel
theorem dX0_hangUp_11 : decode cX0_hangUp 11 = .ok (.iload_n 3, 1) := by decide +kernel
theorem dX0_hangUp_12 : decode cX0_hangUp 12 = .ok (.putfield 59, 3) := by decide +kernel
theorem dX0_hangUp_15 : decode cX0_hangUp 15 = .ok (.aload_n 0, 1) := by decide +kernel
theorem dX0_hangUp_16 : decode cX0_hangUp 16 = .ok (.iload_n 1, 1) := by decide +kernel
theorem dX0_hangUp_17 : decode cX0_hangUp 17 = .ok (.invokevirtual 66, 3) := by decide +kernel
theorem dX0_hangUp_20 : decode cX0_hangUp 20 = .ok (.return_, 1) := by decide +kernel
theorem dX0_moveTo_0 : decode cX0_moveTo 0 = .ok (.aload_n 0, 1) := by decide +kernel
theorem dX0_moveTo_1 : decode cX0_moveTo 1 = .ok (.iload_n 1, 1) := by decide +kernel
theorem dX0_moveTo_2 : decode cX0_moveTo 2 = .ok (.putfield 9, 3) := by decide +kernel
theorem dX0_moveTo_5 : decode cX0_moveTo 5 = .ok (.aload_n 0, 1) := by decide +kernel
theorem dX0_moveTo_6 : decode cX0_moveTo 6 = .ok (.iload_n 1, 1) := by decide +kernel
theorem dX0_moveTo_7 : decode cX0_moveTo 7 = .ok (.aload_n 0, 1) := by decide +kernel
theorem dX0_moveTo_8 : decode cX0_moveTo 8 = .ok (.getfield 15, 3) := by decide +kernel
theorem dX0_moveTo_11 : decode cX0_moveTo 11 = .ok (.invokestatic 69, 3) := by decide +kernel
theorem dX0_moveTo_14 : decode cX0_moveTo 14 = .ok (.putfield 53, 3) := by decide +kernel
theorem dX0_moveTo_17 : decode cX0_moveTo 17 = .ok (.return_, 1) := by decide +kernel
theorem dX0_putInto_0 : decode cX0_putInto 0 = .ok (.aload_n 0, 1) := by decide +kernel
theorem dX0_putInto_1 : decode cX0_putInto 1 = .ok (.iload_n 1, 1) := by decide +kernel
theorem dX0_putInto_2 : decode cX0_putInto 2 = .ok (.putfield 50, 3) := by decide +kernel
theorem dX0_putInto_5 : decode cX0_putInto 5 = .ok (.aload_n 0, 1) := by decide +kernel
theorem dX0_putInto_6 : decode cX0_putInto 6 = .ok (.iconst (-1), 1) := by decide +kernel
theorem dX0_putInto_7 : decode cX0_putInto 7 = .ok (.putfield 9, 3) := by decide +kernel
theorem dX0_putInto_10 : decode cX0_putInto 10 = .ok (.aload_n 0, 1) := by decide +kernel
theorem dX0_putInto_11 : decode cX0_putInto 11 = .ok (.iconst 0, 1) := by decide +kernel
theorem dX0_putInto_12 : decode cX0_putInto 12 = .ok (.putfield 53, 3) := by decide +kernel
theorem dX0_putInto_15 : decode cX0_putInto 15 = .ok (.aload_n 0, 1) := by decide +kernel
theorem dX0_putInto_16 : decode cX0_putInto 16 = .ok (.iconst 0, 1) := by decide +kernel
theorem dX0_putInto_17 : decode cX0_putInto 17 = .ok (.putfield 56, 3) := by decide +kernel
theorem dX0_putInto_20 : decode cX0_putInto 20 = .ok (.aload_n 0, 1) := by decide +kernel
theorem dX0_putInto_21 : decode cX0_putInto 21 = .ok (.iconst 0, 1) := by decide +kernel
theorem dX0_putInto_22 : decode cX0_putInto 22 = .ok (.putfield 59, 3) := by decide +kernel
theorem dX0_putInto_25 : decode cX0_putInto 25 = .ok (.return_, 1) := by decide +kernel
theorem dX0_soak_0 : decode cX0_soak 0 = .ok (.aload_n 0, 1) := by decide +kernel
theorem dX0_soak_1 : decode cX0_soak 1 = .ok (.dup, 1) := by decide +kernel
theorem dX0_soak_2 : decode cX0_soak 2 = .ok (.getfield 37, 3) := by decide +kernel
theorem dX0_soak_5 : decode cX0_soak 5 = .ok (.aload_n 0, 1) := by decide +kernel
theorem dX0_soak_6 : decode cX0_soak 6 = .ok (.getfield 21, 3) := by decide +kernel
theorem dX0_soak_9 : decode cX0_soak 9 = .ok (.aload_n 0, 1) := by decide +kernel
theorem dX0_soak_10 : decode cX0_soak 10 = .ok (.getfield 24, 3) := by decide +kernel
theorem dX0_soak_13 : decode cX0_soak 13 = .ok (.isub, 1) := by decide +kernel
theorem dX0_soak_14 : decode cX0_soak 14 = .ok (.iadd, 1) := by decide +kernel
theorem dX0_soak_15 : decode cX0_soak 15 = .ok (.putfield 37, 3) := by decide +kernel
theorem dX0_soak_18 : decode cX0_soak 18 = .ok (.aload_n 0, 1) := by decide +kernel
theorem dX0_soak_19 : decode cX0_soak 19 = .ok (.aload_n 0, 1) := by decide +kernel
theorem dX0_soak_20 : decode cX0_soak 20 = .ok (.getfield 21, 3) := by decide +kernel
theorem dX0_soak_23 : decode cX0_soak 23 = .ok (.putfield 24, 3) := by decide +kernel
theorem dX0_soak_26 : decode cX0_soak 26 = .ok (.aload_n 0, 1) := by decide +kernel
theorem dX0_soak_27 : decode cX0_soak 27 = .ok (.iconst 0, 1) := by decide +kernel
theorem dX0_soak_28 : decode cX0_soak 28 = .ok (.putfield 27, 3) := by decide +kernel
theorem dX0_soak_31 : decode cX0_soak 31 = .ok (.aload_n 0, 1) := by decide +kernel
theorem dX0_soak_32 : decode cX0_soak 32 = .ok (.iconst 0, 1) := by decide +kernel
theorem dX0_soak_33 : decode cX0_soak 33 = .ok (.putfield 30, 3) := by decide +kernel
theorem dX0_soak_36 : decode cX0_soak 36 = .ok (.return_, 1) := by decide +kernel
theorem dX0_getWet_0 : decode cX0_getWet 0 = .ok (.iload_n 1, 1) := by decide +kernel
theorem dX0_getWet_1 : decode cX0_getWet 1 = .ok (.aload_n 0, 1) := by decide +kernel
theorem dX0_getWet_2 : decode cX0_getWet 2 = .ok (.getfield 15, 3) := by decide +kernel
theorem dX0_getWet_5 : decode cX0_getWet 5 = .ok (.imul, 1) := by decide +kernel
theorem dX0_getWet_6 : decode cX0_getWet 6 = .ok (.aload_n 0, 1) := by decide +kernel
theorem dX0_getWet_7 : decode cX0_getWet 7 = .ok (.getfield 21, 3) := by decide +kernel
theorem dX0_getWet_10 : decode cX0_getWet 10 = .ok (.aload_n 0, 1) := by decide +kernel
theorem dX0_getWet_11 : decode cX0_getWet 11 = .ok (.getfield 24, 3) := by decide +kernel
theorem dX0_getWet_14 : decode cX0_getWet 14 = .ok (.isub, 1) := by decide +kernel
theorem dX0_getWet_15 : decode cX0_getWet 15 = .ok (.invokestatic 72, 3) := by decide +kernel
theorem dX0_getWet_18 : decode cX0_getWet 18 = .ok (.istore_n 2, 1) := by decide +kernel
theorem dX0_getWet_19 : decode cX0_getWet 19 = .ok (.aload_n 0, 1) := by decide +kernel
theorem dX0_getWet_20 : decode cX0_getWet 20 = .ok (.dup, 1) := by decide +kernel
theorem dX0_getWet_21 : decode cX0_getWet 21 = .ok (.getfield 24, 3) := by decide +kernel
theorem dX0_getWet_24 : decode cX0_getWet 24 = .ok (.iload_n 2, 1) := by decide +kernel
theorem dX0_getWet_25 : decode cX0_getWet 25 = .ok (.iadd, 1) := by decide +kernel
theorem dX0_getWet_26 : decode cX0_getWet 26 = .ok (.putfield 24, 3) := by decide +kernel
theorem dX0_getWet_29 : decode cX0_getWet 29 = .ok (.aload_n 0, 1) := by decide +kernel
theorem dX0_getWet_30 : decode cX0_getWet 30 = .ok (.dup, 1) := by decide +kernel
theorem dX0_getWet_31 : decode cX0_getWet 31 = .ok (.getfield 37, 3) := by decide +kernel
theorem dX0_getWet_34 : decode cX0_getWet 34 = .ok (.iload_n 2, 1) := by decide +kernel
theorem dX0_getWet_35 : decode cX0_getWet 35 = .ok (.iadd, 1) := by decide +kernel
theorem dX0_getWet_36 : decode cX0_getWet 36 = .ok (.putfield 37, 3) := by decide +kernel
theorem dX0_getWet_39 : decode cX0_getWet 39 = .ok (.return_, 1) := by decide +kernel
theorem dX0_getDry_0 : decode cX0_getDry 0 = .ok (.iload_n 1, 1) := by decide +kernel
theorem dX0_getDry_1 : decode cX0_getDry 1 = .ok (.aload_n 0, 1) := by decide +kernel
theorem dX0_getDry_2 : decode cX0_getDry 2 = .ok (.getfield 53, 3) := by decide +kernel
theorem dX0_getDry_5 : decode cX0_getDry 5 = .ok (.iand, 1) := by decide +kernel
theorem dX0_getDry_6 : decode cX0_getDry 6 = .ok (.invokestatic 77, 3) := by decide +kernel
theorem dX0_getDry_9 : decode cX0_getDry 9 = .ok (.aload_n 0, 1) := by decide +kernel
theorem dX0_getDry_10 : decode cX0_getDry 10 = .ok (.getfield 24, 3) := by decide +kernel
theorem dX0_getDry_13 : decode cX0_getDry 13 = .ok (.invokestatic 72, 3) := by decide +kernel
theorem dX0_getDry_16 : decode cX0_getDry 16 = .ok (.istore_n 3, 1) := by decide +kernel
theorem dX0_getDry_17 : decode cX0_getDry 17 = .ok (.aload_n 0, 1) := by decide +kernel
theorem dX0_getDry_18 : decode cX0_getDry 18 = .ok (.dup, 1) := by decide +kernel
theorem dX0_getDry_19 : decode cX0_getDry 19 = .ok (.getfield 24, 3) := by decide +kernel
theorem dX0_getDry_22 : decode cX0_getDry 22 = .ok (.iload_n 3, 1) := by decide +kernel
theorem dX0_getDry_23 : decode cX0_getDry 23 = .ok (.isub, 1) := by decide +kernel
theorem dX0_getDry_24 : decode cX0_getDry 24 = .ok (.putfield 24, 3) := by decide +kernel
theorem dX0_getDry_27 : decode cX0_getDry 27 = .ok (.aload_n 0, 1) := by decide +kernel
theorem dX0_getDry_28 : decode cX0_getDry 28 = .ok (.dup, 1) := by decide +kernel
theorem dX0_getDry_29 : decode cX0_getDry 29 = .ok (.getfield 40, 3) := by decide +kernel
theorem dX0_getDry_32 : decode cX0_getDry 32 = .ok (.iload_n 3, 1) := by decide +kernel
theorem dX0_getDry_33 : decode cX0_getDry 33 = .ok (.iadd, 1) := by decide +kernel
theorem dX0_getDry_34 : decode cX0_getDry 34 = .ok (.putfield 40, 3) := by decide +kernel
theorem dX0_getDry_37 : decode cX0_getDry 37 = .ok (.iload_n 2, 1) := by decide +kernel
theorem dX0_getDry_38 : decode cX0_getDry 38 = .ok (.aload_n 0, 1) := by decide +kernel
theorem dX0_getDry_39 : decode cX0_getDry 39 = .ok (.getfield 24, 3) := by decide +kernel
theorem dX0_getDry_42 : decode cX0_getDry 42 = .ok (.invokestatic 72, 3) := by decide +kernel
theorem dX0_getDry_45 : decode cX0_getDry 45 = .ok (.istore 4, 2) := by decide +kernel
theorem dX0_getDry_47 : decode cX0_getDry 47 = .ok (.aload_n 0, 1) := by decide +kernel
theorem dX0_getDry_48 : decode cX0_getDry 48 = .ok (.dup, 1) := by decide +kernel
theorem dX0_getDry_49 : decode cX0_getDry 49 = .ok (.getfield 24, 3) := by decide +kernel
theorem dX0_getDry_52 : decode cX0_getDry 52 = .ok (.iload 4, 2) := by decide +kernel
theorem dX0_getDry_54 : decode cX0_getDry 54 = .ok (.isub, 1) := by decide +kernel
theorem dX0_getDry_55 : decode cX0_getDry 55 = .ok (.putfield 24, 3) := by decide +kernel
theorem dX0_getDry_58 : decode cX0_getDry 58 = .ok (.aload_n 0, 1) := by decide +kernel
theorem dX0_getDry_59 : decode cX0_getDry 59 = .ok (.dup, 1) := by decide +kernel
theorem dX0_getDry_60 : decode cX0_getDry 60 = .ok (.getfield 43, 3) := by decide +kernel
theorem dX0_getDry_63 : decode cX0_getDry 63 = .ok (.iload 4, 2) := by decide +kernel
theorem dX0_getDry_65 : decode cX0_getDry 65 = .ok (.iadd, 1) := by decide +kernel
theorem dX0_getDry_66 : decode cX0_getDry 66 = .ok (.putfield 43, 3) := by decide +kernel
theorem dX0_getDry_69 : decode cX0_getDry 69 = .ok (.return_, 1) := by decide +kernel
theorem dX0_takeSmell_0 : decode cX0_takeSmell 0 = .ok (.iload_n 1, 1) := by decide +kernel
theorem dX0_takeSmell_1 : decode cX0_takeSmell 1 = .ok (.aload_n 0, 1) := by decide +kernel
theorem dX0_takeSmell_2 : decode cX0_takeSmell 2 = .ok (.getfield 53, 3) := by decide +kernel
theorem dX0_takeSmell_5 : decode cX0_takeSmell 5 = .ok (.iand, 1) := by decide +kernel
theorem dX0_takeSmell_6 : decode cX0_takeSmell 6 = .ok (.ifCond .eq 21, 3) := by decide +kernel
theorem dX0_takeSmell_9 : decode cX0_takeSmell 9 = .ok (.aload_n 0, 1) := by decide +kernel
theorem dX0_takeSmell_10 : decode cX0_takeSmell 10 = .ok (.aload_n 0, 1) := by decide +kernel
theorem dX0_takeSmell_11 : decode cX0_takeSmell 11 = .ok (.getfield 27, 3) := by decide +kernel
theorem dX0_takeSmell_14 : decode cX0_takeSmell 14 = .ok (.iconst 1, 1) := by decide +kernel
theorem dX0_takeSmell_15 : decode cX0_takeSmell 15 = .ok (.iadd, 1) := by decide +kernel
theorem dX0_takeSmell_16 : decode cX0_takeSmell 16 = .ok (.bipush 99, 2) := by decide +kernel
theorem dX0_takeSmell_18 : decode cX0_takeSmell 18 = .ok (.invokestatic 72, 3) := by decide +kernel
theorem dX0_takeSmell_21 : decode cX0_takeSmell 21 = .ok (.putfield 27, 3) := by decide +kernel
theorem dX0_takeSmell_24 : decode cX0_takeSmell 24 = .ok (.goto 21, 3) := by decide +kernel
theorem dX0_takeSmell_27 : decode cX0_takeSmell 27 = .ok (.iload_n 2, 1) := by decide +kernel
theorem dX0_takeSmell_28 : decode cX0_takeSmell 28 = .ok (.ifCond .eq 17, 3) := by decide +kernel
theorem dX0_takeSmell_31 : decode cX0_takeSmell 31 = .ok (.aload_n 0, 1) := by decide +kernel
theorem dX0_takeSmell_32 : decode cX0_takeSmell 32 = .ok (.aload_n 0, 1) := by decide +kernel
theorem dX0_takeSmell_33 : decode cX0_takeSmell 33 = .ok (.getfield 27, 3) := by decide +kernel
theorem dX0_takeSmell_36 : decode cX0_takeSmell 36 = .ok (.iconst 1, 1) := by decide +kernel
theorem dX0_takeSmell_37 : decode cX0_takeSmell 37 = .ok (.isub, 1) := by decide +kernel
theorem dX0_takeSmell_38 : decode cX0_takeSmell 38 = .ok (.iconst 0, 1) := by decide +kernel
theorem dX0_takeSmell_39 : decode cX0_takeSmell 39 = .ok (.invokestatic 83, 3) := by decide +kernel
theorem dX0_takeSmell_42 : decode cX0_takeSmell 42 = .ok (.putfield 27, 3) := by decide +kernel
theorem dX0_takeSmell_45 : decode cX0_takeSmell 45 = .ok (.return_, 1) := by decide +kernel
theorem dX0_fall_0 : decode cX0_fall 0 = .ok (.aload_n 0, 1) := by decide +kernel
theorem dX0_fall_1 : decode cX0_fall 1 = .ok (.iconst 2, 1) := by decide +kernel
theorem dX0_fall_2 : decode cX0_fall 2 = .ok (.invokevirtual 46, 3) := by decide +kernel
theorem dX0_fall_5 : decode cX0_fall 5 = .ok (.aload_n 0, 1) := by decide +kernel
theorem dX0_fall_6 : decode cX0_fall 6 = .ok (.iconst 1, 1) := by decide +kernel
theorem dX0_fall_7 : decode cX0_fall 7 = .ok (.putfield 30, 3) := by decide +kernel
theorem dX0_fall_10 : decode cX0_fall 10 = .ok (.aload_n 0, 1) := by decide +kernel
theorem dX0_fall_11 : decode cX0_fall 11 = .ok (.dup, 1) := by decide +kernel
theorem dX0_fall_12 : decode cX0_fall 12 = .ok (.getfield 34, 3) := by decide +kernel
theorem dX0_fall_15 : decode cX0_fall 15 = .ok (.iconst 1, 1) := by decide +kernel
theorem dX0_fall_16 : decode cX0_fall 16 = .ok (.iadd, 1) := by decide +kernel
theorem dX0_fall_17 : decode cX0_fall 17 = .ok (.putfield 34, 3) := by decide +kernel
theorem dX0_fall_20 : decode cX0_fall 20 = .ok (.return_, 1) := by decide +kernel
theorem dX1_init_0 : decode cX1_init 0 = .ok (.aload_n 0, 1) := by decide +kernel
theorem dX1_init_1 : decode cX1_init 1 = .ok (.invokespecial 3, 3) := by decide +kernel
theorem dX1_init_4 : decode cX1_init 4 = .ok (.aload_n 0, 1) := by decide +kernel
theorem dX1_init_5 : decode cX1_init 5 = .ok (.bipush 8, 2) := by decide +kernel
theorem dX1_init_7 : decode cX1_init 7 = .ok (.anewarray 9, 3) := by decide +kernel
theorem dX1_init_10 : decode cX1_init 10 = .ok (.putfield 11, 3) := by decide +kernel
theorem dX1_init_13 : decode cX1_init 13 = .ok (.iconst 0, 1) := by decide +kernel
theorem dX1_init_14 : decode cX1_init 14 = .ok (.istore_n 1, 1) := by decide +kernel
theorem dX1_init_15 : decode cX1_init 15 = .ok (.iload_n 1, 1) := by decide +kernel
theorem dX1_init_16 : decode cX1_init 16 = .ok (.bipush 8, 2) := by decide +kernel
theorem dX1_init_18 : decode cX1_init 18 = .ok (.if_icmp .ge 22, 3) := by decide +kernel
theorem dX1_init_21 : decode cX1_init 21 = .ok (.aload_n 0, 1) := by decide +kernel
theorem dX1_init_22 : decode cX1_init 22 = .ok (.getfield 11, 3) := by decide +kernel
theorem dX1_init_25 : decode cX1_init 25 = .ok (.iload_n 1, 1) := by decide +kernel
theorem dX1_init_26 : decode cX1_init 26 = .ok (.new 9, 3) := by decide +kernel
theorem dX1_init_29 : decode cX1_init 29 = .ok (.dup, 1) := by decide +kernel
theorem dX1_init_30 : decode cX1_init 30 = .ok (.invokespecial 17, 3) := by decide +kernel
theorem dX1_init_33 : decode cX1_init 33 = .ok (.aastore, 1) := by decide +kernel
theorem dX1_init_34 : decode cX1_init 34 = .ok (.iinc 1 1, 3) := by decide +kernel
theorem dX1_init_37 : decode cX1_init 37 = .ok (.goto (-22), 3) := by decide +kernel
theorem dX1_init_40 : decode cX1_init 40 = .ok (.return_, 1) := by decide +kernel
theorem dX1_clear_0 : decode cX1_clear 0 = .ok (.aload_n 0, 1) := by decide +kernel
theorem dX1_clear_1 : decode cX1_clear 1 = .ok (.iconst 0, 1) := by decide +kernel
theorem dX1_clear_2 : decode cX1_clear 2 = .ok (.putfield 18, 3) := by decide +kernel
theorem dX1_clear_5 : decode cX1_clear 5 = .ok (.return_, 1) := by decide +kernel
theorem dX1_record_0 : decode cX1_record 0 = .ok (.aload_n 0, 1) := by decide +kernel
theorem dX1_record_1 : decode cX1_record 1 = .ok (.getfield 11, 3) := by decide +kernel
theorem dX1_record_4 : decode cX1_record 4 = .ok (.aload_n 0, 1) := by decide +kernel
theorem dX1_record_5 : decode cX1_record 5 = .ok (.getfield 22, 3) := by decide +kernel
theorem dX1_record_8 : decode cX1_record 8 = .ok (.aaload, 1) := by decide +kernel
theorem dX1_record_9 : decode cX1_record 9 = .ok (.aload_n 1, 1) := by decide +kernel
theorem dX1_record_10 : decode cX1_record 10 = .ok (.invokevirtual 25, 3) := by decide +kernel
theorem dX1_record_13 : decode cX1_record 13 = .ok (.aload_n 0, 1) := by decide +kernel
theorem dX1_record_14 : decode cX1_record 14 = .ok (.aload_n 0, 1) := by decide +kernel
theorem dX1_record_15 : decode cX1_record 15 = .ok (.getfield 22, 3) := by decide +kernel
theorem dX1_record_18 : decode cX1_record 18 = .ok (.iconst 1, 1) := by decide +kernel
theorem dX1_record_19 : decode cX1_record 19 = .ok (.iadd, 1) := by decide +kernel
theorem dX1_record_20 : decode cX1_record 20 = .ok (.bipush 8, 2) := by decide +kernel
theorem dX1_record_22 : decode cX1_record 22 = .ok (.irem, 1) := by decide +kernel
theorem dX1_record_23 : decode cX1_record 23 = .ok (.putfield 22, 3) := by decide +kernel
theorem dX1_record_26 : decode cX1_record 26 = .ok (.aload_n 0, 1) := by decide +kernel
theorem dX1_record_27 : decode cX1_record 27 = .ok (.aload_n 0, 1) := by decide +kernel
theorem dX1_record_28 : decode cX1_record 28 = .ok (.getfield 18, 3) := by decide +kernel
theorem dX1_record_31 : decode cX1_record 31 = .ok (.iconst 1, 1) := by decide +kernel
theorem dX1_record_32 : decode cX1_record 32 = .ok (.iadd, 1) := by decide +kernel
theorem dX1_record_33 : decode cX1_record 33 = .ok (.bipush 8, 2) := by decide +kernel
theorem dX1_record_35 : decode cX1_record 35 = .ok (.invokestatic 29, 3) := by decide +kernel
theorem dX1_record_38 : decode cX1_record 38 = .ok (.putfield 18, 3) := by decide +kernel
theorem dX1_record_41 : decode cX1_record 41 = .ok (.return_, 1) := by decide +kernel
theorem dX1_takeBack_0 : decode cX1_takeBack 0 = .ok (.aload_n 0, 1) := by decide +kernel
theorem dX1_takeBack_1 : decode cX1_takeBack 1 = .ok (.aload_n 0, 1) := by decide +kernel
theorem dX1_takeBack_2 : decode cX1_takeBack 2 = .ok (.getfield 22, 3) := by decide +kernel
theorem dX1_takeBack_5 : decode cX1_takeBack 5 = .ok (.bipush 8, 2) := by decide +kernel
theorem dX1_takeBack_7 : decode cX1_takeBack 7 = .ok (.iadd, 1) := by decide +kernel
theorem dX1_takeBack_8 : decode cX1_takeBack 8 = .ok (.iconst 1, 1) := by decide +kernel
theorem dX1_takeBack_9 : decode cX1_takeBack 9 = .ok (.isub, 1) := by decide +kernel
theorem dX1_takeBack_10 : decode cX1_takeBack 10 = .ok (.bipush 8, 2) := by decide +kernel
theorem dX1_takeBack_12 : decode cX1_takeBack 12 = .ok (.irem, 1) := by decide +kernel
theorem dX1_takeBack_13 : decode cX1_takeBack 13 = .ok (.putfield 22, 3) := by decide +kernel
theorem dX1_takeBack_16 : decode cX1_takeBack 16 = .ok (.aload_n 0, 1) := by decide +kernel
theorem dX1_takeBack_17 : decode cX1_takeBack 17 = .ok (.dup, 1) := by decide +kernel
theorem dX1_takeBack_18 : decode cX1_takeBack 18 = .ok (.getfield 18, 3) := by decide +kernel
theorem dX1_takeBack_21 : decode cX1_takeBack 21 = .ok (.iconst 1, 1) := by decide +kernel
theorem dX1_takeBack_22 : decode cX1_takeBack 22 = .ok (.isub, 1) := by decide +kernel
theorem dX1_takeBack_23 : decode cX1_takeBack 23 = .ok (.putfield 18, 3) := by decide +kernel
theorem dX1_takeBack_26 : decode cX1_takeBack 26 = .ok (.aload_n 1, 1) := by decide +kernel
theorem dX1_takeBack_27 : decode cX1_takeBack 27 = .ok (.aload_n 0, 1) := by decide +kernel
theorem dX1_takeBack_28 : decode cX1_takeBack 28 = .ok (.getfield 11, 3) := by decide +kernel
theorem dX1_takeBack_31 : decode cX1_takeBack 31 = .ok (.aload_n 0, 1) := by decide +kernel
theorem dX1_takeBack_32 : decode cX1_takeBack 32 = .ok (.getfield 22, 3) := by decide +kernel
theorem dX1_takeBack_35 : decode cX1_takeBack 35 = .ok (.aaload, 1) := by decide +kernel
theorem dX1_takeBack_36 : decode cX1_takeBack 36 = .ok (.invokevirtual 25, 3) := by decide +kernel
theorem dX1_takeBack_39 : decode cX1_takeBack 39 = .ok (.return_, 1) := by decide +kernel
theorem dX2_init_0 : decode cX2_init 0 = .ok (.aload_n 0, 1) := by decide +kernel
theorem dX2_init_1 : decode cX2_init 1 = .ok (.invokespecial 3, 3) := by decide +kernel
theorem dX2_init_4 : decode cX2_init 4 = .ok (.aload_n 0, 1) := by decide +kernel
theorem dX2_init_5 : decode cX2_init 5 = .ok (.new 9, 3) := by decide +kernel
theorem dX2_init_8 : decode cX2_init 8 = .ok (.dup, 1) := by decide +kernel
theorem dX2_init_9 : decode cX2_init 9 = .ok (.invokespecial 11, 3) := by decide +kernel
theorem dX2_init_12 : decode cX2_init 12 = .ok (.putfield 12, 3) := by decide +kernel
theorem dX2_init_15 : decode cX2_init 15 = .ok (.aload_n 0, 1) := by decide +kernel
theorem dX2_init_16 : decode cX2_init 16 = .ok (.bipush 10, 2) := by decide +kernel
theorem dX2_init_18 : decode cX2_init 18 = .ok (.anewarray 18, 3) := by decide +kernel
theorem dX2_init_21 : decode cX2_init 21 = .ok (.putfield 20, 3) := by decide +kernel
theorem dX2_init_24 : decode cX2_init 24 = .ok (.iconst 0, 1) := by decide +kernel
theorem dX2_init_25 : decode cX2_init 25 = .ok (.istore_n 1, 1) := by decide +kernel
theorem dX2_init_26 : decode cX2_init 26 = .ok (.iload_n 1, 1) := by decide +kernel
theorem dX2_init_27 : decode cX2_init 27 = .ok (.bipush 10, 2) := by decide +kernel
theorem dX2_init_29 : decode cX2_init 29 = .ok (.if_icmp .ge 22, 3) := by decide +kernel
theorem dX2_init_32 : decode cX2_init 32 = .ok (.aload_n 0, 1) := by decide +kernel
theorem dX2_init_33 : decode cX2_init 33 = .ok (.getfield 20, 3) := by decide +kernel
theorem dX2_init_36 : decode cX2_init 36 = .ok (.iload_n 1, 1) := by decide +kernel
theorem dX2_init_37 : decode cX2_init 37 = .ok (.new 18, 3) := by decide +kernel
theorem dX2_init_40 : decode cX2_init 40 = .ok (.dup, 1) := by decide +kernel
theorem dX2_init_41 : decode cX2_init 41 = .ok (.invokespecial 24, 3) := by decide +kernel
theorem dX2_init_44 : decode cX2_init 44 = .ok (.aastore, 1) := by decide +kernel
theorem dX2_init_45 : decode cX2_init 45 = .ok (.iinc 1 1, 3) := by decide +kernel
theorem dX2_init_48 : decode cX2_init 48 = .ok (.goto (-22), 3) := by decide +kernel
theorem dX2_init_51 : decode cX2_init 51 = .ok (.return_, 1) := by decide +kernel
theorem dX2_clear_0 : decode cX2_clear 0 = .ok (.aload_n 0, 1) := by decide +kernel
theorem dX2_clear_1 : decode cX2_clear 1 = .ok (.iload_n 1, 1) := by decide +kernel
theorem dX2_clear_2 : decode cX2_clear 2 = .ok (.putfield 25, 3) := by decide +kernel
theorem dX2_clear_5 : decode cX2_clear 5 = .ok (.aload_n 0, 1) := by decide +kernel
theorem dX2_clear_6 : decode cX2_clear 6 = .ok (.iload_n 2, 1) := by decide +kernel
theorem dX2_clear_7 : decode cX2_clear 7 = .ok (.putfield 29, 3) := by decide +kernel
theorem dX2_clear_10 : decode cX2_clear 10 = .ok (.aload_n 0, 1) := by decide +kernel
theorem dX2_clear_11 : decode cX2_clear 11 = .ok (.iconst 0, 1) := by decide +kernel
theorem dX2_clear_12 : decode cX2_clear 12 = .ok (.putfield 32, 3) := by decide +kernel
theorem dX2_clear_15 : decode cX2_clear 15 = .ok (.aload_n 0, 1) := by decide +kernel
theorem dX2_clear_16 : decode cX2_clear 16 = .ok (.iconst 0, 1) := by decide +kernel
theorem dX2_clear_17 : decode cX2_clear 17 = .ok (.putfield 35, 3) := by decide +kernel
theorem dX2_clear_20 : decode cX2_clear 20 = .ok (.aload_n 0, 1) := by decide +kernel
theorem dX2_clear_21 : decode cX2_clear 21 = .ok (.getfield 12, 3) := by decide +kernel
theorem dX2_clear_24 : decode cX2_clear 24 = .ok (.iload_n 3, 1) := by decide +kernel
theorem dX2_clear_25 : decode cX2_clear 25 = .ok (.invokevirtual 38, 3) := by decide +kernel
theorem dX2_clear_28 : decode cX2_clear 28 = .ok (.return_, 1) := by decide +kernel
theorem dX2_copyFrom_0 : decode cX2_copyFrom 0 = .ok (.aload_n 0, 1) := by decide +kernel
theorem dX2_copyFrom_1 : decode cX2_copyFrom 1 = .ok (.aload_n 1, 1) := by decide +kernel
theorem dX2_copyFrom_2 : decode cX2_copyFrom 2 = .ok (.getfield 25, 3) := by decide +kernel
theorem dX2_copyFrom_5 : decode cX2_copyFrom 5 = .ok (.putfield 25, 3) := by decide +kernel
theorem dX2_copyFrom_8 : decode cX2_copyFrom 8 = .ok (.aload_n 0, 1) := by decide +kernel
theorem dX2_copyFrom_9 : decode cX2_copyFrom 9 = .ok (.aload_n 1, 1) := by decide +kernel
theorem dX2_copyFrom_10 : decode cX2_copyFrom 10 = .ok (.getfield 29, 3) := by decide +kernel
theorem dX2_copyFrom_13 : decode cX2_copyFrom 13 = .ok (.putfield 29, 3) := by decide +kernel
theorem dX2_copyFrom_16 : decode cX2_copyFrom 16 = .ok (.aload_n 0, 1) := by decide +kernel
theorem dX2_copyFrom_17 : decode cX2_copyFrom 17 = .ok (.aload_n 1, 1) := by decide +kernel
theorem dX2_copyFrom_18 : decode cX2_copyFrom 18 = .ok (.getfield 32, 3) := by decide +kernel
theorem dX2_copyFrom_21 : decode cX2_copyFrom 21 = .ok (.putfield 32, 3) := by decide +kernel
theorem dX2_copyFrom_24 : decode cX2_copyFrom 24 = .ok (.aload_n 0, 1) := by decide +kernel
theorem dX2_copyFrom_25 : decode cX2_copyFrom 25 = .ok (.aload_n 1, 1) := by decide +kernel
theorem dX2_copyFrom_26 : decode cX2_copyFrom 26 = .ok (.getfield 35, 3) := by decide +kernel
theorem dX2_copyFrom_29 : decode cX2_copyFrom 29 = .ok (.putfield 35, 3) := by decide +kernel
theorem dX2_copyFrom_32 : decode cX2_copyFrom 32 = .ok (.aload_n 0, 1) := by decide +kernel
theorem dX2_copyFrom_33 : decode cX2_copyFrom 33 = .ok (.getfield 12, 3) := by decide +kernel
theorem dX2_copyFrom_36 : decode cX2_copyFrom 36 = .ok (.aload_n 1, 1) := by decide +kernel
theorem dX2_copyFrom_37 : decode cX2_copyFrom 37 = .ok (.getfield 12, 3) := by decide +kernel
theorem dX2_copyFrom_40 : decode cX2_copyFrom 40 = .ok (.invokevirtual 42, 3) := by decide +kernel
theorem dX2_copyFrom_43 : decode cX2_copyFrom 43 = .ok (.iconst 0, 1) := by decide +kernel
theorem dX2_copyFrom_44 : decode cX2_copyFrom 44 = .ok (.istore_n 2, 1) := by decide +kernel
theorem dX2_copyFrom_45 : decode cX2_copyFrom 45 = .ok (.iload_n 2, 1) := by decide +kernel
theorem dX2_copyFrom_46 : decode cX2_copyFrom 46 = .ok (.aload_n 0, 1) := by decide +kernel
theorem dX2_copyFrom_47 : decode cX2_copyFrom 47 = .ok (.getfield 35, 3) := by decide +kernel
theorem dX2_copyFrom_50 : decode cX2_copyFrom 50 = .ok (.if_icmp .ge 24, 3) := by decide +kernel
theorem dX2_copyFrom_53 : decode cX2_copyFrom 53 = .ok (.aload_n 0, 1) := by decide +kernel
theorem dX2_copyFrom_54 : decode cX2_copyFrom 54 = .ok (.getfield 20, 3) := by decide +kernel
theorem dX2_copyFrom_57 : decode cX2_copyFrom 57 = .ok (.iload_n 2, 1) := by decide +kernel
theorem dX2_copyFrom_58 : decode cX2_copyFrom 58 = .ok (.aaload, 1) := by decide +kernel
theorem dX2_copyFrom_59 : decode cX2_copyFrom 59 = .ok (.aload_n 1, 1) := by decide +kernel
theorem dX2_copyFrom_60 : decode cX2_copyFrom 60 = .ok (.getfield 20, 3) := by decide +kernel
theorem dX2_copyFrom_63 : decode cX2_copyFrom 63 = .ok (.iload_n 2, 1) := by decide +kernel
theorem dX2_copyFrom_64 : decode cX2_copyFrom 64 = .ok (.aaload, 1) := by decide +kernel
theorem dX2_copyFrom_65 : decode cX2_copyFrom 65 = .ok (.invokevirtual 46, 3) := by decide +kernel
theorem dX2_copyFrom_68 : decode cX2_copyFrom 68 = .ok (.iinc 2 1, 3) := by decide +kernel
theorem dX2_copyFrom_71 : decode cX2_copyFrom 71 = .ok (.goto (-26), 3) := by decide +kernel
theorem dX2_copyFrom_74 : decode cX2_copyFrom 74 = .ok (.return_, 1) := by decide +kernel
theorem dX2_copyWithOne_0 : decode cX2_copyWithOne 0 = .ok (.aload_n 0, 1) := by decide +kernel
theorem dX2_copyWithOne_1 : decode cX2_copyWithOne 1 = .ok (.aload_n 1, 1) := by decide +kernel
theorem dX2_copyWithOne_2 : decode cX2_copyWithOne 2 = .ok (.getfield 32, 3) := by decide +kernel
theorem dX2_copyWithOne_5 : decode cX2_copyWithOne 5 = .ok (.putfield 32, 3) := by decide +kernel
theorem dX2_copyWithOne_8 : decode cX2_copyWithOne 8 = .ok (.aload_n 0, 1) := by decide +kernel
theorem dX2_copyWithOne_9 : decode cX2_copyWithOne 9 = .ok (.iconst 1, 1) := by decide +kernel
theorem dX2_copyWithOne_10 : decode cX2_copyWithOne 10 = .ok (.putfield 35, 3) := by decide +kernel
theorem dX2_copyWithOne_13 : decode cX2_copyWithOne 13 = .ok (.aload_n 0, 1) := by decide +kernel
theorem dX2_copyWithOne_14 : decode cX2_copyWithOne 14 = .ok (.getfield 12, 3) := by decide +kernel
theorem dX2_copyWithOne_17 : decode cX2_copyWithOne 17 = .ok (.aload_n 1, 1) := by decide +kernel
theorem dX2_copyWithOne_18 : decode cX2_copyWithOne 18 = .ok (.getfield 12, 3) := by decide +kernel
theorem dX2_copyWithOne_21 : decode cX2_copyWithOne 21 = .ok (.invokevirtual 42, 3) := by decide +kernel
theorem dX2_copyWithOne_24 : decode cX2_copyWithOne 24 = .ok (.aload_n 0, 1) := by decide +kernel
theorem dX2_copyWithOne_25 : decode cX2_copyWithOne 25 = .ok (.getfield 20, 3) := by decide +kernel
theorem dX2_copyWithOne_28 : decode cX2_copyWithOne 28 = .ok (.iconst 0, 1) := by decide +kernel
theorem dX2_copyWithOne_29 : decode cX2_copyWithOne 29 = .ok (.aaload, 1) := by decide +kernel
theorem dX2_copyWithOne_30 : decode cX2_copyWithOne 30 = .ok (.aload_n 2, 1) := by decide +kernel
theorem dX2_copyWithOne_31 : decode cX2_copyWithOne 31 = .ok (.invokevirtual 46, 3) := by decide +kernel
theorem dX2_copyWithOne_34 : decode cX2_copyWithOne 34 = .ok (.aload_n 0, 1) := by decide +kernel
theorem dX2_copyWithOne_35 : decode cX2_copyWithOne 35 = .ok (.getfield 20, 3) := by decide +kernel
theorem dX2_copyWithOne_38 : decode cX2_copyWithOne 38 = .ok (.iconst 0, 1) := by decide +kernel
theorem dX2_copyWithOne_39 : decode cX2_copyWithOne 39 = .ok (.aaload, 1) := by decide +kernel
theorem dX2_copyWithOne_40 : decode cX2_copyWithOne 40 = .ok (.areturn, 1) := by decide +kernel
theorem dX2_append_0 : decode cX2_append 0 = .ok (.aload_n 0, 1) := by decide +kernel
theorem dX2_append_1 : decode cX2_append 1 = .ok (.getfield 35, 3) := by decide +kernel
theorem dX2_append_4 : decode cX2_append 4 = .ok (.bipush 10, 2) := by decide +kernel
theorem dX2_append_6 : decode cX2_append 6 = .ok (.if_icmp .ge 30, 3) := by decide +kernel
theorem dX2_append_9 : decode cX2_append 9 = .ok (.aload_n 0, 1) := by decide +kernel
theorem dX2_append_10 : decode cX2_append 10 = .ok (.getfield 20, 3) := by decide +kernel
theorem dX2_append_13 : decode cX2_append 13 = .ok (.aload_n 0, 1) := by decide +kernel
theorem dX2_append_14 : decode cX2_append 14 = .ok (.getfield 35, 3) := by decide +kernel
theorem dX2_append_17 : decode cX2_append 17 = .ok (.aaload, 1) := by decide +kernel
theorem dX2_append_18 : decode cX2_append 18 = .ok (.iload_n 1, 1) := by decide +kernel
theorem dX2_append_19 : decode cX2_append 19 = .ok (.iload_n 2, 1) := by decide +kernel
theorem dX2_append_20 : decode cX2_append 20 = .ok (.iload_n 3, 1) := by decide +kernel
theorem dX2_append_21 : decode cX2_append 21 = .ok (.iload 4, 2) := by decide +kernel
theorem dX2_append_23 : decode cX2_append 23 = .ok (.invokevirtual 49, 3) := by decide +kernel
theorem dX2_append_26 : decode cX2_append 26 = .ok (.aload_n 0, 1) := by decide +kernel
theorem dX2_append_27 : decode cX2_append 27 = .ok (.dup, 1) := by decide +kernel
theorem dX2_append_28 : decode cX2_append 28 = .ok (.getfield 35, 3) := by decide +kernel
theorem dX2_append_31 : decode cX2_append 31 = .ok (.iconst 1, 1) := by decide +kernel
theorem dX2_append_32 : decode cX2_append 32 = .ok (.iadd, 1) := by decide +kernel
theorem dX2_append_33 : decode cX2_append 33 = .ok (.putfield 35, 3) := by decide +kernel
theorem dX2_append_36 : decode cX2_append 36 = .ok (.return_, 1) := by decide +kernel
theorem dX2_woodenInBag_0 : decode cX2_woodenInBag 0 = .ok (.aload_n 0, 1) := by decide +kernel
theorem dX2_woodenInBag_1 : decode cX2_woodenInBag 1 = .ok (.getfield 25, 3) := by decide +kernel
theorem dX2_woodenInBag_4 : decode cX2_woodenInBag 4 = .ok (.istore_n 1, 1) := by decide +kernel
theorem dX2_woodenInBag_5 : decode cX2_woodenInBag 5 = .ok (.iconst 0, 1) := by decide +kernel
theorem dX2_woodenInBag_6 : decode cX2_woodenInBag 6 = .ok (.istore_n 2, 1) := by decide +kernel
theorem dX2_woodenInBag_7 : decode cX2_woodenInBag 7 = .ok (.iload_n 2, 1) := by decide +kernel
theorem dX2_woodenInBag_8 : decode cX2_woodenInBag 8 = .ok (.aload_n 0, 1) := by decide +kernel
theorem dX2_woodenInBag_9 : decode cX2_woodenInBag 9 = .ok (.getfield 35, 3) := by decide +kernel
theorem dX2_woodenInBag_12 : decode cX2_woodenInBag 12 = .ok (.if_icmp .ge 21, 3) := by decide +kernel
theorem dX2_woodenInBag_15 : decode cX2_woodenInBag 15 = .ok (.iload_n 1, 1) := by decide +kernel
theorem dX2_woodenInBag_16 : decode cX2_woodenInBag 16 = .ok (.aload_n 0, 1) := by decide +kernel
theorem dX2_woodenInBag_17 : decode cX2_woodenInBag 17 = .ok (.getfield 20, 3) := by decide +kernel
theorem dX2_woodenInBag_20 : decode cX2_woodenInBag 20 = .ok (.iload_n 2, 1) := by decide +kernel
theorem dX2_woodenInBag_21 : decode cX2_woodenInBag 21 = .ok (.aaload, 1) := by decide +kernel
theorem dX2_woodenInBag_22 : decode cX2_woodenInBag 22 = .ok (.getfield 53, 3) := by decide +kernel
theorem dX2_woodenInBag_25 : decode cX2_woodenInBag 25 = .ok (.isub, 1) := by decide +kernel
theorem dX2_woodenInBag_26 : decode cX2_woodenInBag 26 = .ok (.istore_n 1, 1) := by decide +kernel
theorem dX2_woodenInBag_27 : decode cX2_woodenInBag 27 = .ok (.iinc 2 1, 3) := by decide +kernel
theorem dX2_woodenInBag_30 : decode cX2_woodenInBag 30 = .ok (.goto (-23), 3) := by decide +kernel
theorem dX2_woodenInBag_33 : decode cX2_woodenInBag 33 = .ok (.iload_n 1, 1) := by decide +kernel
theorem dX2_woodenInBag_34 : decode cX2_woodenInBag 34 = .ok (.ireturn, 1) := by decide +kernel
theorem dX2_steelInBag_0 : decode cX2_steelInBag 0 = .ok (.aload_n 0, 1) := by decide +kernel
theorem dX2_steelInBag_1 : decode cX2_steelInBag 1 = .ok (.getfield 29, 3) := by decide +kernel
theorem dX2_steelInBag_4 : decode cX2_steelInBag 4 = .ok (.istore_n 1, 1) := by decide +kernel
theorem dX2_steelInBag_5 : decode cX2_steelInBag 5 = .ok (.iconst 0, 1) := by decide +kernel
theorem dX2_steelInBag_6 : decode cX2_steelInBag 6 = .ok (.istore_n 2, 1) := by decide +kernel
theorem dX2_steelInBag_7 : decode cX2_steelInBag 7 = .ok (.iload_n 2, 1) := by decide +kernel
theorem dX2_steelInBag_8 : decode cX2_steelInBag 8 = .ok (.aload_n 0, 1) := by decide +kernel
theorem dX2_steelInBag_9 : decode cX2_steelInBag 9 = .ok (.getfield 35, 3) := by decide +kernel
theorem dX2_steelInBag_12 : decode cX2_steelInBag 12 = .ok (.if_icmp .ge 21, 3) := by decide +kernel
theorem dX2_steelInBag_15 : decode cX2_steelInBag 15 = .ok (.iload_n 1, 1) := by decide +kernel
theorem dX2_steelInBag_16 : decode cX2_steelInBag 16 = .ok (.aload_n 0, 1) := by decide +kernel
theorem dX2_steelInBag_17 : decode cX2_steelInBag 17 = .ok (.getfield 20, 3) := by decide +kernel
theorem dX2_steelInBag_20 : decode cX2_steelInBag 20 = .ok (.iload_n 2, 1) := by decide +kernel
theorem dX2_steelInBag_21 : decode cX2_steelInBag 21 = .ok (.aaload, 1) := by decide +kernel
theorem dX2_steelInBag_22 : decode cX2_steelInBag 22 = .ok (.getfield 56, 3) := by decide +kernel
theorem dX2_steelInBag_25 : decode cX2_steelInBag 25 = .ok (.isub, 1) := by decide +kernel
theorem dX2_steelInBag_26 : decode cX2_steelInBag 26 = .ok (.istore_n 1, 1) := by decide +kernel
theorem dX2_steelInBag_27 : decode cX2_steelInBag 27 = .ok (.iinc 2 1, 3) := by decide +kernel
theorem dX2_steelInBag_30 : decode cX2_steelInBag 30 = .ok (.goto (-23), 3) := by decide +kernel
theorem dX2_steelInBag_33 : decode cX2_steelInBag 33 = .ok (.iload_n 1, 1) := by decide +kernel
theorem dX2_steelInBag_34 : decode cX2_steelInBag 34 = .ok (.ireturn, 1) := by decide +kernel
theorem dX2_occupied_0 : decode cX2_occupied 0 = .ok (.iconst 0, 1) := by decide +kernel
theorem dX2_occupied_1 : decode cX2_occupied 1 = .ok (.istore_n 1, 1) := by decide +kernel
theorem dX2_occupied_2 : decode cX2_occupied 2 = .ok (.iconst 0, 1) := by decide +kernel
theorem dX2_occupied_3 : decode cX2_occupied 3 = .ok (.istore_n 2, 1) := by decide +kernel
theorem dX2_occupied_4 : decode cX2_occupied 4 = .ok (.iload_n 2, 1) := by decide +kernel
theorem dX2_occupied_5 : decode cX2_occupied 5 = .ok (.aload_n 0, 1) := by decide +kernel
theorem dX2_occupied_6 : decode cX2_occupied 6 = .ok (.getfield 35, 3) := by decide +kernel
theorem dX2_occupied_9 : decode cX2_occupied 9 = .ok (.if_icmp .ge 21, 3) := by decide +kernel
theorem dX2_occupied_12 : decode cX2_occupied 12 = .ok (.iload_n 1, 1) := by decide +kernel
theorem dX2_occupied_13 : decode cX2_occupied 13 = .ok (.aload_n 0, 1) := by decide +kernel
theorem dX2_occupied_14 : decode cX2_occupied 14 = .ok (.getfield 20, 3) := by decide +kernel
theorem dX2_occupied_17 : decode cX2_occupied 17 = .ok (.iload_n 2, 1) := by decide +kernel
theorem dX2_occupied_18 : decode cX2_occupied 18 = .ok (.aaload, 1) := by decide +kernel
theorem dX2_occupied_19 : decode cX2_occupied 19 = .ok (.getfield 59, 3) := by decide +kernel
theorem dX2_occupied_22 : decode cX2_occupied 22 = .ok (.ior, 1) := by decide +kernel
theorem dX2_occupied_23 : decode cX2_occupied 23 = .ok (.istore_n 1, 1) := by decide +kernel
theorem dX2_occupied_24 : decode cX2_occupied 24 = .ok (.iinc 2 1, 3) := by decide +kernel
theorem dX2_occupied_27 : decode cX2_occupied 27 = .ok (.goto (-23), 3) := by decide +kernel
theorem dX2_occupied_30 : decode cX2_occupied 30 = .ok (.iload_n 1, 1) := by decide +kernel
theorem dX2_occupied_31 : decode cX2_occupied 31 = .ok (.ireturn, 1) := by decide +kernel
theorem dX2_spotsOccupiedTwice_0 : decode cX2_spotsOccupiedTwice 0 = .ok (.iconst 0, 1) := by decide +kernel
theorem dX2_spotsOccupiedTwice_1 : decode cX2_spotsOccupiedTwice 1 = .ok (.istore_n 1, 1) := by decide +kernel
theorem dX2_spotsOccupiedTwice_2 : decode cX2_spotsOccupiedTwice 2 = .ok (.iconst 0, 1) := by decide +kernel
theorem dX2_spotsOccupiedTwice_3 : decode cX2_spotsOccupiedTwice 3 = .ok (.istore_n 2, 1) := by decide +kernel
theorem dX2_spotsOccupiedTwice_4 : decode cX2_spotsOccupiedTwice 4 = .ok (.iconst 0, 1) := by decide +kernel
theorem dX2_spotsOccupiedTwice_5 : decode cX2_spotsOccupiedTwice 5 = .ok (.istore_n 3, 1) := by decide +kernel
theorem dX2_spotsOccupiedTwice_6 : decode cX2_spotsOccupiedTwice 6 = .ok (.iload_n 3, 1) := by decide +kernel
theorem dX2_spotsOccupiedTwice_7 : decode cX2_spotsOccupiedTwice 7 = .ok (.aload_n 0, 1) := by decide +kernel
theorem dX2_spotsOccupiedTwice_8 : decode cX2_spotsOccupiedTwice 8 = .ok (.getfield 35, 3) := by decide +kernel
theorem dX2_spotsOccupiedTwice_11 : decode cX2_spotsOccupiedTwice 11 = .ok (.if_icmp .ge 35, 3) := by decide +kernel
theorem dX2_spotsOccupiedTwice_14 : decode cX2_spotsOccupiedTwice 14 = .ok (.iload_n 2, 1) := by decide +kernel
theorem dX2_spotsOccupiedTwice_15 : decode cX2_spotsOccupiedTwice 15 = .ok (.iload_n 1, 1) := by decide +kernel
theorem dX2_spotsOccupiedTwice_16 : decode cX2_spotsOccupiedTwice 16 = .ok (.aload_n 0, 1) := by decide +kernel
theorem dX2_spotsOccupiedTwice_17 : decode cX2_spotsOccupiedTwice 17 = .ok (.getfield 20, 3) := by decide +kernel
theorem dX2_spotsOccupiedTwice_20 : decode cX2_spotsOccupiedTwice 20 = .ok (.iload_n 3, 1) := by decide +kernel
theorem dX2_spotsOccupiedTwice_21 : decode cX2_spotsOccupiedTwice 21 = .ok (.aaload, 1) := by decide +kernel
theorem dX2_spotsOccupiedTwice_22 : decode cX2_spotsOccupiedTwice 22 = .ok (.getfield 59, 3) := by decide +kernel
theorem dX2_spotsOccupiedTwice_25 : decode cX2_spotsOccupiedTwice 25 = .ok (.iand, 1) := by decide +kernel
theorem dX2_spotsOccupiedTwice_26 : decode cX2_spotsOccupiedTwice 26 = .ok (.ior, 1) := by decide +kernel
theorem dX2_spotsOccupiedTwice_27 : decode cX2_spotsOccupiedTwice 27 = .ok (.istore_n 2, 1) := by decide +kernel
theorem dX2_spotsOccupiedTwice_28 : decode cX2_spotsOccupiedTwice 28 = .ok (.iload_n 1, 1) := by decide +kernel
theorem dX2_spotsOccupiedTwice_29 : decode cX2_spotsOccupiedTwice 29 = .ok (.aload_n 0, 1) := by decide +kernel
theorem dX2_spotsOccupiedTwice_30 : decode cX2_spotsOccupiedTwice 30 = .ok (.getfield 20, 3) := by decide +kernel
theorem dX2_spotsOccupiedTwice_33 : decode cX2_spotsOccupiedTwice 33 = .ok (.iload_n 3, 1) := by decide +kernel
theorem dX2_spotsOccupiedTwice_34 : decode cX2_spotsOccupiedTwice 34 = .ok (.aaload, 1) := by decide +kernel
theorem dX2_spotsOccupiedTwice_35 : decode cX2_spotsOccupiedTwice 35 = .ok (.getfield 59, 3) := by decide +kernel
theorem dX2_spotsOccupiedTwice_38 : decode cX2_spotsOccupiedTwice 38 = .ok (.ior, 1) := by decide +kernel
theorem dX2_spotsOccupiedTwice_39 : decode cX2_spotsOccupiedTwice 39 = .ok (.istore_n 1, 1) := by decide +kernel
theorem dX2_spotsOccupiedTwice_40 : decode cX2_spotsOccupiedTwice 40 = .ok (.iinc 3 1, 3) := by decide +kernel
theorem dX2_spotsOccupiedTwice_43 : decode cX2_spotsOccupiedTwice 43 = .ok (.goto (-37), 3) := by decide +kernel
theorem dX2_spotsOccupiedTwice_46 : decode cX2_spotsOccupiedTwice 46 = .ok (.iload_n 2, 1) := by decide +kernel
theorem dX2_spotsOccupiedTwice_47 : decode cX2_spotsOccupiedTwice 47 = .ok (.invokestatic 62, 3) := by decide +kernel
theorem dX2_spotsOccupiedTwice_50 : decode cX2_spotsOccupiedTwice 50 = .ok (.ireturn, 1) := by decide +kernel
theorem dX2_occupant_0 : decode cX2_occupant 0 = .ok (.iconst 0, 1) := by decide +kernel
theorem dX2_occupant_1 : decode cX2_occupant 1 = .ok (.istore_n 2, 1) := by decide +kernel
theorem dX2_occupant_2 : decode cX2_occupant 2 = .ok (.iload_n 2, 1) := by decide +kernel
theorem dX2_occupant_3 : decode cX2_occupant 3 = .ok (.aload_n 0, 1) := by decide +kernel
theorem dX2_occupant_4 : decode cX2_occupant 4 = .ok (.getfield 35, 3) := by decide +kernel
theorem dX2_occupant_7 : decode cX2_occupant 7 = .ok (.if_icmp .ge 28, 3) := by decide +kernel
theorem dX2_occupant_10 : decode cX2_occupant 10 = .ok (.aload_n 0, 1) := by decide +kernel
theorem dX2_occupant_11 : decode cX2_occupant 11 = .ok (.getfield 20, 3) := by decide +kernel
theorem dX2_occupant_14 : decode cX2_occupant 14 = .ok (.iload_n 2, 1) := by decide +kernel
theorem dX2_occupant_15 : decode cX2_occupant 15 = .ok (.aaload, 1) := by decide +kernel
theorem dX2_occupant_16 : decode cX2_occupant 16 = .ok (.getfield 59, 3) := by decide +kernel
theorem dX2_occupant_19 : decode cX2_occupant 19 = .ok (.iload_n 1, 1) := by decide +kernel
theorem dX2_occupant_20 : decode cX2_occupant 20 = .ok (.ishr, 1) := by decide +kernel
theorem dX2_occupant_21 : decode cX2_occupant 21 = .ok (.iconst 1, 1) := by decide +kernel
theorem dX2_occupant_22 : decode cX2_occupant 22 = .ok (.iand, 1) := by decide +kernel
theorem dX2_occupant_23 : decode cX2_occupant 23 = .ok (.iconst 1, 1) := by decide +kernel
theorem dX2_occupant_24 : decode cX2_occupant 24 = .ok (.if_icmp .ne 5, 3) := by decide +kernel
theorem dX2_occupant_27 : decode cX2_occupant 27 = .ok (.iload_n 2, 1) := by decide +kernel
theorem dX2_occupant_28 : decode cX2_occupant 28 = .ok (.ireturn, 1) := by decide +kernel
theorem dX2_occupant_29 : decode cX2_occupant 29 = .ok (.iinc 2 1, 3) := by decide +kernel
theorem dX2_occupant_32 : decode cX2_occupant 32 = .ok (.goto (-30), 3) := by decide +kernel
theorem dX2_occupant_35 : decode cX2_occupant 35 = .ok (.iconst (-1), 1) := by decide +kernel
theorem dX2_occupant_36 : decode cX2_occupant 36 = .ok (.ireturn, 1) := by decide +kernel
theorem dX2_setInState_0 : decode cX2_setInState 0 = .ok (.iconst 0, 1) := by decide +kernel
theorem dX2_setInState_1 : decode cX2_setInState 1 = .ok (.istore_n 2, 1) := by decide +kernel
theorem dX2_setInState_2 : decode cX2_setInState 2 = .ok (.iconst 0, 1) := by decide +kernel
theorem dX2_setInState_3 : decode cX2_setInState 3 = .ok (.istore_n 3, 1) := by decide +kernel
theorem dX2_setInState_4 : decode cX2_setInState 4 = .ok (.iload_n 3, 1) := by decide +kernel
theorem dX2_setInState_5 : decode cX2_setInState 5 = .ok (.aload_n 0, 1) := by decide +kernel
theorem dX2_setInState_6 : decode cX2_setInState 6 = .ok (.getfield 35, 3) := by decide +kernel
theorem dX2_setInState_9 : decode cX2_setInState 9 = .ok (.if_icmp .ge 28, 3) := by decide +kernel
theorem dX2_setInState_12 : decode cX2_setInState 12 = .ok (.aload_n 0, 1) := by decide +kernel
theorem dX2_setInState_13 : decode cX2_setInState 13 = .ok (.getfield 20, 3) := by decide +kernel
theorem dX2_setInState_16 : decode cX2_setInState 16 = .ok (.iload_n 3, 1) := by decide +kernel
theorem dX2_setInState_17 : decode cX2_setInState 17 = .ok (.aaload, 1) := by decide +kernel
theorem dX2_setInState_18 : decode cX2_setInState 18 = .ok (.getfield 68, 3) := by decide +kernel
theorem dX2_setInState_21 : decode cX2_setInState 21 = .ok (.iload_n 1, 1) := by decide +kernel
theorem dX2_setInState_22 : decode cX2_setInState 22 = .ok (.if_icmp .ne 9, 3) := by decide +kernel
theorem dX2_setInState_25 : decode cX2_setInState 25 = .ok (.iload_n 2, 1) := by decide +kernel
theorem dX2_setInState_26 : decode cX2_setInState 26 = .ok (.iconst 1, 1) := by decide +kernel
theorem dX2_setInState_27 : decode cX2_setInState 27 = .ok (.iload_n 3, 1) := by decide +kernel
theorem dX2_setInState_28 : decode cX2_setInState 28 = .ok (.ishl, 1) := by decide +kernel
theorem dX2_setInState_29 : decode cX2_setInState 29 = .ok (.ior, 1) := by decide +kernel
theorem dX2_setInState_30 : decode cX2_setInState 30 = .ok (.istore_n 2, 1) := by decide +kernel
theorem dX2_setInState_31 : decode cX2_setInState 31 = .ok (.iinc 3 1, 3) := by decide +kernel
theorem dX2_setInState_34 : decode cX2_setInState 34 = .ok (.goto (-30), 3) := by decide +kernel
theorem dX2_setInState_37 : decode cX2_setInState 37 = .ok (.iload_n 2, 1) := by decide +kernel
theorem dX2_setInState_38 : decode cX2_setInState 38 = .ok (.ireturn, 1) := by decide +kernel
theorem dX2_obstacle_0 : decode cX2_obstacle 0 = .ok (.aload_n 1, 1) := by decide +kernel
theorem dX2_obstacle_1 : decode cX2_obstacle 1 = .ok (.getfield 68, 3) := by decide +kernel
theorem dX2_obstacle_4 : decode cX2_obstacle 4 = .ok (.ifCond .eq 5, 3) := by decide +kernel
theorem dX2_obstacle_7 : decode cX2_obstacle 7 = .ok (.iconst 1, 1) := by decide +kernel
theorem dX2_obstacle_8 : decode cX2_obstacle 8 = .ok (.ireturn, 1) := by decide +kernel
theorem dX2_obstacle_9 : decode cX2_obstacle 9 = .ok (.iload_n 2, 1) := by decide +kernel
theorem dX2_obstacle_10 : decode cX2_obstacle 10 = .ok (.aload_n 1, 1) := by decide +kernel
theorem dX2_obstacle_11 : decode cX2_obstacle 11 = .ok (.getfield 71, 3) := by decide +kernel
theorem dX2_obstacle_14 : decode cX2_obstacle 14 = .ok (.iadd, 1) := by decide +kernel
theorem dX2_obstacle_15 : decode cX2_obstacle 15 = .ok (.bipush 24, 2) := by decide +kernel
theorem dX2_obstacle_17 : decode cX2_obstacle 17 = .ok (.if_icmp .le 5, 3) := by decide +kernel
theorem dX2_obstacle_20 : decode cX2_obstacle 20 = .ok (.iconst 2, 1) := by decide +kernel
theorem dX2_obstacle_21 : decode cX2_obstacle 21 = .ok (.ireturn, 1) := by decide +kernel
theorem dX2_obstacle_22 : decode cX2_obstacle 22 = .ok (.iload_n 2, 1) := by decide +kernel
theorem dX2_obstacle_23 : decode cX2_obstacle 23 = .ok (.aload_n 1, 1) := by decide +kernel
theorem dX2_obstacle_24 : decode cX2_obstacle 24 = .ok (.getfield 71, 3) := by decide +kernel
theorem dX2_obstacle_27 : decode cX2_obstacle 27 = .ok (.invokestatic 74, 3) := by decide +kernel
theorem dX2_obstacle_30 : decode cX2_obstacle 30 = .ok (.aload_n 0, 1) := by decide +kernel
theorem dX2_obstacle_31 : decode cX2_obstacle 31 = .ok (.invokevirtual 78, 3) := by decide +kernel
theorem dX2_obstacle_34 : decode cX2_obstacle 34 = .ok (.iand, 1) := by decide +kernel
theorem dX2_obstacle_35 : decode cX2_obstacle 35 = .ok (.ifCond .eq 5, 3) := by decide +kernel
theorem dX2_obstacle_38 : decode cX2_obstacle 38 = .ok (.iconst 3, 1) := by decide +kernel
theorem dX2_obstacle_39 : decode cX2_obstacle 39 = .ok (.ireturn, 1) := by decide +kernel
theorem dX2_obstacle_40 : decode cX2_obstacle 40 = .ok (.iload_n 3, 1) := by decide +kernel
theorem dX2_obstacle_41 : decode cX2_obstacle 41 = .ok (.iload 4, 2) := by decide +kernel
theorem dX2_obstacle_43 : decode cX2_obstacle 43 = .ok (.iadd, 1) := by decide +kernel
theorem dX2_obstacle_44 : decode cX2_obstacle 44 = .ok (.ifCond .eq 11, 3) := by decide +kernel
theorem dX2_obstacle_47 : decode cX2_obstacle 47 = .ok (.iload_n 3, 1) := by decide +kernel
theorem dX2_obstacle_48 : decode cX2_obstacle 48 = .ok (.iload 4, 2) := by decide +kernel
theorem dX2_obstacle_50 : decode cX2_obstacle 50 = .ok (.iadd, 1) := by decide +kernel
theorem dX2_obstacle_51 : decode cX2_obstacle 51 = .ok (.iconst 4, 1) := by decide +kernel
theorem dX2_obstacle_52 : decode cX2_obstacle 52 = .ok (.if_icmp .le 5, 3) := by decide +kernel
theorem dX2_obstacle_55 : decode cX2_obstacle 55 = .ok (.iconst 4, 1) := by decide +kernel
theorem dX2_obstacle_56 : decode cX2_obstacle 56 = .ok (.ireturn, 1) := by decide +kernel
theorem dX2_obstacle_57 : decode cX2_obstacle 57 = .ok (.iload_n 3, 1) := by decide +kernel
theorem dX2_obstacle_58 : decode cX2_obstacle 58 = .ok (.aload_n 0, 1) := by decide +kernel
theorem dX2_obstacle_59 : decode cX2_obstacle 59 = .ok (.invokevirtual 82, 3) := by decide +kernel
theorem dX2_obstacle_62 : decode cX2_obstacle 62 = .ok (.if_icmp .gt 12, 3) := by decide +kernel
theorem dX2_obstacle_65 : decode cX2_obstacle 65 = .ok (.iload 4, 2) := by decide +kernel
theorem dX2_obstacle_67 : decode cX2_obstacle 67 = .ok (.aload_n 0, 1) := by decide +kernel
theorem dX2_obstacle_68 : decode cX2_obstacle 68 = .ok (.invokevirtual 85, 3) := by decide +kernel
theorem dX2_obstacle_71 : decode cX2_obstacle 71 = .ok (.if_icmp .le 5, 3) := by decide +kernel
theorem dX2_obstacle_74 : decode cX2_obstacle 74 = .ok (.iconst 5, 1) := by decide +kernel
theorem dX2_obstacle_75 : decode cX2_obstacle 75 = .ok (.ireturn, 1) := by decide +kernel
theorem dX2_obstacle_76 : decode cX2_obstacle 76 = .ok (.aload_n 1, 1) := by decide +kernel
theorem dX2_obstacle_77 : decode cX2_obstacle 77 = .ok (.invokevirtual 88, 3) := by decide +kernel
theorem dX2_obstacle_80 : decode cX2_obstacle 80 = .ok (.iload_n 3, 1) := by decide +kernel
theorem dX2_obstacle_81 : decode cX2_obstacle 81 = .ok (.iload 4, 2) := by decide +kernel
theorem dX2_obstacle_83 : decode cX2_obstacle 83 = .ok (.invokestatic 91, 3) := by decide +kernel
theorem dX2_obstacle_86 : decode cX2_obstacle 86 = .ok (.if_icmp .le 8, 3) := by decide +kernel
theorem dX2_obstacle_89 : decode cX2_obstacle 89 = .ok (.bipush 6, 2) := by decide +kernel
theorem dX2_obstacle_91 : decode cX2_obstacle 91 = .ok (.goto 4, 3) := by decide +kernel
theorem dX2_obstacle_94 : decode cX2_obstacle 94 = .ok (.iconst 0, 1) := by decide +kernel
theorem dX2_obstacle_95 : decode cX2_obstacle 95 = .ok (.ireturn, 1) := by decide +kernel
theorem dX2_canShift_0 : decode cX2_canShift 0 = .ok (.aload_n 1, 1) := by decide +kernel
theorem dX2_canShift_1 : decode cX2_canShift 1 = .ok (.getfield 68, 3) := by decide +kernel
theorem dX2_canShift_4 : decode cX2_canShift 4 = .ok (.iconst 1, 1) := by decide +kernel
theorem dX2_canShift_5 : decode cX2_canShift 5 = .ok (.if_icmp .ne 14, 3) := by decide +kernel
theorem dX2_canShift_8 : decode cX2_canShift 8 = .ok (.iload_n 2, 1) := by decide +kernel
theorem dX2_canShift_9 : decode cX2_canShift 9 = .ok (.aload_n 1, 1) := by decide +kernel
theorem dX2_canShift_10 : decode cX2_canShift 10 = .ok (.getfield 71, 3) := by decide +kernel
theorem dX2_canShift_13 : decode cX2_canShift 13 = .ok (.iadd, 1) := by decide +kernel
theorem dX2_canShift_14 : decode cX2_canShift 14 = .ok (.bipush 24, 2) := by decide +kernel
theorem dX2_canShift_16 : decode cX2_canShift 16 = .ok (.if_icmp .le 5, 3) := by decide +kernel
theorem dX2_canShift_19 : decode cX2_canShift 19 = .ok (.iconst 0, 1) := by decide +kernel
theorem dX2_canShift_20 : decode cX2_canShift 20 = .ok (.ireturn, 1) := by decide +kernel
theorem dX2_canShift_21 : decode cX2_canShift 21 = .ok (.aload_n 0, 1) := by decide +kernel
theorem dX2_canShift_22 : decode cX2_canShift 22 = .ok (.invokevirtual 78, 3) := by decide +kernel
theorem dX2_canShift_25 : decode cX2_canShift 25 = .ok (.aload_n 1, 1) := by decide +kernel
theorem dX2_canShift_26 : decode cX2_canShift 26 = .ok (.getfield 59, 3) := by decide +kernel
theorem dX2_canShift_29 : decode cX2_canShift 29 = .ok (.iconst (-1), 1) := by decide +kernel
theorem dX2_canShift_30 : decode cX2_canShift 30 = .ok (.ixor, 1) := by decide +kernel
theorem dX2_canShift_31 : decode cX2_canShift 31 = .ok (.iand, 1) := by decide +kernel
theorem dX2_canShift_32 : decode cX2_canShift 32 = .ok (.istore_n 3, 1) := by decide +kernel
theorem dX2_canShift_33 : decode cX2_canShift 33 = .ok (.iload_n 2, 1) := by decide +kernel
theorem dX2_canShift_34 : decode cX2_canShift 34 = .ok (.aload_n 1, 1) := by decide +kernel
theorem dX2_canShift_35 : decode cX2_canShift 35 = .ok (.getfield 71, 3) := by decide +kernel
theorem dX2_canShift_38 : decode cX2_canShift 38 = .ok (.invokestatic 74, 3) := by decide +kernel
theorem dX2_canShift_41 : decode cX2_canShift 41 = .ok (.iload_n 3, 1) := by decide +kernel
theorem dX2_canShift_42 : decode cX2_canShift 42 = .ok (.iand, 1) := by decide +kernel
theorem dX2_canShift_43 : decode cX2_canShift 43 = .ok (.ifCond .ne 7, 3) := by decide +kernel
theorem dX2_canShift_46 : decode cX2_canShift 46 = .ok (.iconst 1, 1) := by decide +kernel
theorem dX2_canShift_47 : decode cX2_canShift 47 = .ok (.goto 4, 3) := by decide +kernel
theorem dX2_canShift_50 : decode cX2_canShift 50 = .ok (.iconst 0, 1) := by decide +kernel
theorem dX2_canShift_51 : decode cX2_canShift 51 = .ok (.ireturn, 1) := by decide +kernel
theorem dX2_letPass_0 : decode cX2_letPass 0 = .ok (.iconst 0, 1) := by decide +kernel
theorem dX2_letPass_1 : decode cX2_letPass 1 = .ok (.istore_n 2, 1) := by decide +kernel
theorem dX2_letPass_2 : decode cX2_letPass 2 = .ok (.iconst 0, 1) := by decide +kernel
theorem dX2_letPass_3 : decode cX2_letPass 3 = .ok (.istore_n 3, 1) := by decide +kernel
theorem dX2_letPass_4 : decode cX2_letPass 4 = .ok (.iload_n 3, 1) := by decide +kernel
theorem dX2_letPass_5 : decode cX2_letPass 5 = .ok (.iload_n 1, 1) := by decide +kernel
theorem dX2_letPass_6 : decode cX2_letPass 6 = .ok (.if_icmp .ge 16, 3) := by decide +kernel
theorem dX2_letPass_9 : decode cX2_letPass 9 = .ok (.iload_n 2, 1) := by decide +kernel
theorem dX2_letPass_10 : decode cX2_letPass 10 = .ok (.aload_n 0, 1) := by decide +kernel
theorem dX2_letPass_11 : decode cX2_letPass 11 = .ok (.invokevirtual 94, 3) := by decide +kernel
theorem dX2_letPass_14 : decode cX2_letPass 14 = .ok (.iadd, 1) := by decide +kernel
theorem dX2_letPass_15 : decode cX2_letPass 15 = .ok (.istore_n 2, 1) := by decide +kernel
theorem dX2_letPass_16 : decode cX2_letPass 16 = .ok (.iinc 3 1, 3) := by decide +kernel
theorem dX2_letPass_19 : decode cX2_letPass 19 = .ok (.goto (-15), 3) := by decide +kernel
theorem dX2_letPass_22 : decode cX2_letPass 22 = .ok (.iload_n 2, 1) := by decide +kernel
theorem dX2_letPass_23 : decode cX2_letPass 23 = .ok (.ireturn, 1) := by decide +kernel
theorem dX2_passOne_0 : decode cX2_passOne 0 = .ok (.aload_n 0, 1) := by decide +kernel
theorem dX2_passOne_1 : decode cX2_passOne 1 = .ok (.getfield 12, 3) := by decide +kernel
theorem dX2_passOne_4 : decode cX2_passOne 4 = .ok (.aload_n 0, 1) := by decide +kernel
theorem dX2_passOne_5 : decode cX2_passOne 5 = .ok (.getfield 32, 3) := by decide +kernel
theorem dX2_passOne_8 : decode cX2_passOne 8 = .ok (.invokevirtual 97, 3) := by decide +kernel
theorem dX2_passOne_11 : decode cX2_passOne 11 = .ok (.istore_n 1, 1) := by decide +kernel
theorem dX2_passOne_12 : decode cX2_passOne 12 = .ok (.aload_n 0, 1) := by decide +kernel
theorem dX2_passOne_13 : decode cX2_passOne 13 = .ok (.getfield 12, 3) := by decide +kernel
theorem dX2_passOne_16 : decode cX2_passOne 16 = .ok (.aload_n 0, 1) := by decide +kernel
theorem dX2_passOne_17 : decode cX2_passOne 17 = .ok (.getfield 32, 3) := by decide +kernel
theorem dX2_passOne_20 : decode cX2_passOne 20 = .ok (.invokevirtual 100, 3) := by decide +kernel
theorem dX2_passOne_23 : decode cX2_passOne 23 = .ok (.istore_n 2, 1) := by decide +kernel
theorem dX2_passOne_24 : decode cX2_passOne 24 = .ok (.aload_n 0, 1) := by decide +kernel
theorem dX2_passOne_25 : decode cX2_passOne 25 = .ok (.getfield 12, 3) := by decide +kernel
theorem dX2_passOne_28 : decode cX2_passOne 28 = .ok (.aload_n 0, 1) := by decide +kernel
theorem dX2_passOne_29 : decode cX2_passOne 29 = .ok (.getfield 32, 3) := by decide +kernel
theorem dX2_passOne_32 : decode cX2_passOne 32 = .ok (.invokevirtual 103, 3) := by decide +kernel
theorem dX2_passOne_35 : decode cX2_passOne 35 = .ok (.istore_n 3, 1) := by decide +kernel
theorem dX2_passOne_36 : decode cX2_passOne 36 = .ok (.aload_n 0, 1) := by decide +kernel
theorem dX2_passOne_37 : decode cX2_passOne 37 = .ok (.getfield 12, 3) := by decide +kernel
theorem dX2_passOne_40 : decode cX2_passOne 40 = .ok (.aload_n 0, 1) := by decide +kernel
theorem dX2_passOne_41 : decode cX2_passOne 41 = .ok (.getfield 32, 3) := by decide +kernel
theorem dX2_passOne_44 : decode cX2_passOne 44 = .ok (.invokevirtual 106, 3) := by decide +kernel
theorem dX2_passOne_47 : decode cX2_passOne 47 = .ok (.istore 4, 2) := by decide +kernel
theorem dX2_passOne_49 : decode cX2_passOne 49 = .ok (.iconst 0, 1) := by decide +kernel
theorem dX2_passOne_50 : decode cX2_passOne 50 = .ok (.istore 5, 2) := by decide +kernel
theorem dX2_passOne_52 : decode cX2_passOne 52 = .ok (.iconst 0, 1) := by decide +kernel
theorem dX2_passOne_53 : decode cX2_passOne 53 = .ok (.istore 6, 2) := by decide +kernel
theorem dX2_passOne_55 : decode cX2_passOne 55 = .ok (.iload 6, 2) := by decide +kernel
theorem dX2_passOne_57 : decode cX2_passOne 57 = .ok (.aload_n 0, 1) := by decide +kernel
theorem dX2_passOne_58 : decode cX2_passOne 58 = .ok (.getfield 35, 3) := by decide +kernel
theorem dX2_passOne_61 : decode cX2_passOne 61 = .ok (.if_icmp .ge 76, 3) := by decide +kernel
theorem dX2_passOne_64 : decode cX2_passOne 64 = .ok (.aload_n 0, 1) := by decide +kernel
theorem dX2_passOne_65 : decode cX2_passOne 65 = .ok (.getfield 20, 3) := by decide +kernel
theorem dX2_passOne_68 : decode cX2_passOne 68 = .ok (.iload 6, 2) := by decide +kernel
theorem dX2_passOne_70 : decode cX2_passOne 70 = .ok (.aaload, 1) := by decide +kernel
theorem dX2_passOne_71 : decode cX2_passOne 71 = .ok (.astore 7, 2) := by decide +kernel
theorem dX2_passOne_73 : decode cX2_passOne 73 = .ok (.aload 7, 2) := by decide +kernel
theorem dX2_passOne_75 : decode cX2_passOne 75 = .ok (.getfield 68, 3) := by decide +kernel
theorem dX2_passOne_78 : decode cX2_passOne 78 = .ok (.iconst 1, 1) := by decide +kernel
theorem dX2_passOne_79 : decode cX2_passOne 79 = .ok (.if_icmp .ne 52, 3) := by decide +kernel
theorem dX2_passOne_82 : decode cX2_passOne 82 = .ok (.iload_n 1, 1) := by decide +kernel
theorem dX2_passOne_83 : decode cX2_passOne 83 = .ok (.ifCond .le 12, 3) := by decide +kernel
theorem dX2_passOne_86 : decode cX2_passOne 86 = .ok (.aload 7, 2) := by decide +kernel
theorem dX2_passOne_88 : decode cX2_passOne 88 = .ok (.iload_n 1, 1) := by decide +kernel
theorem dX2_passOne_89 : decode cX2_passOne 89 = .ok (.invokevirtual 109, 3) := by decide +kernel
theorem dX2_passOne_92 : decode cX2_passOne 92 = .ok (.goto 10, 3) := by decide +kernel
theorem dX2_passOne_95 : decode cX2_passOne 95 = .ok (.aload 7, 2) := by decide +kernel
theorem dX2_passOne_97 : decode cX2_passOne 97 = .ok (.iload_n 3, 1) := by decide +kernel
theorem dX2_passOne_98 : decode cX2_passOne 98 = .ok (.iload_n 2, 1) := by decide +kernel
theorem dX2_passOne_99 : decode cX2_passOne 99 = .ok (.invokevirtual 112, 3) := by decide +kernel
theorem dX2_passOne_102 : decode cX2_passOne 102 = .ok (.aload 7, 2) := by decide +kernel
theorem dX2_passOne_104 : decode cX2_passOne 104 = .ok (.iload 4, 2) := by decide +kernel
theorem dX2_passOne_106 : decode cX2_passOne 106 = .ok (.iload_n 2, 1) := by decide +kernel
theorem dX2_passOne_107 : decode cX2_passOne 107 = .ok (.invokevirtual 116, 3) := by decide +kernel
theorem dX2_passOne_110 : decode cX2_passOne 110 = .ok (.aload 7, 2) := by decide +kernel
theorem dX2_passOne_112 : decode cX2_passOne 112 = .ok (.invokevirtual 88, 3) := by decide +kernel
theorem dX2_passOne_115 : decode cX2_passOne 115 = .ok (.aload 7, 2) := by decide +kernel
theorem dX2_passOne_117 : decode cX2_passOne 117 = .ok (.invokevirtual 119, 3) := by decide +kernel
theorem dX2_passOne_120 : decode cX2_passOne 120 = .ok (.if_icmp .le 11, 3) := by decide +kernel
theorem dX2_passOne_123 : decode cX2_passOne 123 = .ok (.aload 7, 2) := by decide +kernel
theorem dX2_passOne_125 : decode cX2_passOne 125 = .ok (.invokevirtual 122, 3) := by decide +kernel
theorem dX2_passOne_128 : decode cX2_passOne 128 = .ok (.iinc 5 1, 3) := by decide +kernel
theorem dX2_passOne_131 : decode cX2_passOne 131 = .ok (.iinc 6 1, 3) := by decide +kernel
theorem dX2_passOne_134 : decode cX2_passOne 134 = .ok (.goto (-79), 3) := by decide +kernel
theorem dX2_passOne_137 : decode cX2_passOne 137 = .ok (.aload_n 0, 1) := by decide +kernel
theorem dX2_passOne_138 : decode cX2_passOne 138 = .ok (.dup, 1) := by decide +kernel
theorem dX2_passOne_139 : decode cX2_passOne 139 = .ok (.getfield 32, 3) := by decide +kernel
theorem dX2_passOne_142 : decode cX2_passOne 142 = .ok (.iconst 1, 1) := by decide +kernel
theorem dX2_passOne_143 : decode cX2_passOne 143 = .ok (.iadd, 1) := by decide +kernel
theorem dX2_passOne_144 : decode cX2_passOne 144 = .ok (.putfield 32, 3) := by decide +kernel
theorem dX2_passOne_147 : decode cX2_passOne 147 = .ok (.iload 5, 2) := by decide +kernel
theorem dX2_passOne_149 : decode cX2_passOne 149 = .ok (.ireturn, 1) := by decide +kernel
theorem dX3_init_0 : decode cX3_init 0 = .ok (.aload_n 0, 1) := by decide +kernel
theorem dX3_init_1 : decode cX3_init 1 = .ok (.invokespecial 3, 3) := by decide +kernel
theorem dX3_init_4 : decode cX3_init 4 = .ok (.aload_n 0, 1) := by decide +kernel
theorem dX3_init_5 : decode cX3_init 5 = .ok (.sipush 700, 3) := by decide +kernel
theorem dX3_init_8 : decode cX3_init 8 = .ok (.newarray .int, 2) := by decide +kernel
theorem dX3_init_10 : decode cX3_init 10 = .ok (.putfield 9, 3) := by decide +kernel
theorem dX3_init_13 : decode cX3_init 13 = .ok (.aload_n 0, 1) := by decide +kernel
theorem dX3_init_14 : decode cX3_init 14 = .ok (.iconst 4, 1) := by decide +kernel
theorem dX3_init_15 : decode cX3_init 15 = .ok (.newarray .int, 2) := by decide +kernel
theorem dX3_init_17 : decode cX3_init 17 = .ok (.putfield 15, 3) := by decide +kernel
theorem dX3_init_20 : decode cX3_init 20 = .ok (.aload_n 0, 1) := by decide +kernel
theorem dX3_init_21 : decode cX3_init 21 = .ok (.iconst (-1), 1) := by decide +kernel
theorem dX3_init_22 : decode cX3_init 22 = .ok (.putfield 18, 3) := by decide +kernel
theorem dX3_init_25 : decode cX3_init 25 = .ok (.return_, 1) := by decide +kernel
theorem dX3_append_0 : decode cX3_append 0 = .ok (.iload_n 1, 1) := by decide +kernel
theorem dX3_append_1 : decode cX3_append 1 = .ok (.invokestatic 22, 3) := by decide +kernel
theorem dX3_append_4 : decode cX3_append 4 = .ok (.iload_n 2, 1) := by decide +kernel
theorem dX3_append_5 : decode cX3_append 5 = .ok (.invokestatic 22, 3) := by decide +kernel
theorem dX3_append_8 : decode cX3_append 8 = .ok (.iadd, 1) := by decide +kernel
theorem dX3_append_9 : decode cX3_append 9 = .ok (.iload_n 3, 1) := by decide +kernel
theorem dX3_append_10 : decode cX3_append 10 = .ok (.invokestatic 22, 3) := by decide +kernel
theorem dX3_append_13 : decode cX3_append 13 = .ok (.iadd, 1) := by decide +kernel
theorem dX3_append_14 : decode cX3_append 14 = .ok (.iload 4, 2) := by decide +kernel
theorem dX3_append_16 : decode cX3_append 16 = .ok (.invokestatic 22, 3) := by decide +kernel
theorem dX3_append_19 : decode cX3_append 19 = .ok (.iadd, 1) := by decide +kernel
theorem dX3_append_20 : decode cX3_append 20 = .ok (.iload 5, 2) := by decide +kernel
theorem dX3_append_22 : decode cX3_append 22 = .ok (.invokestatic 22, 3) := by decide +kernel
theorem dX3_append_25 : decode cX3_append 25 = .ok (.iadd, 1) := by decide +kernel
theorem dX3_append_26 : decode cX3_append 26 = .ok (.istore 6, 2) := by decide +kernel
theorem dX3_append_28 : decode cX3_append 28 = .ok (.aload_n 0, 1) := by decide +kernel
theorem dX3_append_29 : decode cX3_append 29 = .ok (.getfield 26, 3) := by decide +kernel
theorem dX3_append_32 : decode cX3_append 32 = .ok (.iload 6, 2) := by decide +kernel
theorem dX3_append_34 : decode cX3_append 34 = .ok (.iadd, 1) := by decide +kernel
theorem dX3_append_35 : decode cX3_append 35 = .ok (.sipush 700, 3) := by decide +kernel
theorem dX3_append_38 : decode cX3_append 38 = .ok (.if_icmp .le 5, 3) := by decide +kernel
theorem dX3_append_41 : decode cX3_append 41 = .ok (.iconst (-1), 1) := by decide +kernel
theorem dX3_append_42 : decode cX3_append 42 = .ok (.ireturn, 1) := by decide +kernel
theorem dX3_append_43 : decode cX3_append 43 = .ok (.aload_n 0, 1) := by decide +kernel
theorem dX3_append_44 : decode cX3_append 44 = .ok (.iload_n 1, 1) := by decide +kernel
theorem dX3_append_45 : decode cX3_append 45 = .ok (.invokevirtual 29, 3) := by decide +kernel
theorem dX3_append_48 : decode cX3_append 48 = .ok (.aload_n 0, 1) := by decide +kernel
theorem dX3_append_49 : decode cX3_append 49 = .ok (.iload_n 2, 1) := by decide +kernel
theorem dX3_append_50 : decode cX3_append 50 = .ok (.invokevirtual 29, 3) := by decide +kernel
theorem dX3_append_53 : decode cX3_append 53 = .ok (.aload_n 0, 1) := by decide +kernel
theorem dX3_append_54 : decode cX3_append 54 = .ok (.iload_n 3, 1) := by decide +kernel
theorem dX3_append_55 : decode cX3_append 55 = .ok (.invokevirtual 29, 3) := by decide +kernel
theorem dX3_append_58 : decode cX3_append 58 = .ok (.aload_n 0, 1) := by decide +kernel
theorem dX3_append_59 : decode cX3_append 59 = .ok (.iload 4, 2) := by decide +kernel
theorem dX3_append_61 : decode cX3_append 61 = .ok (.invokevirtual 29, 3) := by decide +kernel
theorem dX3_append_64 : decode cX3_append 64 = .ok (.aload_n 0, 1) := by decide +kernel
theorem dX3_append_65 : decode cX3_append 65 = .ok (.iload 5, 2) := by decide +kernel
theorem dX3_append_67 : decode cX3_append 67 = .ok (.invokevirtual 29, 3) := by decide +kernel
theorem dX3_append_70 : decode cX3_append 70 = .ok (.aload_n 0, 1) := by decide +kernel
theorem dX3_append_71 : decode cX3_append 71 = .ok (.getfield 26, 3) := by decide +kernel
theorem dX3_append_74 : decode cX3_append 74 = .ok (.ireturn, 1) := by decide +kernel
theorem dX3_appendText_0 : decode cX3_appendText 0 = .ok (.iconst 0, 1) := by decide +kernel
theorem dX3_appendText_1 : decode cX3_appendText 1 = .ok (.istore_n 2, 1) := by decide +kernel
theorem dX3_appendText_2 : decode cX3_appendText 2 = .ok (.iload_n 2, 1) := by decide +kernel
theorem dX3_appendText_3 : decode cX3_appendText 3 = .ok (.aload_n 1, 1) := by decide +kernel
theorem dX3_appendText_4 : decode cX3_appendText 4 = .ok (.invokevirtual 33, 3) := by decide +kernel
theorem dX3_appendText_7 : decode cX3_appendText 7 = .ok (.if_icmp .ge 18, 3) := by decide +kernel
theorem dX3_appendText_10 : decode cX3_appendText 10 = .ok (.aload_n 0, 1) := by decide +kernel
theorem dX3_appendText_11 : decode cX3_appendText 11 = .ok (.aload_n 1, 1) := by decide +kernel
theorem dX3_appendText_12 : decode cX3_appendText 12 = .ok (.iload_n 2, 1) := by decide +kernel
theorem dX3_appendText_13 : decode cX3_appendText 13 = .ok (.invokevirtual 38, 3) := by decide +kernel
theorem dX3_appendText_16 : decode cX3_appendText 16 = .ok (.invokevirtual 42, 3) := by decide +kernel
theorem dX3_appendText_19 : decode cX3_appendText 19 = .ok (.iinc 2 1, 3) := by decide +kernel
theorem dX3_appendText_22 : decode cX3_appendText 22 = .ok (.goto (-20), 3) := by decide +kernel
theorem dX3_appendText_25 : decode cX3_appendText 25 = .ok (.return_, 1) := by decide +kernel
theorem dX3_clear_0 : decode cX3_clear 0 = .ok (.aload_n 0, 1) := by decide +kernel
theorem dX3_clear_1 : decode cX3_clear 1 = .ok (.iconst 0, 1) := by decide +kernel
theorem dX3_clear_2 : decode cX3_clear 2 = .ok (.putfield 26, 3) := by decide +kernel
theorem dX3_clear_5 : decode cX3_clear 5 = .ok (.return_, 1) := by decide +kernel
theorem dX3_begin_0 : decode cX3_begin 0 = .ok (.aload_n 0, 1) := by decide +kernel
theorem dX3_begin_1 : decode cX3_begin 1 = .ok (.iconst 0, 1) := by decide +kernel
theorem dX3_begin_2 : decode cX3_begin 2 = .ok (.putfield 45, 3) := by decide +kernel
theorem dX3_begin_5 : decode cX3_begin 5 = .ok (.aload_n 0, 1) := by decide +kernel
theorem dX3_begin_6 : decode cX3_begin 6 = .ok (.iconst 0, 1) := by decide +kernel
theorem dX3_begin_7 : decode cX3_begin 7 = .ok (.putfield 48, 3) := by decide +kernel
theorem dX3_begin_10 : decode cX3_begin 10 = .ok (.aload_n 0, 1) := by decide +kernel
theorem dX3_begin_11 : decode cX3_begin 11 = .ok (.iconst (-1), 1) := by decide +kernel
theorem dX3_begin_12 : decode cX3_begin 12 = .ok (.putfield 18, 3) := by decide +kernel
theorem dX3_begin_15 : decode cX3_begin 15 = .ok (.return_, 1) := by decide +kernel
theorem dX3_readHead_0 : decode cX3_readHead 0 = .ok (.aload_n 0, 1) := by decide +kernel
theorem dX3_readHead_1 : decode cX3_readHead 1 = .ok (.invokevirtual 51, 3) := by decide +kernel
theorem dX3_readHead_4 : decode cX3_readHead 4 = .ok (.aload_n 0, 1) := by decide +kernel
theorem dX3_readHead_5 : decode cX3_readHead 5 = .ok (.ldc 54, 2) := by decide +kernel
theorem dX3_readHead_7 : decode cX3_readHead 7 = .ok (.invokevirtual 56, 3) := by decide +kernel
theorem dX3_readHead_10 : decode cX3_readHead 10 = .ok (.ifCond .eq 43, 3) := by decide +kernel
theorem dX3_readHead_13 : decode cX3_readHead 13 = .ok (.aload_n 0, 1) := by decide +kernel
theorem dX3_readHead_14 : decode cX3_readHead 14 = .ok (.iconst 0, 1) := by decide +kernel
theorem dX3_readHead_15 : decode cX3_readHead 15 = .ok (.iconst 0, 1) := by decide +kernel
theorem dX3_readHead_16 : decode cX3_readHead 16 = .ok (.bipush 30, 2) := by decide +kernel
theorem dX3_readHead_18 : decode cX3_readHead 18 = .ok (.invokevirtual 60, 3) := by decide +kernel
theorem dX3_readHead_21 : decode cX3_readHead 21 = .ok (.ifCond .eq 32, 3) := by decide +kernel
theorem dX3_readHead_24 : decode cX3_readHead 24 = .ok (.aload_n 0, 1) := by decide +kernel
theorem dX3_readHead_25 : decode cX3_readHead 25 = .ok (.iconst 1, 1) := by decide +kernel
theorem dX3_readHead_26 : decode cX3_readHead 26 = .ok (.iconst 0, 1) := by decide +kernel
theorem dX3_readHead_27 : decode cX3_readHead 27 = .ok (.bipush 30, 2) := by decide +kernel
theorem dX3_readHead_29 : decode cX3_readHead 29 = .ok (.invokevirtual 60, 3) := by decide +kernel
theorem dX3_readHead_32 : decode cX3_readHead 32 = .ok (.ifCond .eq 21, 3) := by decide +kernel
theorem dX3_readHead_35 : decode cX3_readHead 35 = .ok (.aload_n 0, 1) := by decide +kernel
theorem dX3_readHead_36 : decode cX3_readHead 36 = .ok (.iconst 2, 1) := by decide +kernel
theorem dX3_readHead_37 : decode cX3_readHead 37 = .ok (.iconst 0, 1) := by decide +kernel
theorem dX3_readHead_38 : decode cX3_readHead 38 = .ok (.bipush 24, 2) := by decide +kernel
theorem dX3_readHead_40 : decode cX3_readHead 40 = .ok (.invokevirtual 60, 3) := by decide +kernel
theorem dX3_readHead_43 : decode cX3_readHead 43 = .ok (.ifCond .eq 10, 3) := by decide +kernel
theorem dX3_readHead_46 : decode cX3_readHead 46 = .ok (.aload_n 0, 1) := by decide +kernel
theorem dX3_readHead_47 : decode cX3_readHead 47 = .ok (.invokevirtual 64, 3) := by decide +kernel
theorem dX3_readHead_50 : decode cX3_readHead 50 = .ok (.ifCond .ne 5, 3) := by decide +kernel
theorem dX3_readHead_53 : decode cX3_readHead 53 = .ok (.iconst 0, 1) := by decide +kernel
theorem dX3_readHead_54 : decode cX3_readHead 54 = .ok (.ireturn, 1) := by decide +kernel
theorem dX3_readHead_55 : decode cX3_readHead 55 = .ok (.aload_n 1, 1) := by decide +kernel
theorem dX3_readHead_56 : decode cX3_readHead 56 = .ok (.aload_n 0, 1) := by decide +kernel
theorem dX3_readHead_57 : decode cX3_readHead 57 = .ok (.getfield 15, 3) := by decide +kernel
theorem dX3_readHead_60 : decode cX3_readHead 60 = .ok (.iconst 0, 1) := by decide +kernel
theorem dX3_readHead_61 : decode cX3_readHead 61 = .ok (.iaload, 1) := by decide +kernel
theorem dX3_readHead_62 : decode cX3_readHead 62 = .ok (.aload_n 0, 1) := by decide +kernel
theorem dX3_readHead_63 : decode cX3_readHead 63 = .ok (.getfield 15, 3) := by decide +kernel
theorem dX3_readHead_66 : decode cX3_readHead 66 = .ok (.iconst 1, 1) := by decide +kernel
theorem dX3_readHead_67 : decode cX3_readHead 67 = .ok (.iaload, 1) := by decide +kernel
theorem dX3_readHead_68 : decode cX3_readHead 68 = .ok (.aload_n 0, 1) := by decide +kernel
theorem dX3_readHead_69 : decode cX3_readHead 69 = .ok (.getfield 15, 3) := by decide +kernel
theorem dX3_readHead_72 : decode cX3_readHead 72 = .ok (.iconst 2, 1) := by decide +kernel
theorem dX3_readHead_73 : decode cX3_readHead 73 = .ok (.iaload, 1) := by decide +kernel
theorem dX3_readHead_74 : decode cX3_readHead 74 = .ok (.invokevirtual 68, 3) := by decide +kernel
theorem dX3_readHead_77 : decode cX3_readHead 77 = .ok (.aload_n 0, 1) := by decide +kernel
theorem dX3_readHead_78 : decode cX3_readHead 78 = .ok (.ldc 74, 2) := by decide +kernel
theorem dX3_readHead_80 : decode cX3_readHead 80 = .ok (.invokevirtual 56, 3) := by decide +kernel
theorem dX3_readHead_83 : decode cX3_readHead 83 = .ok (.ifCond .eq 18, 3) := by decide +kernel
theorem dX3_readHead_86 : decode cX3_readHead 86 = .ok (.aload_n 0, 1) := by decide +kernel
theorem dX3_readHead_87 : decode cX3_readHead 87 = .ok (.aload_n 1, 1) := by decide +kernel
theorem dX3_readHead_88 : decode cX3_readHead 88 = .ok (.getfield 76, 3) := by decide +kernel
theorem dX3_readHead_91 : decode cX3_readHead 91 = .ok (.invokevirtual 80, 3) := by decide +kernel
theorem dX3_readHead_94 : decode cX3_readHead 94 = .ok (.ifCond .eq 7, 3) := by decide +kernel
theorem dX3_readHead_97 : decode cX3_readHead 97 = .ok (.iconst 1, 1) := by decide +kernel
theorem dX3_readHead_98 : decode cX3_readHead 98 = .ok (.goto 4, 3) := by decide +kernel
theorem dX3_readHead_101 : decode cX3_readHead 101 = .ok (.iconst 0, 1) := by decide +kernel
theorem dX3_readHead_102 : decode cX3_readHead 102 = .ok (.ireturn, 1) := by decide +kernel
theorem dX3_readCommands_0 : decode cX3_readCommands 0 = .ok (.iconst 0, 1) := by decide +kernel
theorem dX3_readCommands_1 : decode cX3_readCommands 1 = .ok (.istore_n 2, 1) := by decide +kernel
theorem dX3_readCommands_2 : decode cX3_readCommands 2 = .ok (.iload_n 2, 1) := by decide +kernel
theorem dX3_readCommands_3 : decode cX3_readCommands 3 = .ok (.bipush 40, 2) := by decide +kernel
theorem dX3_readCommands_5 : decode cX3_readCommands 5 = .ok (.if_icmp .gt 64, 3) := by decide +kernel
theorem dX3_readCommands_8 : decode cX3_readCommands 8 = .ok (.aload_n 0, 1) := by decide +kernel
theorem dX3_readCommands_9 : decode cX3_readCommands 9 = .ok (.invokevirtual 84, 3) := by decide +kernel
theorem dX3_readCommands_12 : decode cX3_readCommands 12 = .ok (.aload_n 0, 1) := by decide +kernel
theorem dX3_readCommands_13 : decode cX3_readCommands 13 = .ok (.getfield 87, 3) := by decide +kernel
theorem dX3_readCommands_16 : decode cX3_readCommands 16 = .ok (.ifCond .ne 5, 3) := by decide +kernel
theorem dX3_readCommands_19 : decode cX3_readCommands 19 = .ok (.iload_n 2, 1) := by decide +kernel
theorem dX3_readCommands_20 : decode cX3_readCommands 20 = .ok (.ireturn, 1) := by decide +kernel
theorem dX3_readCommands_21 : decode cX3_readCommands 21 = .ok (.aload_n 0, 1) := by decide +kernel
theorem dX3_readCommands_22 : decode cX3_readCommands 22 = .ok (.aload_n 1, 1) := by decide +kernel
theorem dX3_readCommands_23 : decode cX3_readCommands 23 = .ok (.iload_n 2, 1) := by decide +kernel
theorem dX3_readCommands_24 : decode cX3_readCommands 24 = .ok (.invokevirtual 90, 3) := by decide +kernel
theorem dX3_readCommands_27 : decode cX3_readCommands 27 = .ok (.ifCond .eq 18, 3) := by decide +kernel
theorem dX3_readCommands_30 : decode cX3_readCommands 30 = .ok (.aload_n 0, 1) := by decide +kernel
theorem dX3_readCommands_31 : decode cX3_readCommands 31 = .ok (.aload_n 1, 1) := by decide +kernel
theorem dX3_readCommands_32 : decode cX3_readCommands 32 = .ok (.invokevirtual 94, 3) := by decide +kernel
theorem dX3_readCommands_35 : decode cX3_readCommands 35 = .ok (.ifCond .eq 10, 3) := by decide +kernel
theorem dX3_readCommands_38 : decode cX3_readCommands 38 = .ok (.aload_n 0, 1) := by decide +kernel
theorem dX3_readCommands_39 : decode cX3_readCommands 39 = .ok (.invokevirtual 64, 3) := by decide +kernel
theorem dX3_readCommands_42 : decode cX3_readCommands 42 = .ok (.ifCond .ne 5, 3) := by decide +kernel
theorem dX3_readCommands_45 : decode cX3_readCommands 45 = .ok (.iconst (-1), 1) := by decide +kernel
theorem dX3_readCommands_46 : decode cX3_readCommands 46 = .ok (.ireturn, 1) := by decide +kernel
theorem dX3_readCommands_47 : decode cX3_readCommands 47 = .ok (.aload_n 0, 1) := by decide +kernel
theorem dX3_readCommands_48 : decode cX3_readCommands 48 = .ok (.aload_n 1, 1) := by decide +kernel
theorem dX3_readCommands_49 : decode cX3_readCommands 49 = .ok (.invokevirtual 98, 3) := by decide +kernel
theorem dX3_readCommands_52 : decode cX3_readCommands 52 = .ok (.ifCond .ne 11, 3) := by decide +kernel
theorem dX3_readCommands_55 : decode cX3_readCommands 55 = .ok (.aload_n 0, 1) := by decide +kernel
theorem dX3_readCommands_56 : decode cX3_readCommands 56 = .ok (.iconst 3, 1) := by decide +kernel
theorem dX3_readCommands_57 : decode cX3_readCommands 57 = .ok (.invokevirtual 101, 3) := by decide +kernel
theorem dX3_readCommands_60 : decode cX3_readCommands 60 = .ok (.pop, 1) := by decide +kernel
theorem dX3_readCommands_61 : decode cX3_readCommands 61 = .ok (.iconst (-1), 1) := by decide +kernel
theorem dX3_readCommands_62 : decode cX3_readCommands 62 = .ok (.ireturn, 1) := by decide +kernel
theorem dX3_readCommands_63 : decode cX3_readCommands 63 = .ok (.iinc 2 1, 3) := by decide +kernel
theorem dX3_readCommands_66 : decode cX3_readCommands 66 = .ok (.goto (-64), 3) := by decide +kernel
theorem dX3_readCommands_69 : decode cX3_readCommands 69 = .ok (.iconst (-1), 1) := by decide +kernel
theorem dX3_readCommands_70 : decode cX3_readCommands 70 = .ok (.ireturn, 1) := by decide +kernel
theorem dX3_bytesIn_0 : decode cX3_bytesIn 0 = .ok (.iconst 0, 1) := by decide +kernel
theorem dX3_bytesIn_1 : decode cX3_bytesIn 1 = .ok (.istore_n 1, 1) := by decide +kernel
theorem dX3_bytesIn_2 : decode cX3_bytesIn 2 = .ok (.bipush 24, 2) := by decide +kernel
theorem dX3_bytesIn_4 : decode cX3_bytesIn 4 = .ok (.istore_n 2, 1) := by decide +kernel
theorem dX3_bytesIn_5 : decode cX3_bytesIn 5 = .ok (.iload_n 2, 1) := by decide +kernel
theorem dX3_bytesIn_6 : decode cX3_bytesIn 6 = .ok (.ifCond .lt 22, 3) := by decide +kernel
theorem dX3_bytesIn_9 : decode cX3_bytesIn 9 = .ok (.iload_n 0, 1) := by decide +kernel
theorem dX3_bytesIn_10 : decode cX3_bytesIn 10 = .ok (.iload_n 2, 1) := by decide +kernel
theorem dX3_bytesIn_11 : decode cX3_bytesIn 11 = .ok (.ishr, 1) := by decide +kernel
theorem dX3_bytesIn_12 : decode cX3_bytesIn 12 = .ok (.sipush 255, 3) := by decide +kernel
theorem dX3_bytesIn_15 : decode cX3_bytesIn 15 = .ok (.iand, 1) := by decide +kernel
theorem dX3_bytesIn_16 : decode cX3_bytesIn 16 = .ok (.ifCond .eq 6, 3) := by decide +kernel
theorem dX3_bytesIn_19 : decode cX3_bytesIn 19 = .ok (.iinc 1 1, 3) := by decide +kernel
theorem dX3_bytesIn_22 : decode cX3_bytesIn 22 = .ok (.iinc 2 (-8), 3) := by decide +kernel
theorem dX3_bytesIn_25 : decode cX3_bytesIn 25 = .ok (.goto (-20), 3) := by decide +kernel
theorem dX3_bytesIn_28 : decode cX3_bytesIn 28 = .ok (.iload_n 1, 1) := by decide +kernel
theorem dX3_bytesIn_29 : decode cX3_bytesIn 29 = .ok (.ireturn, 1) := by decide +kernel
theorem dX3_appendBytes_0 : decode cX3_appendBytes 0 = .ok (.bipush 24, 2) := by decide +kernel
theorem dX3_appendBytes_2 : decode cX3_appendBytes 2 = .ok (.istore_n 2, 1) := by decide +kernel
theorem dX3_appendBytes_3 : decode cX3_appendBytes 3 = .ok (.iload_n 2, 1) := by decide +kernel
theorem dX3_appendBytes_4 : decode cX3_appendBytes 4 = .ok (.ifCond .lt 20, 3) := by decide +kernel
theorem dX3_appendBytes_7 : decode cX3_appendBytes 7 = .ok (.aload_n 0, 1) := by decide +kernel
theorem dX3_appendBytes_8 : decode cX3_appendBytes 8 = .ok (.iload_n 1, 1) := by decide +kernel
theorem dX3_appendBytes_9 : decode cX3_appendBytes 9 = .ok (.iload_n 2, 1) := by decide +kernel
theorem dX3_appendBytes_10 : decode cX3_appendBytes 10 = .ok (.ishr, 1) := by decide +kernel
theorem dX3_appendBytes_11 : decode cX3_appendBytes 11 = .ok (.sipush 255, 3) := by decide +kernel
theorem dX3_appendBytes_14 : decode cX3_appendBytes 14 = .ok (.iand, 1) := by decide +kernel
theorem dX3_appendBytes_15 : decode cX3_appendBytes 15 = .ok (.invokevirtual 42, 3) := by decide +kernel
theorem dX3_appendBytes_18 : decode cX3_appendBytes 18 = .ok (.iinc 2 (-8), 3) := by decide +kernel
theorem dX3_appendBytes_21 : decode cX3_appendBytes 21 = .ok (.goto (-18), 3) := by decide +kernel
theorem dX3_appendBytes_24 : decode cX3_appendBytes 24 = .ok (.return_, 1) := by decide +kernel
theorem dX3_appendByte_0 : decode cX3_appendByte 0 = .ok (.iload_n 1, 1) := by decide +kernel
theorem dX3_appendByte_1 : decode cX3_appendByte 1 = .ok (.ifCond .eq 33, 3) := by decide +kernel
theorem dX3_appendByte_4 : decode cX3_appendByte 4 = .ok (.aload_n 0, 1) := by decide +kernel
theorem dX3_appendByte_5 : decode cX3_appendByte 5 = .ok (.getfield 26, 3) := by decide +kernel
theorem dX3_appendByte_8 : decode cX3_appendByte 8 = .ok (.sipush 700, 3) := by decide +kernel
theorem dX3_appendByte_11 : decode cX3_appendByte 11 = .ok (.if_icmp .ge 23, 3) := by decide +kernel
theorem dX3_appendByte_14 : decode cX3_appendByte 14 = .ok (.aload_n 0, 1) := by decide +kernel
theorem dX3_appendByte_15 : decode cX3_appendByte 15 = .ok (.getfield 9, 3) := by decide +kernel
theorem dX3_appendByte_18 : decode cX3_appendByte 18 = .ok (.aload_n 0, 1) := by decide +kernel
theorem dX3_appendByte_19 : decode cX3_appendByte 19 = .ok (.getfield 26, 3) := by decide +kernel
theorem dX3_appendByte_22 : decode cX3_appendByte 22 = .ok (.iload_n 1, 1) := by decide +kernel
theorem dX3_appendByte_23 : decode cX3_appendByte 23 = .ok (.iastore, 1) := by decide +kernel
theorem dX3_appendByte_24 : decode cX3_appendByte 24 = .ok (.aload_n 0, 1) := by decide +kernel
theorem dX3_appendByte_25 : decode cX3_appendByte 25 = .ok (.dup, 1) := by decide +kernel
theorem dX3_appendByte_26 : decode cX3_appendByte 26 = .ok (.getfield 26, 3) := by decide +kernel
theorem dX3_appendByte_29 : decode cX3_appendByte 29 = .ok (.iconst 1, 1) := by decide +kernel
theorem dX3_appendByte_30 : decode cX3_appendByte 30 = .ok (.iadd, 1) := by decide +kernel
theorem dX3_appendByte_31 : decode cX3_appendByte 31 = .ok (.putfield 26, 3) := by decide +kernel
theorem dX3_appendByte_34 : decode cX3_appendByte 34 = .ok (.return_, 1) := by decide +kernel
theorem dX3_fail_0 : decode cX3_fail 0 = .ok (.aload_n 0, 1) := by decide +kernel
theorem dX3_fail_1 : decode cX3_fail 1 = .ok (.iload_n 1, 1) := by decide +kernel
theorem dX3_fail_2 : decode cX3_fail 2 = .ok (.putfield 48, 3) := by decide +kernel
theorem dX3_fail_5 : decode cX3_fail 5 = .ok (.aload_n 0, 1) := by decide +kernel
theorem dX3_fail_6 : decode cX3_fail 6 = .ok (.aload_n 0, 1) := by decide +kernel
theorem dX3_fail_7 : decode cX3_fail 7 = .ok (.getfield 105, 3) := by decide +kernel
theorem dX3_fail_10 : decode cX3_fail 10 = .ok (.putfield 18, 3) := by decide +kernel
theorem dX3_fail_13 : decode cX3_fail 13 = .ok (.iconst 0, 1) := by decide +kernel
theorem dX3_fail_14 : decode cX3_fail 14 = .ok (.ireturn, 1) := by decide +kernel
theorem dX3_advance_0 : decode cX3_advance 0 = .ok (.aload_n 0, 1) := by decide +kernel
theorem dX3_advance_1 : decode cX3_advance 1 = .ok (.getfield 45, 3) := by decide +kernel
theorem dX3_advance_4 : decode cX3_advance 4 = .ok (.aload_n 0, 1) := by decide +kernel
theorem dX3_advance_5 : decode cX3_advance 5 = .ok (.getfield 26, 3) := by decide +kernel
theorem dX3_advance_8 : decode cX3_advance 8 = .ok (.if_icmp .ge 44, 3) := by decide +kernel
theorem dX3_advance_11 : decode cX3_advance 11 = .ok (.aload_n 0, 1) := by decide +kernel
theorem dX3_advance_12 : decode cX3_advance 12 = .ok (.getfield 9, 3) := by decide +kernel
theorem dX3_advance_15 : decode cX3_advance 15 = .ok (.aload_n 0, 1) := by decide +kernel
theorem dX3_advance_16 : decode cX3_advance 16 = .ok (.getfield 45, 3) := by decide +kernel
theorem dX3_advance_19 : decode cX3_advance 19 = .ok (.iaload, 1) := by decide +kernel
theorem dX3_advance_20 : decode cX3_advance 20 = .ok (.bipush 32, 2) := by decide +kernel
theorem dX3_advance_22 : decode cX3_advance 22 = .ok (.if_icmp .eq 17, 3) := by decide +kernel
theorem dX3_advance_25 : decode cX3_advance 25 = .ok (.aload_n 0, 1) := by decide +kernel
theorem dX3_advance_26 : decode cX3_advance 26 = .ok (.getfield 9, 3) := by decide +kernel
theorem dX3_advance_29 : decode cX3_advance 29 = .ok (.aload_n 0, 1) := by decide +kernel
theorem dX3_advance_30 : decode cX3_advance 30 = .ok (.getfield 45, 3) := by decide +kernel
theorem dX3_advance_33 : decode cX3_advance 33 = .ok (.iaload, 1) := by decide +kernel
theorem dX3_advance_34 : decode cX3_advance 34 = .ok (.bipush 10, 2) := by decide +kernel
theorem dX3_advance_36 : decode cX3_advance 36 = .ok (.if_icmp .ne 16, 3) := by decide +kernel
theorem dX3_advance_39 : decode cX3_advance 39 = .ok (.aload_n 0, 1) := by decide +kernel
theorem dX3_advance_40 : decode cX3_advance 40 = .ok (.dup, 1) := by decide +kernel
theorem dX3_advance_41 : decode cX3_advance 41 = .ok (.getfield 45, 3) := by decide +kernel
theorem dX3_advance_44 : decode cX3_advance 44 = .ok (.iconst 1, 1) := by decide +kernel
theorem dX3_advance_45 : decode cX3_advance 45 = .ok (.iadd, 1) := by decide +kernel
theorem dX3_advance_46 : decode cX3_advance 46 = .ok (.putfield 45, 3) := by decide +kernel
theorem dX3_advance_49 : decode cX3_advance 49 = .ok (.goto (-49), 3) := by decide +kernel
theorem dX3_advance_52 : decode cX3_advance 52 = .ok (.aload_n 0, 1) := by decide +kernel
theorem dX3_advance_53 : decode cX3_advance 53 = .ok (.aload_n 0, 1) := by decide +kernel
theorem dX3_advance_54 : decode cX3_advance 54 = .ok (.getfield 45, 3) := by decide +kernel
theorem dX3_advance_57 : decode cX3_advance 57 = .ok (.putfield 105, 3) := by decide +kernel
theorem dX3_advance_60 : decode cX3_advance 60 = .ok (.aload_n 0, 1) := by decide +kernel
theorem dX3_advance_61 : decode cX3_advance 61 = .ok (.getfield 45, 3) := by decide +kernel
theorem dX3_advance_64 : decode cX3_advance 64 = .ok (.aload_n 0, 1) := by decide +kernel
theorem dX3_advance_65 : decode cX3_advance 65 = .ok (.getfield 26, 3) := by decide +kernel
theorem dX3_advance_68 : decode cX3_advance 68 = .ok (.if_icmp .lt 11, 3) := by decide +kernel
theorem dX3_advance_71 : decode cX3_advance 71 = .ok (.aload_n 0, 1) := by decide +kernel
theorem dX3_advance_72 : decode cX3_advance 72 = .ok (.iconst 0, 1) := by decide +kernel
theorem dX3_advance_73 : decode cX3_advance 73 = .ok (.putfield 87, 3) := by decide +kernel
theorem dX3_advance_76 : decode cX3_advance 76 = .ok (.goto 90, 3) := by decide +kernel
theorem dX3_advance_79 : decode cX3_advance 79 = .ok (.aload_n 0, 1) := by decide +kernel
theorem dX3_advance_80 : decode cX3_advance 80 = .ok (.getfield 9, 3) := by decide +kernel
theorem dX3_advance_83 : decode cX3_advance 83 = .ok (.aload_n 0, 1) := by decide +kernel
theorem dX3_advance_84 : decode cX3_advance 84 = .ok (.getfield 45, 3) := by decide +kernel
theorem dX3_advance_87 : decode cX3_advance 87 = .ok (.iaload, 1) := by decide +kernel
theorem dX3_advance_88 : decode cX3_advance 88 = .ok (.invokestatic 108, 3) := by decide +kernel
theorem dX3_advance_91 : decode cX3_advance 91 = .ok (.ifCond .eq 15, 3) := by decide +kernel
theorem dX3_advance_94 : decode cX3_advance 94 = .ok (.aload_n 0, 1) := by decide +kernel
theorem dX3_advance_95 : decode cX3_advance 95 = .ok (.iconst 1, 1) := by decide +kernel
theorem dX3_advance_96 : decode cX3_advance 96 = .ok (.putfield 87, 3) := by decide +kernel
theorem dX3_advance_99 : decode cX3_advance 99 = .ok (.aload_n 0, 1) := by decide +kernel
theorem dX3_advance_100 : decode cX3_advance 100 = .ok (.invokevirtual 111, 3) := by decide +kernel
theorem dX3_advance_103 : decode cX3_advance 103 = .ok (.goto 63, 3) := by decide +kernel
theorem dX3_advance_106 : decode cX3_advance 106 = .ok (.aload_n 0, 1) := by decide +kernel
theorem dX3_advance_107 : decode cX3_advance 107 = .ok (.getfield 9, 3) := by decide +kernel
theorem dX3_advance_110 : decode cX3_advance 110 = .ok (.aload_n 0, 1) := by decide +kernel
theorem dX3_advance_111 : decode cX3_advance 111 = .ok (.getfield 45, 3) := by decide +kernel
theorem dX3_advance_114 : decode cX3_advance 114 = .ok (.iaload, 1) := by decide +kernel
theorem dX3_advance_115 : decode cX3_advance 115 = .ok (.invokestatic 114, 3) := by decide +kernel
theorem dX3_advance_118 : decode cX3_advance 118 = .ok (.ifCond .eq 15, 3) := by decide +kernel
theorem dX3_advance_121 : decode cX3_advance 121 = .ok (.aload_n 0, 1) := by decide +kernel
theorem dX3_advance_122 : decode cX3_advance 122 = .ok (.iconst 2, 1) := by decide +kernel
theorem dX3_advance_123 : decode cX3_advance 123 = .ok (.putfield 87, 3) := by decide +kernel
theorem dX3_advance_126 : decode cX3_advance 126 = .ok (.aload_n 0, 1) := by decide +kernel
theorem dX3_advance_127 : decode cX3_advance 127 = .ok (.invokevirtual 117, 3) := by decide +kernel
theorem dX3_advance_130 : decode cX3_advance 130 = .ok (.goto 36, 3) := by decide +kernel
theorem dX3_advance_133 : decode cX3_advance 133 = .ok (.aload_n 0, 1) := by decide +kernel
theorem dX3_advance_134 : decode cX3_advance 134 = .ok (.aload_n 0, 1) := by decide +kernel
theorem dX3_advance_135 : decode cX3_advance 135 = .ok (.getfield 9, 3) := by decide +kernel
theorem dX3_advance_138 : decode cX3_advance 138 = .ok (.aload_n 0, 1) := by decide +kernel
theorem dX3_advance_139 : decode cX3_advance 139 = .ok (.getfield 45, 3) := by decide +kernel
theorem dX3_advance_142 : decode cX3_advance 142 = .ok (.iaload, 1) := by decide +kernel
theorem dX3_advance_143 : decode cX3_advance 143 = .ok (.bipush 59, 2) := by decide +kernel
theorem dX3_advance_145 : decode cX3_advance 145 = .ok (.if_icmp .ne 7, 3) := by decide +kernel
theorem dX3_advance_148 : decode cX3_advance 148 = .ok (.iconst 3, 1) := by decide +kernel
theorem dX3_advance_149 : decode cX3_advance 149 = .ok (.goto 4, 3) := by decide +kernel
theorem dX3_advance_152 : decode cX3_advance 152 = .ok (.iconst 4, 1) := by decide +kernel
theorem dX3_advance_153 : decode cX3_advance 153 = .ok (.putfield 87, 3) := by decide +kernel
theorem dX3_advance_156 : decode cX3_advance 156 = .ok (.aload_n 0, 1) := by decide +kernel
theorem dX3_advance_157 : decode cX3_advance 157 = .ok (.dup, 1) := by decide +kernel
theorem dX3_advance_158 : decode cX3_advance 158 = .ok (.getfield 45, 3) := by decide +kernel
theorem dX3_advance_161 : decode cX3_advance 161 = .ok (.iconst 1, 1) := by decide +kernel
theorem dX3_advance_162 : decode cX3_advance 162 = .ok (.iadd, 1) := by decide +kernel
theorem dX3_advance_163 : decode cX3_advance 163 = .ok (.putfield 45, 3) := by decide +kernel
theorem dX3_advance_166 : decode cX3_advance 166 = .ok (.return_, 1) := by decide +kernel
theorem dX3_passLetters_0 : decode cX3_passLetters 0 = .ok (.aload_n 0, 1) := by decide +kernel
theorem dX3_passLetters_1 : decode cX3_passLetters 1 = .ok (.getfield 45, 3) := by decide +kernel
theorem dX3_passLetters_4 : decode cX3_passLetters 4 = .ok (.aload_n 0, 1) := by decide +kernel
theorem dX3_passLetters_5 : decode cX3_passLetters 5 = .ok (.getfield 26, 3) := by decide +kernel
theorem dX3_passLetters_8 : decode cX3_passLetters 8 = .ok (.if_icmp .ge 31, 3) := by decide +kernel
theorem dX3_passLetters_11 : decode cX3_passLetters 11 = .ok (.aload_n 0, 1) := by decide +kernel
theorem dX3_passLetters_12 : decode cX3_passLetters 12 = .ok (.getfield 9, 3) := by decide +kernel
theorem dX3_passLetters_15 : decode cX3_passLetters 15 = .ok (.aload_n 0, 1) := by decide +kernel
theorem dX3_passLetters_16 : decode cX3_passLetters 16 = .ok (.getfield 45, 3) := by decide +kernel
theorem dX3_passLetters_19 : decode cX3_passLetters 19 = .ok (.iaload, 1) := by decide +kernel
theorem dX3_passLetters_20 : decode cX3_passLetters 20 = .ok (.invokestatic 108, 3) := by decide +kernel
theorem dX3_passLetters_23 : decode cX3_passLetters 23 = .ok (.ifCond .eq 16, 3) := by decide +kernel
theorem dX3_passLetters_26 : decode cX3_passLetters 26 = .ok (.aload_n 0, 1) := by decide +kernel
theorem dX3_passLetters_27 : decode cX3_passLetters 27 = .ok (.dup, 1) := by decide +kernel
theorem dX3_passLetters_28 : decode cX3_passLetters 28 = .ok (.getfield 45, 3) := by decide +kernel
theorem dX3_passLetters_31 : decode cX3_passLetters 31 = .ok (.iconst 1, 1) := by decide +kernel
theorem dX3_passLetters_32 : decode cX3_passLetters 32 = .ok (.iadd, 1) := by decide +kernel
theorem dX3_passLetters_33 : decode cX3_passLetters 33 = .ok (.putfield 45, 3) := by decide +kernel
theorem dX3_passLetters_36 : decode cX3_passLetters 36 = .ok (.goto (-36), 3) := by decide +kernel
theorem dX3_passLetters_39 : decode cX3_passLetters 39 = .ok (.return_, 1) := by decide +kernel
theorem dX3_passDigits_0 : decode cX3_passDigits 0 = .ok (.aload_n 0, 1) := by decide +kernel
theorem dX3_passDigits_1 : decode cX3_passDigits 1 = .ok (.iconst 0, 1) := by decide +kernel
theorem dX3_passDigits_2 : decode cX3_passDigits 2 = .ok (.putfield 120, 3) := by decide +kernel
theorem dX3_passDigits_5 : decode cX3_passDigits 5 = .ok (.aload_n 0, 1) := by decide +kernel
theorem dX3_passDigits_6 : decode cX3_passDigits 6 = .ok (.getfield 45, 3) := by decide +kernel
theorem dX3_passDigits_9 : decode cX3_passDigits 9 = .ok (.aload_n 0, 1) := by decide +kernel
theorem dX3_passDigits_10 : decode cX3_passDigits 10 = .ok (.getfield 26, 3) := by decide +kernel
theorem dX3_passDigits_13 : decode cX3_passDigits 13 = .ok (.if_icmp .ge 60, 3) := by decide +kernel
theorem dX3_passDigits_16 : decode cX3_passDigits 16 = .ok (.aload_n 0, 1) := by decide +kernel
theorem dX3_passDigits_17 : decode cX3_passDigits 17 = .ok (.getfield 9, 3) := by decide +kernel
theorem dX3_passDigits_20 : decode cX3_passDigits 20 = .ok (.aload_n 0, 1) := by decide +kernel
theorem dX3_passDigits_21 : decode cX3_passDigits 21 = .ok (.getfield 45, 3) := by decide +kernel
theorem dX3_passDigits_24 : decode cX3_passDigits 24 = .ok (.iaload, 1) := by decide +kernel
theorem dX3_passDigits_25 : decode cX3_passDigits 25 = .ok (.invokestatic 114, 3) := by decide +kernel
theorem dX3_passDigits_28 : decode cX3_passDigits 28 = .ok (.ifCond .eq 45, 3) := by decide +kernel
theorem dX3_passDigits_31 : decode cX3_passDigits 31 = .ok (.aload_n 0, 1) := by decide +kernel
theorem dX3_passDigits_32 : decode cX3_passDigits 32 = .ok (.aload_n 0, 1) := by decide +kernel
theorem dX3_passDigits_33 : decode cX3_passDigits 33 = .ok (.getfield 120, 3) := by decide +kernel
theorem dX3_passDigits_36 : decode cX3_passDigits 36 = .ok (.bipush 10, 2) := by decide +kernel
theorem dX3_passDigits_38 : decode cX3_passDigits 38 = .ok (.imul, 1) := by decide +kernel
theorem dX3_passDigits_39 : decode cX3_passDigits 39 = .ok (.aload_n 0, 1) := by decide +kernel
theorem dX3_passDigits_40 : decode cX3_passDigits 40 = .ok (.getfield 9, 3) := by decide +kernel
theorem dX3_passDigits_43 : decode cX3_passDigits 43 = .ok (.aload_n 0, 1) := by decide +kernel
theorem dX3_passDigits_44 : decode cX3_passDigits 44 = .ok (.getfield 45, 3) := by decide +kernel
theorem dX3_passDigits_47 : decode cX3_passDigits 47 = .ok (.iaload, 1) := by decide +kernel
theorem dX3_passDigits_48 : decode cX3_passDigits 48 = .ok (.bipush 48, 2) := by decide +kernel
theorem dX3_passDigits_50 : decode cX3_passDigits 50 = .ok (.isub, 1) := by decide +kernel
theorem dX3_passDigits_51 : decode cX3_passDigits 51 = .ok (.iadd, 1) := by decide +kernel
theorem dX3_passDigits_52 : decode cX3_passDigits 52 = .ok (.ldc 123, 2) := by decide +kernel
theorem dX3_passDigits_54 : decode cX3_passDigits 54 = .ok (.invokestatic 124, 3) := by decide +kernel
theorem dX3_passDigits_57 : decode cX3_passDigits 57 = .ok (.putfield 120, 3) := by decide +kernel
theorem dX3_passDigits_60 : decode cX3_passDigits 60 = .ok (.aload_n 0, 1) := by decide +kernel
theorem dX3_passDigits_61 : decode cX3_passDigits 61 = .ok (.dup, 1) := by decide +kernel
theorem dX3_passDigits_62 : decode cX3_passDigits 62 = .ok (.getfield 45, 3) := by decide +kernel
theorem dX3_passDigits_65 : decode cX3_passDigits 65 = .ok (.iconst 1, 1) := by decide +kernel
theorem dX3_passDigits_66 : decode cX3_passDigits 66 = .ok (.iadd, 1) := by decide +kernel
theorem dX3_passDigits_67 : decode cX3_passDigits 67 = .ok (.putfield 45, 3) := by decide +kernel
theorem dX3_passDigits_70 : decode cX3_passDigits 70 = .ok (.goto (-65), 3) := by decide +kernel
theorem dX3_passDigits_73 : decode cX3_passDigits 73 = .ok (.return_, 1) := by decide +kernel
theorem dX3_isLetter_0 : decode cX3_isLetter 0 = .ok (.iload_n 0, 1) := by decide +kernel
theorem dX3_isLetter_1 : decode cX3_isLetter 1 = .ok (.bipush 97, 2) := by decide +kernel
theorem dX3_isLetter_3 : decode cX3_isLetter 3 = .ok (.if_icmp .lt 13, 3) := by decide +kernel
theorem dX3_isLetter_6 : decode cX3_isLetter 6 = .ok (.iload_n 0, 1) := by decide +kernel
theorem dX3_isLetter_7 : decode cX3_isLetter 7 = .ok (.bipush 122, 2) := by decide +kernel
theorem dX3_isLetter_9 : decode cX3_isLetter 9 = .ok (.if_icmp .gt 7, 3) := by decide +kernel
theorem dX3_isLetter_12 : decode cX3_isLetter 12 = .ok (.iconst 1, 1) := by decide +kernel
theorem dX3_isLetter_13 : decode cX3_isLetter 13 = .ok (.goto 4, 3) := by decide +kernel
theorem dX3_isLetter_16 : decode cX3_isLetter 16 = .ok (.iconst 0, 1) := by decide +kernel
theorem dX3_isLetter_17 : decode cX3_isLetter 17 = .ok (.ireturn, 1) := by decide +kernel
theorem dX3_isDigit_0 : decode cX3_isDigit 0 = .ok (.iload_n 0, 1) := by decide +kernel
theorem dX3_isDigit_1 : decode cX3_isDigit 1 = .ok (.bipush 48, 2) := by decide +kernel
theorem dX3_isDigit_3 : decode cX3_isDigit 3 = .ok (.if_icmp .lt 13, 3) := by decide +kernel
theorem dX3_isDigit_6 : decode cX3_isDigit 6 = .ok (.iload_n 0, 1) := by decide +kernel
theorem dX3_isDigit_7 : decode cX3_isDigit 7 = .ok (.bipush 57, 2) := by decide +kernel
theorem dX3_isDigit_9 : decode cX3_isDigit 9 = .ok (.if_icmp .gt 7, 3) := by decide +kernel
theorem dX3_isDigit_12 : decode cX3_isDigit 12 = .ok (.iconst 1, 1) := by decide +kernel
theorem dX3_isDigit_13 : decode cX3_isDigit 13 = .ok (.goto 4, 3) := by decide +kernel
theorem dX3_isDigit_16 : decode cX3_isDigit 16 = .ok (.iconst 0, 1) := by decide +kernel
theorem dX3_isDigit_17 : decode cX3_isDigit 17 = .ok (.ireturn, 1) := by decide +kernel
theorem dX3_tokenIs_0 : decode cX3_tokenIs 0 = .ok (.aload_n 0, 1) := by decide +kernel
theorem dX3_tokenIs_1 : decode cX3_tokenIs 1 = .ok (.getfield 87, 3) := by decide +kernel
theorem dX3_tokenIs_4 : decode cX3_tokenIs 4 = .ok (.iconst 1, 1) := by decide +kernel
theorem dX3_tokenIs_5 : decode cX3_tokenIs 5 = .ok (.if_icmp .ne 19, 3) := by decide +kernel
theorem dX3_tokenIs_8 : decode cX3_tokenIs 8 = .ok (.aload_n 0, 1) := by decide +kernel
theorem dX3_tokenIs_9 : decode cX3_tokenIs 9 = .ok (.getfield 45, 3) := by decide +kernel
theorem dX3_tokenIs_12 : decode cX3_tokenIs 12 = .ok (.aload_n 0, 1) := by decide +kernel
theorem dX3_tokenIs_13 : decode cX3_tokenIs 13 = .ok (.getfield 105, 3) := by decide +kernel
theorem dX3_tokenIs_16 : decode cX3_tokenIs 16 = .ok (.isub, 1) := by decide +kernel
theorem dX3_tokenIs_17 : decode cX3_tokenIs 17 = .ok (.aload_n 1, 1) := by decide +kernel
theorem dX3_tokenIs_18 : decode cX3_tokenIs 18 = .ok (.invokevirtual 33, 3) := by decide +kernel
theorem dX3_tokenIs_21 : decode cX3_tokenIs 21 = .ok (.if_icmp .eq 5, 3) := by decide +kernel
theorem dX3_tokenIs_24 : decode cX3_tokenIs 24 = .ok (.iconst 0, 1) := by decide +kernel
theorem dX3_tokenIs_25 : decode cX3_tokenIs 25 = .ok (.ireturn, 1) := by decide +kernel
theorem dX3_tokenIs_26 : decode cX3_tokenIs 26 = .ok (.iconst 0, 1) := by decide +kernel
theorem dX3_tokenIs_27 : decode cX3_tokenIs 27 = .ok (.istore_n 2, 1) := by decide +kernel
theorem dX3_tokenIs_28 : decode cX3_tokenIs 28 = .ok (.iload_n 2, 1) := by decide +kernel
theorem dX3_tokenIs_29 : decode cX3_tokenIs 29 = .ok (.aload_n 1, 1) := by decide +kernel
theorem dX3_tokenIs_30 : decode cX3_tokenIs 30 = .ok (.invokevirtual 33, 3) := by decide +kernel
theorem dX3_tokenIs_33 : decode cX3_tokenIs 33 = .ok (.if_icmp .ge 30, 3) := by decide +kernel
theorem dX3_tokenIs_36 : decode cX3_tokenIs 36 = .ok (.aload_n 0, 1) := by decide +kernel
theorem dX3_tokenIs_37 : decode cX3_tokenIs 37 = .ok (.getfield 9, 3) := by decide +kernel
theorem dX3_tokenIs_40 : decode cX3_tokenIs 40 = .ok (.aload_n 0, 1) := by decide +kernel
theorem dX3_tokenIs_41 : decode cX3_tokenIs 41 = .ok (.getfield 105, 3) := by decide +kernel
theorem dX3_tokenIs_44 : decode cX3_tokenIs 44 = .ok (.iload_n 2, 1) := by decide +kernel
theorem dX3_tokenIs_45 : decode cX3_tokenIs 45 = .ok (.iadd, 1) := by decide +kernel
theorem dX3_tokenIs_46 : decode cX3_tokenIs 46 = .ok (.iaload, 1) := by decide +kernel
theorem dX3_tokenIs_47 : decode cX3_tokenIs 47 = .ok (.aload_n 1, 1) := by decide +kernel
theorem dX3_tokenIs_48 : decode cX3_tokenIs 48 = .ok (.iload_n 2, 1) := by decide +kernel
theorem dX3_tokenIs_49 : decode cX3_tokenIs 49 = .ok (.invokevirtual 38, 3) := by decide +kernel
theorem dX3_tokenIs_52 : decode cX3_tokenIs 52 = .ok (.if_icmp .eq 5, 3) := by decide +kernel
theorem dX3_tokenIs_55 : decode cX3_tokenIs 55 = .ok (.iconst 0, 1) := by decide +kernel
theorem dX3_tokenIs_56 : decode cX3_tokenIs 56 = .ok (.ireturn, 1) := by decide +kernel
theorem dX3_tokenIs_57 : decode cX3_tokenIs 57 = .ok (.iinc 2 1, 3) := by decide +kernel
theorem dX3_tokenIs_60 : decode cX3_tokenIs 60 = .ok (.goto (-32), 3) := by decide +kernel
theorem dX3_tokenIs_63 : decode cX3_tokenIs 63 = .ok (.iconst 1, 1) := by decide +kernel
theorem dX3_tokenIs_64 : decode cX3_tokenIs 64 = .ok (.ireturn, 1) := by decide +kernel
theorem dX3_readWord_0 : decode cX3_readWord 0 = .ok (.aload_n 0, 1) := by decide +kernel
theorem dX3_readWord_1 : decode cX3_readWord 1 = .ok (.invokevirtual 84, 3) := by decide +kernel
theorem dX3_readWord_4 : decode cX3_readWord 4 = .ok (.aload_n 0, 1) := by decide +kernel
theorem dX3_readWord_5 : decode cX3_readWord 5 = .ok (.aload_n 1, 1) := by decide +kernel
theorem dX3_readWord_6 : decode cX3_readWord 6 = .ok (.invokevirtual 130, 3) := by decide +kernel
theorem dX3_readWord_9 : decode cX3_readWord 9 = .ok (.ifCond .ne 11, 3) := by decide +kernel
theorem dX3_readWord_12 : decode cX3_readWord 12 = .ok (.aload_n 0, 1) := by decide +kernel
theorem dX3_readWord_13 : decode cX3_readWord 13 = .ok (.iconst 1, 1) := by decide +kernel
theorem dX3_readWord_14 : decode cX3_readWord 14 = .ok (.invokevirtual 101, 3) := by decide +kernel
theorem dX3_readWord_17 : decode cX3_readWord 17 = .ok (.ifCond .eq 7, 3) := by decide +kernel
theorem dX3_readWord_20 : decode cX3_readWord 20 = .ok (.iconst 1, 1) := by decide +kernel
theorem dX3_readWord_21 : decode cX3_readWord 21 = .ok (.goto 4, 3) := by decide +kernel
theorem dX3_readWord_24 : decode cX3_readWord 24 = .ok (.iconst 0, 1) := by decide +kernel
theorem dX3_readWord_25 : decode cX3_readWord 25 = .ok (.ireturn, 1) := by decide +kernel
theorem dX3_readSemicolon_0 : decode cX3_readSemicolon 0 = .ok (.aload_n 0, 1) := by decide +kernel
theorem dX3_readSemicolon_1 : decode cX3_readSemicolon 1 = .ok (.invokevirtual 84, 3) := by decide +kernel
theorem dX3_readSemicolon_4 : decode cX3_readSemicolon 4 = .ok (.aload_n 0, 1) := by decide +kernel
theorem dX3_readSemicolon_5 : decode cX3_readSemicolon 5 = .ok (.getfield 87, 3) := by decide +kernel
theorem dX3_readSemicolon_8 : decode cX3_readSemicolon 8 = .ok (.iconst 3, 1) := by decide +kernel
theorem dX3_readSemicolon_9 : decode cX3_readSemicolon 9 = .ok (.if_icmp .eq 11, 3) := by decide +kernel
theorem dX3_readSemicolon_12 : decode cX3_readSemicolon 12 = .ok (.aload_n 0, 1) := by decide +kernel
theorem dX3_readSemicolon_13 : decode cX3_readSemicolon 13 = .ok (.iconst 1, 1) := by decide +kernel
theorem dX3_readSemicolon_14 : decode cX3_readSemicolon 14 = .ok (.invokevirtual 101, 3) := by decide +kernel
theorem dX3_readSemicolon_17 : decode cX3_readSemicolon 17 = .ok (.ifCond .eq 7, 3) := by decide +kernel
theorem dX3_readSemicolon_20 : decode cX3_readSemicolon 20 = .ok (.iconst 1, 1) := by decide +kernel
theorem dX3_readSemicolon_21 : decode cX3_readSemicolon 21 = .ok (.goto 4, 3) := by decide +kernel
theorem dX3_readSemicolon_24 : decode cX3_readSemicolon 24 = .ok (.iconst 0, 1) := by decide +kernel
theorem dX3_readSemicolon_25 : decode cX3_readSemicolon 25 = .ok (.ireturn, 1) := by decide +kernel
theorem dX3_readNumber_0 : decode cX3_readNumber 0 = .ok (.aload_n 0, 1) := by decide +kernel
theorem dX3_readNumber_1 : decode cX3_readNumber 1 = .ok (.invokevirtual 84, 3) := by decide +kernel
theorem dX3_readNumber_4 : decode cX3_readNumber 4 = .ok (.aload_n 0, 1) := by decide +kernel
theorem dX3_readNumber_5 : decode cX3_readNumber 5 = .ok (.getfield 87, 3) := by decide +kernel
theorem dX3_readNumber_8 : decode cX3_readNumber 8 = .ok (.iconst 2, 1) := by decide +kernel
theorem dX3_readNumber_9 : decode cX3_readNumber 9 = .ok (.if_icmp .eq 9, 3) := by decide +kernel
theorem dX3_readNumber_12 : decode cX3_readNumber 12 = .ok (.aload_n 0, 1) := by decide +kernel
theorem dX3_readNumber_13 : decode cX3_readNumber 13 = .ok (.iconst 1, 1) := by decide +kernel
theorem dX3_readNumber_14 : decode cX3_readNumber 14 = .ok (.invokevirtual 101, 3) := by decide +kernel
theorem dX3_readNumber_17 : decode cX3_readNumber 17 = .ok (.ireturn, 1) := by decide +kernel
theorem dX3_readNumber_18 : decode cX3_readNumber 18 = .ok (.aload_n 0, 1) := by decide +kernel
theorem dX3_readNumber_19 : decode cX3_readNumber 19 = .ok (.getfield 120, 3) := by decide +kernel
theorem dX3_readNumber_22 : decode cX3_readNumber 22 = .ok (.iload_n 2, 1) := by decide +kernel
theorem dX3_readNumber_23 : decode cX3_readNumber 23 = .ok (.if_icmp .lt 11, 3) := by decide +kernel
theorem dX3_readNumber_26 : decode cX3_readNumber 26 = .ok (.aload_n 0, 1) := by decide +kernel
theorem dX3_readNumber_27 : decode cX3_readNumber 27 = .ok (.getfield 120, 3) := by decide +kernel
theorem dX3_readNumber_30 : decode cX3_readNumber 30 = .ok (.iload_n 3, 1) := by decide +kernel
theorem dX3_readNumber_31 : decode cX3_readNumber 31 = .ok (.if_icmp .le 9, 3) := by decide +kernel
theorem dX3_readNumber_34 : decode cX3_readNumber 34 = .ok (.aload_n 0, 1) := by decide +kernel
theorem dX3_readNumber_35 : decode cX3_readNumber 35 = .ok (.iconst 2, 1) := by decide +kernel
theorem dX3_readNumber_36 : decode cX3_readNumber 36 = .ok (.invokevirtual 101, 3) := by decide +kernel
theorem dX3_readNumber_39 : decode cX3_readNumber 39 = .ok (.ireturn, 1) := by decide +kernel
theorem dX3_readNumber_40 : decode cX3_readNumber 40 = .ok (.aload_n 0, 1) := by decide +kernel
theorem dX3_readNumber_41 : decode cX3_readNumber 41 = .ok (.getfield 15, 3) := by decide +kernel
theorem dX3_readNumber_44 : decode cX3_readNumber 44 = .ok (.iload_n 1, 1) := by decide +kernel
theorem dX3_readNumber_45 : decode cX3_readNumber 45 = .ok (.aload_n 0, 1) := by decide +kernel
theorem dX3_readNumber_46 : decode cX3_readNumber 46 = .ok (.getfield 120, 3) := by decide +kernel
theorem dX3_readNumber_49 : decode cX3_readNumber 49 = .ok (.iastore, 1) := by decide +kernel
theorem dX3_readNumber_50 : decode cX3_readNumber 50 = .ok (.iconst 1, 1) := by decide +kernel
theorem dX3_readNumber_51 : decode cX3_readNumber 51 = .ok (.ireturn, 1) := by decide +kernel
theorem dX3_readPattern_0 : decode cX3_readPattern 0 = .ok (.iconst 0, 1) := by decide +kernel
theorem dX3_readPattern_1 : decode cX3_readPattern 1 = .ok (.istore_n 2, 1) := by decide +kernel
theorem dX3_readPattern_2 : decode cX3_readPattern 2 = .ok (.iload_n 2, 1) := by decide +kernel
theorem dX3_readPattern_3 : decode cX3_readPattern 3 = .ok (.bipush 8, 2) := by decide +kernel
theorem dX3_readPattern_5 : decode cX3_readPattern 5 = .ok (.if_icmp .gt 75, 3) := by decide +kernel
theorem dX3_readPattern_8 : decode cX3_readPattern 8 = .ok (.aload_n 0, 1) := by decide +kernel
theorem dX3_readPattern_9 : decode cX3_readPattern 9 = .ok (.invokevirtual 84, 3) := by decide +kernel
theorem dX3_readPattern_12 : decode cX3_readPattern 12 = .ok (.iload_n 2, 1) := by decide +kernel
theorem dX3_readPattern_13 : decode cX3_readPattern 13 = .ok (.ifCond .le 13, 3) := by decide +kernel
theorem dX3_readPattern_16 : decode cX3_readPattern 16 = .ok (.aload_n 0, 1) := by decide +kernel
theorem dX3_readPattern_17 : decode cX3_readPattern 17 = .ok (.getfield 87, 3) := by decide +kernel
theorem dX3_readPattern_20 : decode cX3_readPattern 20 = .ok (.iconst 3, 1) := by decide +kernel
theorem dX3_readPattern_21 : decode cX3_readPattern 21 = .ok (.if_icmp .ne 5, 3) := by decide +kernel
theorem dX3_readPattern_24 : decode cX3_readPattern 24 = .ok (.iconst 1, 1) := by decide +kernel
theorem dX3_readPattern_25 : decode cX3_readPattern 25 = .ok (.ireturn, 1) := by decide +kernel
theorem dX3_readPattern_26 : decode cX3_readPattern 26 = .ok (.aload_n 0, 1) := by decide +kernel
theorem dX3_readPattern_27 : decode cX3_readPattern 27 = .ok (.getfield 87, 3) := by decide +kernel
theorem dX3_readPattern_30 : decode cX3_readPattern 30 = .ok (.iconst 2, 1) := by decide +kernel
theorem dX3_readPattern_31 : decode cX3_readPattern 31 = .ok (.if_icmp .eq 9, 3) := by decide +kernel
theorem dX3_readPattern_34 : decode cX3_readPattern 34 = .ok (.aload_n 0, 1) := by decide +kernel
theorem dX3_readPattern_35 : decode cX3_readPattern 35 = .ok (.iconst 1, 1) := by decide +kernel
theorem dX3_readPattern_36 : decode cX3_readPattern 36 = .ok (.invokevirtual 101, 3) := by decide +kernel
theorem dX3_readPattern_39 : decode cX3_readPattern 39 = .ok (.ireturn, 1) := by decide +kernel
theorem dX3_readPattern_40 : decode cX3_readPattern 40 = .ok (.aload_n 0, 1) := by decide +kernel
theorem dX3_readPattern_41 : decode cX3_readPattern 41 = .ok (.getfield 120, 3) := by decide +kernel
theorem dX3_readPattern_44 : decode cX3_readPattern 44 = .ok (.iconst 5, 1) := by decide +kernel
theorem dX3_readPattern_45 : decode cX3_readPattern 45 = .ok (.if_icmp .le 9, 3) := by decide +kernel
theorem dX3_readPattern_48 : decode cX3_readPattern 48 = .ok (.aload_n 0, 1) := by decide +kernel
theorem dX3_readPattern_49 : decode cX3_readPattern 49 = .ok (.iconst 2, 1) := by decide +kernel
theorem dX3_readPattern_50 : decode cX3_readPattern 50 = .ok (.invokevirtual 101, 3) := by decide +kernel
theorem dX3_readPattern_53 : decode cX3_readPattern 53 = .ok (.ireturn, 1) := by decide +kernel
theorem dX3_readPattern_54 : decode cX3_readPattern 54 = .ok (.iload_n 2, 1) := by decide +kernel
theorem dX3_readPattern_55 : decode cX3_readPattern 55 = .ok (.bipush 8, 2) := by decide +kernel
theorem dX3_readPattern_57 : decode cX3_readPattern 57 = .ok (.if_icmp .ne 9, 3) := by decide +kernel
theorem dX3_readPattern_60 : decode cX3_readPattern 60 = .ok (.aload_n 0, 1) := by decide +kernel
theorem dX3_readPattern_61 : decode cX3_readPattern 61 = .ok (.iconst 4, 1) := by decide +kernel
theorem dX3_readPattern_62 : decode cX3_readPattern 62 = .ok (.invokevirtual 101, 3) := by decide +kernel
theorem dX3_readPattern_65 : decode cX3_readPattern 65 = .ok (.ireturn, 1) := by decide +kernel
theorem dX3_readPattern_66 : decode cX3_readPattern 66 = .ok (.aload_n 1, 1) := by decide +kernel
theorem dX3_readPattern_67 : decode cX3_readPattern 67 = .ok (.aload_n 0, 1) := by decide +kernel
theorem dX3_readPattern_68 : decode cX3_readPattern 68 = .ok (.getfield 120, 3) := by decide +kernel
theorem dX3_readPattern_71 : decode cX3_readPattern 71 = .ok (.invokevirtual 133, 3) := by decide +kernel
theorem dX3_readPattern_74 : decode cX3_readPattern 74 = .ok (.iinc 2 1, 3) := by decide +kernel
theorem dX3_readPattern_77 : decode cX3_readPattern 77 = .ok (.goto (-75), 3) := by decide +kernel
theorem dX3_readPattern_80 : decode cX3_readPattern 80 = .ok (.iconst 0, 1) := by decide +kernel
theorem dX3_readPattern_81 : decode cX3_readPattern 81 = .ok (.ireturn, 1) := by decide +kernel
theorem dX3_isCommand_0 : decode cX3_isCommand 0 = .ok (.aload_n 0, 1) := by decide +kernel
theorem dX3_isCommand_1 : decode cX3_isCommand 1 = .ok (.aload_n 0, 1) := by decide +kernel
theorem dX3_isCommand_2 : decode cX3_isCommand 2 = .ok (.invokevirtual 138, 3) := by decide +kernel
theorem dX3_isCommand_5 : decode cX3_isCommand 5 = .ok (.putfield 141, 3) := by decide +kernel
theorem dX3_isCommand_8 : decode cX3_isCommand 8 = .ok (.aload_n 0, 1) := by decide +kernel
theorem dX3_isCommand_9 : decode cX3_isCommand 9 = .ok (.getfield 141, 3) := by decide +kernel
theorem dX3_isCommand_12 : decode cX3_isCommand 12 = .ok (.ifCond .ne 9, 3) := by decide +kernel
theorem dX3_isCommand_15 : decode cX3_isCommand 15 = .ok (.aload_n 0, 1) := by decide +kernel
theorem dX3_isCommand_16 : decode cX3_isCommand 16 = .ok (.iconst 1, 1) := by decide +kernel
theorem dX3_isCommand_17 : decode cX3_isCommand 17 = .ok (.invokevirtual 101, 3) := by decide +kernel
theorem dX3_isCommand_20 : decode cX3_isCommand 20 = .ok (.ireturn, 1) := by decide +kernel
theorem dX3_isCommand_21 : decode cX3_isCommand 21 = .ok (.iload_n 2, 1) := by decide +kernel
theorem dX3_isCommand_22 : decode cX3_isCommand 22 = .ok (.bipush 40, 2) := by decide +kernel
theorem dX3_isCommand_24 : decode cX3_isCommand 24 = .ok (.if_icmp .eq 11, 3) := by decide +kernel
theorem dX3_isCommand_27 : decode cX3_isCommand 27 = .ok (.aload_n 0, 1) := by decide +kernel
theorem dX3_isCommand_28 : decode cX3_isCommand 28 = .ok (.aload_n 1, 1) := by decide +kernel
theorem dX3_isCommand_29 : decode cX3_isCommand 29 = .ok (.invokevirtual 144, 3) := by decide +kernel
theorem dX3_isCommand_32 : decode cX3_isCommand 32 = .ok (.ifCond .eq 9, 3) := by decide +kernel
theorem dX3_isCommand_35 : decode cX3_isCommand 35 = .ok (.aload_n 0, 1) := by decide +kernel
theorem dX3_isCommand_36 : decode cX3_isCommand 36 = .ok (.iconst 4, 1) := by decide +kernel
theorem dX3_isCommand_37 : decode cX3_isCommand 37 = .ok (.invokevirtual 101, 3) := by decide +kernel
theorem dX3_isCommand_40 : decode cX3_isCommand 40 = .ok (.ireturn, 1) := by decide +kernel
theorem dX3_isCommand_41 : decode cX3_isCommand 41 = .ok (.iconst 1, 1) := by decide +kernel
theorem dX3_isCommand_42 : decode cX3_isCommand 42 = .ok (.ireturn, 1) := by decide +kernel
theorem dX3_commandOfToken_0 : decode cX3_commandOfToken 0 = .ok (.aload_n 0, 1) := by decide +kernel
theorem dX3_commandOfToken_1 : decode cX3_commandOfToken 1 = .ok (.ldc 147, 2) := by decide +kernel
theorem dX3_commandOfToken_3 : decode cX3_commandOfToken 3 = .ok (.invokevirtual 130, 3) := by decide +kernel
theorem dX3_commandOfToken_6 : decode cX3_commandOfToken 6 = .ok (.ifCond .eq 5, 3) := by decide +kernel
theorem dX3_commandOfToken_9 : decode cX3_commandOfToken 9 = .ok (.iconst 1, 1) := by decide +kernel
theorem dX3_commandOfToken_10 : decode cX3_commandOfToken 10 = .ok (.ireturn, 1) := by decide +kernel
theorem dX3_commandOfToken_11 : decode cX3_commandOfToken 11 = .ok (.aload_n 0, 1) := by decide +kernel
theorem dX3_commandOfToken_12 : decode cX3_commandOfToken 12 = .ok (.ldc 149, 2) := by decide +kernel
theorem dX3_commandOfToken_14 : decode cX3_commandOfToken 14 = .ok (.invokevirtual 130, 3) := by decide +kernel
theorem dX3_commandOfToken_17 : decode cX3_commandOfToken 17 = .ok (.ifCond .eq 5, 3) := by decide +kernel
theorem dX3_commandOfToken_20 : decode cX3_commandOfToken 20 = .ok (.iconst 2, 1) := by decide +kernel
theorem dX3_commandOfToken_21 : decode cX3_commandOfToken 21 = .ok (.ireturn, 1) := by decide +kernel
theorem dX3_commandOfToken_22 : decode cX3_commandOfToken 22 = .ok (.aload_n 0, 1) := by decide +kernel
theorem dX3_commandOfToken_23 : decode cX3_commandOfToken 23 = .ok (.ldc 151, 2) := by decide +kernel
theorem dX3_commandOfToken_25 : decode cX3_commandOfToken 25 = .ok (.invokevirtual 130, 3) := by decide +kernel
theorem dX3_commandOfToken_28 : decode cX3_commandOfToken 28 = .ok (.ifCond .eq 5, 3) := by decide +kernel
theorem dX3_commandOfToken_31 : decode cX3_commandOfToken 31 = .ok (.iconst 3, 1) := by decide +kernel
theorem dX3_commandOfToken_32 : decode cX3_commandOfToken 32 = .ok (.ireturn, 1) := by decide +kernel
theorem dX3_commandOfToken_33 : decode cX3_commandOfToken 33 = .ok (.aload_n 0, 1) := by decide +kernel
theorem dX3_commandOfToken_34 : decode cX3_commandOfToken 34 = .ok (.ldc 153, 2) := by decide +kernel
theorem dX3_commandOfToken_36 : decode cX3_commandOfToken 36 = .ok (.invokevirtual 130, 3) := by decide +kernel
theorem dX3_commandOfToken_39 : decode cX3_commandOfToken 39 = .ok (.ifCond .eq 5, 3) := by decide +kernel
theorem dX3_commandOfToken_42 : decode cX3_commandOfToken 42 = .ok (.iconst 4, 1) := by decide +kernel
theorem dX3_commandOfToken_43 : decode cX3_commandOfToken 43 = .ok (.ireturn, 1) := by decide +kernel
theorem dX3_commandOfToken_44 : decode cX3_commandOfToken 44 = .ok (.aload_n 0, 1) := by decide +kernel
theorem dX3_commandOfToken_45 : decode cX3_commandOfToken 45 = .ok (.ldc 155, 2) := by decide +kernel
theorem dX3_commandOfToken_47 : decode cX3_commandOfToken 47 = .ok (.invokevirtual 130, 3) := by decide +kernel
theorem dX3_commandOfToken_50 : decode cX3_commandOfToken 50 = .ok (.ifCond .eq 5, 3) := by decide +kernel
theorem dX3_commandOfToken_53 : decode cX3_commandOfToken 53 = .ok (.iconst 5, 1) := by decide +kernel
theorem dX3_commandOfToken_54 : decode cX3_commandOfToken 54 = .ok (.ireturn, 1) := by decide +kernel
theorem dX3_commandOfToken_55 : decode cX3_commandOfToken 55 = .ok (.aload_n 0, 1) := by decide +kernel
theorem dX3_commandOfToken_56 : decode cX3_commandOfToken 56 = .ok (.ldc 157, 2) := by decide +kernel
theorem dX3_commandOfToken_58 : decode cX3_commandOfToken 58 = .ok (.invokevirtual 130, 3) := by decide +kernel
theorem dX3_commandOfToken_61 : decode cX3_commandOfToken 61 = .ok (.ifCond .eq 6, 3) := by decide +kernel
theorem dX3_commandOfToken_64 : decode cX3_commandOfToken 64 = .ok (.bipush 6, 2) := by decide +kernel
theorem dX3_commandOfToken_66 : decode cX3_commandOfToken 66 = .ok (.ireturn, 1) := by decide +kernel
theorem dX3_commandOfToken_67 : decode cX3_commandOfToken 67 = .ok (.aload_n 0, 1) := by decide +kernel
theorem dX3_commandOfToken_68 : decode cX3_commandOfToken 68 = .ok (.ldc 159, 2) := by decide +kernel
theorem dX3_commandOfToken_70 : decode cX3_commandOfToken 70 = .ok (.invokevirtual 130, 3) := by decide +kernel
theorem dX3_commandOfToken_73 : decode cX3_commandOfToken 73 = .ok (.ifCond .eq 6, 3) := by decide +kernel
theorem dX3_commandOfToken_76 : decode cX3_commandOfToken 76 = .ok (.bipush 7, 2) := by decide +kernel
theorem dX3_commandOfToken_78 : decode cX3_commandOfToken 78 = .ok (.ireturn, 1) := by decide +kernel
theorem dX3_commandOfToken_79 : decode cX3_commandOfToken 79 = .ok (.aload_n 0, 1) := by decide +kernel
theorem dX3_commandOfToken_80 : decode cX3_commandOfToken 80 = .ok (.ldc 161, 2) := by decide +kernel
theorem dX3_commandOfToken_82 : decode cX3_commandOfToken 82 = .ok (.invokevirtual 130, 3) := by decide +kernel
theorem dX3_commandOfToken_85 : decode cX3_commandOfToken 85 = .ok (.ifCond .eq 6, 3) := by decide +kernel
theorem dX3_commandOfToken_88 : decode cX3_commandOfToken 88 = .ok (.bipush 8, 2) := by decide +kernel
theorem dX3_commandOfToken_90 : decode cX3_commandOfToken 90 = .ok (.ireturn, 1) := by decide +kernel
theorem dX3_commandOfToken_91 : decode cX3_commandOfToken 91 = .ok (.aload_n 0, 1) := by decide +kernel
theorem dX3_commandOfToken_92 : decode cX3_commandOfToken 92 = .ok (.ldc 74, 2) := by decide +kernel
theorem dX3_commandOfToken_94 : decode cX3_commandOfToken 94 = .ok (.invokevirtual 130, 3) := by decide +kernel
theorem dX3_commandOfToken_97 : decode cX3_commandOfToken 97 = .ok (.ifCond .eq 6, 3) := by decide +kernel
theorem dX3_commandOfToken_100 : decode cX3_commandOfToken 100 = .ok (.bipush 9, 2) := by decide +kernel
theorem dX3_commandOfToken_102 : decode cX3_commandOfToken 102 = .ok (.ireturn, 1) := by decide +kernel
theorem dX3_commandOfToken_103 : decode cX3_commandOfToken 103 = .ok (.aload_n 0, 1) := by decide +kernel
theorem dX3_commandOfToken_104 : decode cX3_commandOfToken 104 = .ok (.ldc 163, 2) := by decide +kernel
theorem dX3_commandOfToken_106 : decode cX3_commandOfToken 106 = .ok (.invokevirtual 130, 3) := by decide +kernel
theorem dX3_commandOfToken_109 : decode cX3_commandOfToken 109 = .ok (.ifCond .eq 8, 3) := by decide +kernel
theorem dX3_commandOfToken_112 : decode cX3_commandOfToken 112 = .ok (.bipush 10, 2) := by decide +kernel
theorem dX3_commandOfToken_114 : decode cX3_commandOfToken 114 = .ok (.goto 4, 3) := by decide +kernel
theorem dX3_commandOfToken_117 : decode cX3_commandOfToken 117 = .ok (.iconst 0, 1) := by decide +kernel
theorem dX3_commandOfToken_118 : decode cX3_commandOfToken 118 = .ok (.ireturn, 1) := by decide +kernel
theorem dX3_hasNoPlace_0 : decode cX3_hasNoPlace 0 = .ok (.aload_n 0, 1) := by decide +kernel
theorem dX3_hasNoPlace_1 : decode cX3_hasNoPlace 1 = .ok (.getfield 141, 3) := by decide +kernel
theorem dX3_hasNoPlace_4 : decode cX3_hasNoPlace 4 = .ok (.lookupswitch 85 #[(1, 36), (7, 51), (8, 68)], 36) := by decide +kernel
theorem dX3_hasNoPlace_40 : decode cX3_hasNoPlace 40 = .ok (.aload_n 1, 1) := by decide +kernel
theorem dX3_hasNoPlace_41 : decode cX3_hasNoPlace 41 = .ok (.getfield 165, 3) := by decide +kernel
theorem dX3_hasNoPlace_44 : decode cX3_hasNoPlace 44 = .ok (.bipush 10, 2) := by decide +kernel
theorem dX3_hasNoPlace_46 : decode cX3_hasNoPlace 46 = .ok (.if_icmp .ne 7, 3) := by decide +kernel
theorem dX3_hasNoPlace_49 : decode cX3_hasNoPlace 49 = .ok (.iconst 1, 1) := by decide +kernel
theorem dX3_hasNoPlace_50 : decode cX3_hasNoPlace 50 = .ok (.goto 4, 3) := by decide +kernel
theorem dX3_hasNoPlace_53 : decode cX3_hasNoPlace 53 = .ok (.iconst 0, 1) := by decide +kernel
theorem dX3_hasNoPlace_54 : decode cX3_hasNoPlace 54 = .ok (.ireturn, 1) := by decide +kernel
theorem dX3_hasNoPlace_55 : decode cX3_hasNoPlace 55 = .ok (.aload_n 1, 1) := by decide +kernel
theorem dX3_hasNoPlace_56 : decode cX3_hasNoPlace 56 = .ok (.getfield 76, 3) := by decide +kernel
theorem dX3_hasNoPlace_59 : decode cX3_hasNoPlace 59 = .ok (.getfield 168, 3) := by decide +kernel
theorem dX3_hasNoPlace_62 : decode cX3_hasNoPlace 62 = .ok (.iconst 4, 1) := by decide +kernel
theorem dX3_hasNoPlace_63 : decode cX3_hasNoPlace 63 = .ok (.if_icmp .ne 7, 3) := by decide +kernel
theorem dX3_hasNoPlace_66 : decode cX3_hasNoPlace 66 = .ok (.iconst 1, 1) := by decide +kernel
theorem dX3_hasNoPlace_67 : decode cX3_hasNoPlace 67 = .ok (.goto 4, 3) := by decide +kernel
theorem dX3_hasNoPlace_70 : decode cX3_hasNoPlace 70 = .ok (.iconst 0, 1) := by decide +kernel
theorem dX3_hasNoPlace_71 : decode cX3_hasNoPlace 71 = .ok (.ireturn, 1) := by decide +kernel
theorem dX3_hasNoPlace_72 : decode cX3_hasNoPlace 72 = .ok (.aload_n 1, 1) := by decide +kernel
theorem dX3_hasNoPlace_73 : decode cX3_hasNoPlace 73 = .ok (.getfield 76, 3) := by decide +kernel
theorem dX3_hasNoPlace_76 : decode cX3_hasNoPlace 76 = .ok (.getfield 171, 3) := by decide +kernel
theorem dX3_hasNoPlace_79 : decode cX3_hasNoPlace 79 = .ok (.iconst 4, 1) := by decide +kernel
theorem dX3_hasNoPlace_80 : decode cX3_hasNoPlace 80 = .ok (.if_icmp .ne 7, 3) := by decide +kernel
theorem dX3_hasNoPlace_83 : decode cX3_hasNoPlace 83 = .ok (.iconst 1, 1) := by decide +kernel
theorem dX3_hasNoPlace_84 : decode cX3_hasNoPlace 84 = .ok (.goto 4, 3) := by decide +kernel
theorem dX3_hasNoPlace_87 : decode cX3_hasNoPlace 87 = .ok (.iconst 0, 1) := by decide +kernel
theorem dX3_hasNoPlace_88 : decode cX3_hasNoPlace 88 = .ok (.ireturn, 1) := by decide +kernel
theorem dX3_hasNoPlace_89 : decode cX3_hasNoPlace 89 = .ok (.iconst 0, 1) := by decide +kernel
theorem dX3_hasNoPlace_90 : decode cX3_hasNoPlace 90 = .ok (.ireturn, 1) := by decide +kernel
theorem dX3_readArguments_0 : decode cX3_readArguments 0 = .ok (.aload_n 1, 1) := by decide +kernel
theorem dX3_readArguments_1 : decode cX3_readArguments 1 = .ok (.getfield 165, 3) := by decide +kernel
theorem dX3_readArguments_4 : decode cX3_readArguments 4 = .ok (.iconst 1, 1) := by decide +kernel
theorem dX3_readArguments_5 : decode cX3_readArguments 5 = .ok (.isub, 1) := by decide +kernel
theorem dX3_readArguments_6 : decode cX3_readArguments 6 = .ok (.istore_n 2, 1) := by decide +kernel
theorem dX3_readArguments_7 : decode cX3_readArguments 7 = .ok (.aload_n 0, 1) := by decide +kernel
theorem dX3_readArguments_8 : decode cX3_readArguments 8 = .ok (.getfield 141, 3) := by decide +kernel
theorem dX3_readArguments_11 : decode cX3_readArguments 11 = .ok (.tableswitch 302 1 10 #[53, 108, 302, 302, 302, 155, 182, 223, 258, 292], 53) := by decide +kernel
theorem dX3_readArguments_64 : decode cX3_readArguments 64 = .ok (.aload_n 0, 1) := by decide +kernel
theorem dX3_readArguments_65 : decode cX3_readArguments 65 = .ok (.iconst 0, 1) := by decide +kernel
theorem dX3_readArguments_66 : decode cX3_readArguments 66 = .ok (.iconst 1, 1) := by decide +kernel
theorem dX3_readArguments_67 : decode cX3_readArguments 67 = .ok (.bipush 6, 2) := by decide +kernel
theorem dX3_readArguments_69 : decode cX3_readArguments 69 = .ok (.invokevirtual 60, 3) := by decide +kernel
theorem dX3_readArguments_72 : decode cX3_readArguments 72 = .ok (.ifCond .eq 45, 3) := by decide +kernel
theorem dX3_readArguments_75 : decode cX3_readArguments 75 = .ok (.aload_n 0, 1) := by decide +kernel
theorem dX3_readArguments_76 : decode cX3_readArguments 76 = .ok (.iconst 1, 1) := by decide +kernel
theorem dX3_readArguments_77 : decode cX3_readArguments 77 = .ok (.iconst 1, 1) := by decide +kernel
theorem dX3_readArguments_78 : decode cX3_readArguments 78 = .ok (.bipush 99, 2) := by decide +kernel
theorem dX3_readArguments_80 : decode cX3_readArguments 80 = .ok (.invokevirtual 60, 3) := by decide +kernel
theorem dX3_readArguments_83 : decode cX3_readArguments 83 = .ok (.ifCond .eq 34, 3) := by decide +kernel
theorem dX3_readArguments_86 : decode cX3_readArguments 86 = .ok (.aload_n 0, 1) := by decide +kernel
theorem dX3_readArguments_87 : decode cX3_readArguments 87 = .ok (.iconst 2, 1) := by decide +kernel
theorem dX3_readArguments_88 : decode cX3_readArguments 88 = .ok (.iconst 1, 1) := by decide +kernel
theorem dX3_readArguments_89 : decode cX3_readArguments 89 = .ok (.sipush 999, 3) := by decide +kernel
theorem dX3_readArguments_92 : decode cX3_readArguments 92 = .ok (.invokevirtual 60, 3) := by decide +kernel
theorem dX3_readArguments_95 : decode cX3_readArguments 95 = .ok (.ifCond .eq 22, 3) := by decide +kernel
theorem dX3_readArguments_98 : decode cX3_readArguments 98 = .ok (.aload_n 0, 1) := by decide +kernel
theorem dX3_readArguments_99 : decode cX3_readArguments 99 = .ok (.iconst 3, 1) := by decide +kernel
theorem dX3_readArguments_100 : decode cX3_readArguments 100 = .ok (.iconst 0, 1) := by decide +kernel
theorem dX3_readArguments_101 : decode cX3_readArguments 101 = .ok (.aload_n 0, 1) := by decide +kernel
theorem dX3_readArguments_102 : decode cX3_readArguments 102 = .ok (.getfield 15, 3) := by decide +kernel
theorem dX3_readArguments_105 : decode cX3_readArguments 105 = .ok (.iconst 2, 1) := by decide +kernel
theorem dX3_readArguments_106 : decode cX3_readArguments 106 = .ok (.iaload, 1) := by decide +kernel
theorem dX3_readArguments_107 : decode cX3_readArguments 107 = .ok (.invokevirtual 60, 3) := by decide +kernel
theorem dX3_readArguments_110 : decode cX3_readArguments 110 = .ok (.ifCond .eq 7, 3) := by decide +kernel
theorem dX3_readArguments_113 : decode cX3_readArguments 113 = .ok (.iconst 1, 1) := by decide +kernel
theorem dX3_readArguments_114 : decode cX3_readArguments 114 = .ok (.goto 4, 3) := by decide +kernel
theorem dX3_readArguments_117 : decode cX3_readArguments 117 = .ok (.iconst 0, 1) := by decide +kernel
theorem dX3_readArguments_118 : decode cX3_readArguments 118 = .ok (.ireturn, 1) := by decide +kernel
theorem dX3_readArguments_119 : decode cX3_readArguments 119 = .ok (.aload_n 0, 1) := by decide +kernel
theorem dX3_readArguments_120 : decode cX3_readArguments 120 = .ok (.iconst 0, 1) := by decide +kernel
theorem dX3_readArguments_121 : decode cX3_readArguments 121 = .ok (.iconst 0, 1) := by decide +kernel
theorem dX3_readArguments_122 : decode cX3_readArguments 122 = .ok (.iload_n 2, 1) := by decide +kernel
theorem dX3_readArguments_123 : decode cX3_readArguments 123 = .ok (.invokevirtual 60, 3) := by decide +kernel
theorem dX3_readArguments_126 : decode cX3_readArguments 126 = .ok (.ifCond .eq 38, 3) := by decide +kernel
theorem dX3_readArguments_129 : decode cX3_readArguments 129 = .ok (.aload_n 0, 1) := by decide +kernel
theorem dX3_readArguments_130 : decode cX3_readArguments 130 = .ok (.iconst 1, 1) := by decide +kernel
theorem dX3_readArguments_131 : decode cX3_readArguments 131 = .ok (.iconst 0, 1) := by decide +kernel
theorem dX3_readArguments_132 : decode cX3_readArguments 132 = .ok (.bipush 23, 2) := by decide +kernel
theorem dX3_readArguments_134 : decode cX3_readArguments 134 = .ok (.invokevirtual 60, 3) := by decide +kernel
theorem dX3_readArguments_137 : decode cX3_readArguments 137 = .ok (.ifCond .eq 27, 3) := by decide +kernel
theorem dX3_readArguments_140 : decode cX3_readArguments 140 = .ok (.aload_n 0, 1) := by decide +kernel
theorem dX3_readArguments_141 : decode cX3_readArguments 141 = .ok (.iconst 2, 1) := by decide +kernel
theorem dX3_readArguments_142 : decode cX3_readArguments 142 = .ok (.iconst 0, 1) := by decide +kernel
theorem dX3_readArguments_143 : decode cX3_readArguments 143 = .ok (.iconst 4, 1) := by decide +kernel
theorem dX3_readArguments_144 : decode cX3_readArguments 144 = .ok (.invokevirtual 60, 3) := by decide +kernel
theorem dX3_readArguments_147 : decode cX3_readArguments 147 = .ok (.ifCond .eq 17, 3) := by decide +kernel
theorem dX3_readArguments_150 : decode cX3_readArguments 150 = .ok (.aload_n 0, 1) := by decide +kernel
theorem dX3_readArguments_151 : decode cX3_readArguments 151 = .ok (.iconst 3, 1) := by decide +kernel
theorem dX3_readArguments_152 : decode cX3_readArguments 152 = .ok (.iconst 0, 1) := by decide +kernel
theorem dX3_readArguments_153 : decode cX3_readArguments 153 = .ok (.iconst 4, 1) := by decide +kernel
theorem dX3_readArguments_154 : decode cX3_readArguments 154 = .ok (.invokevirtual 60, 3) := by decide +kernel
theorem dX3_readArguments_157 : decode cX3_readArguments 157 = .ok (.ifCond .eq 7, 3) := by decide +kernel
theorem dX3_readArguments_160 : decode cX3_readArguments 160 = .ok (.iconst 1, 1) := by decide +kernel
theorem dX3_readArguments_161 : decode cX3_readArguments 161 = .ok (.goto 4, 3) := by decide +kernel
theorem dX3_readArguments_164 : decode cX3_readArguments 164 = .ok (.iconst 0, 1) := by decide +kernel
theorem dX3_readArguments_165 : decode cX3_readArguments 165 = .ok (.ireturn, 1) := by decide +kernel
theorem dX3_readArguments_166 : decode cX3_readArguments 166 = .ok (.aload_n 0, 1) := by decide +kernel
theorem dX3_readArguments_167 : decode cX3_readArguments 167 = .ok (.iconst 0, 1) := by decide +kernel
theorem dX3_readArguments_168 : decode cX3_readArguments 168 = .ok (.iconst 0, 1) := by decide +kernel
theorem dX3_readArguments_169 : decode cX3_readArguments 169 = .ok (.iload_n 2, 1) := by decide +kernel
theorem dX3_readArguments_170 : decode cX3_readArguments 170 = .ok (.invokevirtual 60, 3) := by decide +kernel
theorem dX3_readArguments_173 : decode cX3_readArguments 173 = .ok (.ifCond .eq 18, 3) := by decide +kernel
theorem dX3_readArguments_176 : decode cX3_readArguments 176 = .ok (.aload_n 0, 1) := by decide +kernel
theorem dX3_readArguments_177 : decode cX3_readArguments 177 = .ok (.iconst 1, 1) := by decide +kernel
theorem dX3_readArguments_178 : decode cX3_readArguments 178 = .ok (.iconst 0, 1) := by decide +kernel
theorem dX3_readArguments_179 : decode cX3_readArguments 179 = .ok (.bipush 23, 2) := by decide +kernel
theorem dX3_readArguments_181 : decode cX3_readArguments 181 = .ok (.invokevirtual 60, 3) := by decide +kernel
theorem dX3_readArguments_184 : decode cX3_readArguments 184 = .ok (.ifCond .eq 7, 3) := by decide +kernel
theorem dX3_readArguments_187 : decode cX3_readArguments 187 = .ok (.iconst 1, 1) := by decide +kernel
theorem dX3_readArguments_188 : decode cX3_readArguments 188 = .ok (.goto 4, 3) := by decide +kernel
theorem dX3_readArguments_191 : decode cX3_readArguments 191 = .ok (.iconst 0, 1) := by decide +kernel
theorem dX3_readArguments_192 : decode cX3_readArguments 192 = .ok (.ireturn, 1) := by decide +kernel
theorem dX3_readArguments_193 : decode cX3_readArguments 193 = .ok (.aload_n 0, 1) := by decide +kernel
theorem dX3_readArguments_194 : decode cX3_readArguments 194 = .ok (.iconst 0, 1) := by decide +kernel
theorem dX3_readArguments_195 : decode cX3_readArguments 195 = .ok (.iconst 0, 1) := by decide +kernel
theorem dX3_readArguments_196 : decode cX3_readArguments 196 = .ok (.sipush 9999, 3) := by decide +kernel
theorem dX3_readArguments_199 : decode cX3_readArguments 199 = .ok (.invokevirtual 60, 3) := by decide +kernel
theorem dX3_readArguments_202 : decode cX3_readArguments 202 = .ok (.ifCond .eq 30, 3) := by decide +kernel
theorem dX3_readArguments_205 : decode cX3_readArguments 205 = .ok (.aload_n 0, 1) := by decide +kernel
theorem dX3_readArguments_206 : decode cX3_readArguments 206 = .ok (.iconst 1, 1) := by decide +kernel
theorem dX3_readArguments_207 : decode cX3_readArguments 207 = .ok (.iconst 1, 1) := by decide +kernel
theorem dX3_readArguments_208 : decode cX3_readArguments 208 = .ok (.sipush 200, 3) := by decide +kernel
theorem dX3_readArguments_211 : decode cX3_readArguments 211 = .ok (.invokevirtual 60, 3) := by decide +kernel
theorem dX3_readArguments_214 : decode cX3_readArguments 214 = .ok (.ifCond .eq 18, 3) := by decide +kernel
theorem dX3_readArguments_217 : decode cX3_readArguments 217 = .ok (.aload_n 0, 1) := by decide +kernel
theorem dX3_readArguments_218 : decode cX3_readArguments 218 = .ok (.iconst 2, 1) := by decide +kernel
theorem dX3_readArguments_219 : decode cX3_readArguments 219 = .ok (.iconst 1, 1) := by decide +kernel
theorem dX3_readArguments_220 : decode cX3_readArguments 220 = .ok (.bipush 20, 2) := by decide +kernel
theorem dX3_readArguments_222 : decode cX3_readArguments 222 = .ok (.invokevirtual 60, 3) := by decide +kernel
theorem dX3_readArguments_225 : decode cX3_readArguments 225 = .ok (.ifCond .eq 7, 3) := by decide +kernel
theorem dX3_readArguments_228 : decode cX3_readArguments 228 = .ok (.iconst 1, 1) := by decide +kernel
theorem dX3_readArguments_229 : decode cX3_readArguments 229 = .ok (.goto 4, 3) := by decide +kernel
theorem dX3_readArguments_232 : decode cX3_readArguments 232 = .ok (.iconst 0, 1) := by decide +kernel
theorem dX3_readArguments_233 : decode cX3_readArguments 233 = .ok (.ireturn, 1) := by decide +kernel
theorem dX3_readArguments_234 : decode cX3_readArguments 234 = .ok (.aload_n 0, 1) := by decide +kernel
theorem dX3_readArguments_235 : decode cX3_readArguments 235 = .ok (.iconst 0, 1) := by decide +kernel
theorem dX3_readArguments_236 : decode cX3_readArguments 236 = .ok (.iconst 0, 1) := by decide +kernel
theorem dX3_readArguments_237 : decode cX3_readArguments 237 = .ok (.sipush 9999, 3) := by decide +kernel
theorem dX3_readArguments_240 : decode cX3_readArguments 240 = .ok (.invokevirtual 60, 3) := by decide +kernel
theorem dX3_readArguments_243 : decode cX3_readArguments 243 = .ok (.ifCond .eq 24, 3) := by decide +kernel
theorem dX3_readArguments_246 : decode cX3_readArguments 246 = .ok (.aload_n 0, 1) := by decide +kernel
theorem dX3_readArguments_247 : decode cX3_readArguments 247 = .ok (.iconst 1, 1) := by decide +kernel
theorem dX3_readArguments_248 : decode cX3_readArguments 248 = .ok (.aload_n 0, 1) := by decide +kernel
theorem dX3_readArguments_249 : decode cX3_readArguments 249 = .ok (.getfield 15, 3) := by decide +kernel
theorem dX3_readArguments_252 : decode cX3_readArguments 252 = .ok (.iconst 0, 1) := by decide +kernel
theorem dX3_readArguments_253 : decode cX3_readArguments 253 = .ok (.iaload, 1) := by decide +kernel
theorem dX3_readArguments_254 : decode cX3_readArguments 254 = .ok (.sipush 9999, 3) := by decide +kernel
theorem dX3_readArguments_257 : decode cX3_readArguments 257 = .ok (.invokevirtual 60, 3) := by decide +kernel
theorem dX3_readArguments_260 : decode cX3_readArguments 260 = .ok (.ifCond .eq 7, 3) := by decide +kernel
theorem dX3_readArguments_263 : decode cX3_readArguments 263 = .ok (.iconst 1, 1) := by decide +kernel
theorem dX3_readArguments_264 : decode cX3_readArguments 264 = .ok (.goto 4, 3) := by decide +kernel
theorem dX3_readArguments_267 : decode cX3_readArguments 267 = .ok (.iconst 0, 1) := by decide +kernel
theorem dX3_readArguments_268 : decode cX3_readArguments 268 = .ok (.ireturn, 1) := by decide +kernel
theorem dX3_readArguments_269 : decode cX3_readArguments 269 = .ok (.aload_n 0, 1) := by decide +kernel
theorem dX3_readArguments_270 : decode cX3_readArguments 270 = .ok (.iconst 0, 1) := by decide +kernel
theorem dX3_readArguments_271 : decode cX3_readArguments 271 = .ok (.iconst 0, 1) := by decide +kernel
theorem dX3_readArguments_272 : decode cX3_readArguments 272 = .ok (.aload_n 1, 1) := by decide +kernel
theorem dX3_readArguments_273 : decode cX3_readArguments 273 = .ok (.getfield 76, 3) := by decide +kernel
theorem dX3_readArguments_276 : decode cX3_readArguments 276 = .ok (.getfield 174, 3) := by decide +kernel
theorem dX3_readArguments_279 : decode cX3_readArguments 279 = .ok (.iconst 1, 1) := by decide +kernel
theorem dX3_readArguments_280 : decode cX3_readArguments 280 = .ok (.isub, 1) := by decide +kernel
theorem dX3_readArguments_281 : decode cX3_readArguments 281 = .ok (.invokevirtual 60, 3) := by decide +kernel
theorem dX3_readArguments_284 : decode cX3_readArguments 284 = .ok (.ifCond .eq 17, 3) := by decide +kernel
theorem dX3_readArguments_287 : decode cX3_readArguments 287 = .ok (.aload_n 0, 1) := by decide +kernel
theorem dX3_readArguments_288 : decode cX3_readArguments 288 = .ok (.iconst 1, 1) := by decide +kernel
theorem dX3_readArguments_289 : decode cX3_readArguments 289 = .ok (.iconst 0, 1) := by decide +kernel
theorem dX3_readArguments_290 : decode cX3_readArguments 290 = .ok (.iconst 5, 1) := by decide +kernel
theorem dX3_readArguments_291 : decode cX3_readArguments 291 = .ok (.invokevirtual 60, 3) := by decide +kernel
theorem dX3_readArguments_294 : decode cX3_readArguments 294 = .ok (.ifCond .eq 7, 3) := by decide +kernel
theorem dX3_readArguments_297 : decode cX3_readArguments 297 = .ok (.iconst 1, 1) := by decide +kernel
theorem dX3_readArguments_298 : decode cX3_readArguments 298 = .ok (.goto 4, 3) := by decide +kernel
theorem dX3_readArguments_301 : decode cX3_readArguments 301 = .ok (.iconst 0, 1) := by decide +kernel
theorem dX3_readArguments_302 : decode cX3_readArguments 302 = .ok (.ireturn, 1) := by decide +kernel
theorem dX3_readArguments_303 : decode cX3_readArguments 303 = .ok (.aload_n 0, 1) := by decide +kernel
theorem dX3_readArguments_304 : decode cX3_readArguments 304 = .ok (.iconst 0, 1) := by decide +kernel
theorem dX3_readArguments_305 : decode cX3_readArguments 305 = .ok (.iconst 1, 1) := by decide +kernel
theorem dX3_readArguments_306 : decode cX3_readArguments 306 = .ok (.sipush 200, 3) := by decide +kernel
theorem dX3_readArguments_309 : decode cX3_readArguments 309 = .ok (.invokevirtual 60, 3) := by decide +kernel
theorem dX3_readArguments_312 : decode cX3_readArguments 312 = .ok (.ireturn, 1) := by decide +kernel
theorem dX3_readArguments_313 : decode cX3_readArguments 313 = .ok (.aload_n 0, 1) := by decide +kernel
theorem dX3_readArguments_314 : decode cX3_readArguments 314 = .ok (.iconst 0, 1) := by decide +kernel
theorem dX3_readArguments_315 : decode cX3_readArguments 315 = .ok (.iconst 0, 1) := by decide +kernel
theorem dX3_readArguments_316 : decode cX3_readArguments 316 = .ok (.iload_n 2, 1) := by decide +kernel
theorem dX3_readArguments_317 : decode cX3_readArguments 317 = .ok (.invokevirtual 60, 3) := by decide +kernel
theorem dX3_readArguments_320 : decode cX3_readArguments 320 = .ok (.ireturn, 1) := by decide +kernel
theorem dX3_execute_0 : decode cX3_execute 0 = .ok (.aload_n 0, 1) := by decide +kernel
theorem dX3_execute_1 : decode cX3_execute 1 = .ok (.getfield 141, 3) := by decide +kernel
theorem dX3_execute_4 : decode cX3_execute 4 = .ok (.tableswitch 169 1 10 #[56, 169, 169, 169, 169, 169, 86, 113, 134, 156], 56) := by decide +kernel
theorem dX3_execute_60 : decode cX3_execute 60 = .ok (.aload_n 1, 1) := by decide +kernel
theorem dX3_execute_61 : decode cX3_execute 61 = .ok (.aload_n 0, 1) := by decide +kernel
theorem dX3_execute_62 : decode cX3_execute 62 = .ok (.getfield 15, 3) := by decide +kernel
theorem dX3_execute_65 : decode cX3_execute 65 = .ok (.iconst 0, 1) := by decide +kernel
theorem dX3_execute_66 : decode cX3_execute 66 = .ok (.iaload, 1) := by decide +kernel
theorem dX3_execute_67 : decode cX3_execute 67 = .ok (.aload_n 0, 1) := by decide +kernel
theorem dX3_execute_68 : decode cX3_execute 68 = .ok (.getfield 15, 3) := by decide +kernel
theorem dX3_execute_71 : decode cX3_execute 71 = .ok (.iconst 1, 1) := by decide +kernel
theorem dX3_execute_72 : decode cX3_execute 72 = .ok (.iaload, 1) := by decide +kernel
theorem dX3_execute_73 : decode cX3_execute 73 = .ok (.aload_n 0, 1) := by decide +kernel
theorem dX3_execute_74 : decode cX3_execute 74 = .ok (.getfield 15, 3) := by decide +kernel
theorem dX3_execute_77 : decode cX3_execute 77 = .ok (.iconst 2, 1) := by decide +kernel
theorem dX3_execute_78 : decode cX3_execute 78 = .ok (.iaload, 1) := by decide +kernel
theorem dX3_execute_79 : decode cX3_execute 79 = .ok (.aload_n 0, 1) := by decide +kernel
theorem dX3_execute_80 : decode cX3_execute 80 = .ok (.getfield 15, 3) := by decide +kernel
theorem dX3_execute_83 : decode cX3_execute 83 = .ok (.iconst 3, 1) := by decide +kernel
theorem dX3_execute_84 : decode cX3_execute 84 = .ok (.iaload, 1) := by decide +kernel
theorem dX3_execute_85 : decode cX3_execute 85 = .ok (.invokevirtual 177, 3) := by decide +kernel
theorem dX3_execute_88 : decode cX3_execute 88 = .ok (.iconst 1, 1) := by decide +kernel
theorem dX3_execute_89 : decode cX3_execute 89 = .ok (.ireturn, 1) := by decide +kernel
theorem dX3_execute_90 : decode cX3_execute 90 = .ok (.aload_n 1, 1) := by decide +kernel
theorem dX3_execute_91 : decode cX3_execute 91 = .ok (.getfield 76, 3) := by decide +kernel
theorem dX3_execute_94 : decode cX3_execute 94 = .ok (.aload_n 0, 1) := by decide +kernel
theorem dX3_execute_95 : decode cX3_execute 95 = .ok (.getfield 15, 3) := by decide +kernel
theorem dX3_execute_98 : decode cX3_execute 98 = .ok (.iconst 0, 1) := by decide +kernel
theorem dX3_execute_99 : decode cX3_execute 99 = .ok (.iaload, 1) := by decide +kernel
theorem dX3_execute_100 : decode cX3_execute 100 = .ok (.aload_n 0, 1) := by decide +kernel
theorem dX3_execute_101 : decode cX3_execute 101 = .ok (.getfield 15, 3) := by decide +kernel
theorem dX3_execute_104 : decode cX3_execute 104 = .ok (.iconst 1, 1) := by decide +kernel
theorem dX3_execute_105 : decode cX3_execute 105 = .ok (.iaload, 1) := by decide +kernel
theorem dX3_execute_106 : decode cX3_execute 106 = .ok (.aload_n 0, 1) := by decide +kernel
theorem dX3_execute_107 : decode cX3_execute 107 = .ok (.getfield 15, 3) := by decide +kernel
theorem dX3_execute_110 : decode cX3_execute 110 = .ok (.iconst 2, 1) := by decide +kernel
theorem dX3_execute_111 : decode cX3_execute 111 = .ok (.iaload, 1) := by decide +kernel
theorem dX3_execute_112 : decode cX3_execute 112 = .ok (.invokevirtual 181, 3) := by decide +kernel
theorem dX3_execute_115 : decode cX3_execute 115 = .ok (.iconst 1, 1) := by decide +kernel
theorem dX3_execute_116 : decode cX3_execute 116 = .ok (.ireturn, 1) := by decide +kernel
theorem dX3_execute_117 : decode cX3_execute 117 = .ok (.aload_n 1, 1) := by decide +kernel
theorem dX3_execute_118 : decode cX3_execute 118 = .ok (.getfield 76, 3) := by decide +kernel
theorem dX3_execute_121 : decode cX3_execute 121 = .ok (.aload_n 0, 1) := by decide +kernel
theorem dX3_execute_122 : decode cX3_execute 122 = .ok (.getfield 15, 3) := by decide +kernel
theorem dX3_execute_125 : decode cX3_execute 125 = .ok (.iconst 0, 1) := by decide +kernel
theorem dX3_execute_126 : decode cX3_execute 126 = .ok (.iaload, 1) := by decide +kernel
theorem dX3_execute_127 : decode cX3_execute 127 = .ok (.aload_n 0, 1) := by decide +kernel
theorem dX3_execute_128 : decode cX3_execute 128 = .ok (.getfield 15, 3) := by decide +kernel
theorem dX3_execute_131 : decode cX3_execute 131 = .ok (.iconst 1, 1) := by decide +kernel
theorem dX3_execute_132 : decode cX3_execute 132 = .ok (.iaload, 1) := by decide +kernel
theorem dX3_execute_133 : decode cX3_execute 133 = .ok (.invokevirtual 184, 3) := by decide +kernel
theorem dX3_execute_136 : decode cX3_execute 136 = .ok (.iconst 1, 1) := by decide +kernel
theorem dX3_execute_137 : decode cX3_execute 137 = .ok (.ireturn, 1) := by decide +kernel
theorem dX3_execute_138 : decode cX3_execute 138 = .ok (.aload_n 1, 1) := by decide +kernel
theorem dX3_execute_139 : decode cX3_execute 139 = .ok (.getfield 76, 3) := by decide +kernel
theorem dX3_execute_142 : decode cX3_execute 142 = .ok (.getfield 188, 3) := by decide +kernel
theorem dX3_execute_145 : decode cX3_execute 145 = .ok (.aload_n 0, 1) := by decide +kernel
theorem dX3_execute_146 : decode cX3_execute 146 = .ok (.getfield 15, 3) := by decide +kernel
theorem dX3_execute_149 : decode cX3_execute 149 = .ok (.iconst 0, 1) := by decide +kernel
theorem dX3_execute_150 : decode cX3_execute 150 = .ok (.iaload, 1) := by decide +kernel
theorem dX3_execute_151 : decode cX3_execute 151 = .ok (.aload_n 0, 1) := by decide +kernel
theorem dX3_execute_152 : decode cX3_execute 152 = .ok (.getfield 15, 3) := by decide +kernel
theorem dX3_execute_155 : decode cX3_execute 155 = .ok (.iconst 1, 1) := by decide +kernel
theorem dX3_execute_156 : decode cX3_execute 156 = .ok (.iaload, 1) := by decide +kernel
theorem dX3_execute_157 : decode cX3_execute 157 = .ok (.iastore, 1) := by decide +kernel
theorem dX3_execute_158 : decode cX3_execute 158 = .ok (.iconst 1, 1) := by decide +kernel
theorem dX3_execute_159 : decode cX3_execute 159 = .ok (.ireturn, 1) := by decide +kernel
theorem dX3_execute_160 : decode cX3_execute 160 = .ok (.aload_n 1, 1) := by decide +kernel
theorem dX3_execute_161 : decode cX3_execute 161 = .ok (.aload_n 0, 1) := by decide +kernel
theorem dX3_execute_162 : decode cX3_execute 162 = .ok (.getfield 15, 3) := by decide +kernel
theorem dX3_execute_165 : decode cX3_execute 165 = .ok (.iconst 0, 1) := by decide +kernel
theorem dX3_execute_166 : decode cX3_execute 166 = .ok (.iaload, 1) := by decide +kernel
theorem dX3_execute_167 : decode cX3_execute 167 = .ok (.invokevirtual 191, 3) := by decide +kernel
theorem dX3_execute_170 : decode cX3_execute 170 = .ok (.pop, 1) := by decide +kernel
theorem dX3_execute_171 : decode cX3_execute 171 = .ok (.iconst 1, 1) := by decide +kernel
theorem dX3_execute_172 : decode cX3_execute 172 = .ok (.ireturn, 1) := by decide +kernel
theorem dX3_execute_173 : decode cX3_execute 173 = .ok (.aload_n 0, 1) := by decide +kernel
theorem dX3_execute_174 : decode cX3_execute 174 = .ok (.aload_n 1, 1) := by decide +kernel
theorem dX3_execute_175 : decode cX3_execute 175 = .ok (.aload_n 1, 1) := by decide +kernel
theorem dX3_execute_176 : decode cX3_execute 176 = .ok (.getfield 194, 3) := by decide +kernel
theorem dX3_execute_179 : decode cX3_execute 179 = .ok (.aload_n 0, 1) := by decide +kernel
theorem dX3_execute_180 : decode cX3_execute 180 = .ok (.getfield 15, 3) := by decide +kernel
theorem dX3_execute_183 : decode cX3_execute 183 = .ok (.iconst 0, 1) := by decide +kernel
theorem dX3_execute_184 : decode cX3_execute 184 = .ok (.iaload, 1) := by decide +kernel
theorem dX3_execute_185 : decode cX3_execute 185 = .ok (.aaload, 1) := by decide +kernel
theorem dX3_execute_186 : decode cX3_execute 186 = .ok (.invokevirtual 198, 3) := by decide +kernel
theorem dX3_execute_189 : decode cX3_execute 189 = .ok (.ireturn, 1) := by decide +kernel
theorem dX3_handle_0 : decode cX3_handle 0 = .ok (.aload_n 0, 1) := by decide +kernel
theorem dX3_handle_1 : decode cX3_handle 1 = .ok (.getfield 141, 3) := by decide +kernel
theorem dX3_handle_4 : decode cX3_handle 4 = .ok (.tableswitch 131 2 6 #[36, 131, 131, 116, 88], 36) := by decide +kernel
theorem dX3_handle_40 : decode cX3_handle 40 = .ok (.aload_n 1, 1) := by decide +kernel
theorem dX3_handle_41 : decode cX3_handle 41 = .ok (.aload_n 2, 1) := by decide +kernel
theorem dX3_handle_42 : decode cX3_handle 42 = .ok (.aload_n 0, 1) := by decide +kernel
theorem dX3_handle_43 : decode cX3_handle 43 = .ok (.getfield 15, 3) := by decide +kernel
theorem dX3_handle_46 : decode cX3_handle 46 = .ok (.iconst 1, 1) := by decide +kernel
theorem dX3_handle_47 : decode cX3_handle 47 = .ok (.iaload, 1) := by decide +kernel
theorem dX3_handle_48 : decode cX3_handle 48 = .ok (.aload_n 0, 1) := by decide +kernel
theorem dX3_handle_49 : decode cX3_handle 49 = .ok (.getfield 15, 3) := by decide +kernel
theorem dX3_handle_52 : decode cX3_handle 52 = .ok (.iconst 2, 1) := by decide +kernel
theorem dX3_handle_53 : decode cX3_handle 53 = .ok (.iaload, 1) := by decide +kernel
theorem dX3_handle_54 : decode cX3_handle 54 = .ok (.aload_n 0, 1) := by decide +kernel
theorem dX3_handle_55 : decode cX3_handle 55 = .ok (.getfield 15, 3) := by decide +kernel
theorem dX3_handle_58 : decode cX3_handle 58 = .ok (.iconst 3, 1) := by decide +kernel
theorem dX3_handle_59 : decode cX3_handle 59 = .ok (.iaload, 1) := by decide +kernel
theorem dX3_handle_60 : decode cX3_handle 60 = .ok (.invokevirtual 202, 3) := by decide +kernel
theorem dX3_handle_63 : decode cX3_handle 63 = .ok (.ifCond .eq 5, 3) := by decide +kernel
theorem dX3_handle_66 : decode cX3_handle 66 = .ok (.iconst 0, 1) := by decide +kernel
theorem dX3_handle_67 : decode cX3_handle 67 = .ok (.ireturn, 1) := by decide +kernel
theorem dX3_handle_68 : decode cX3_handle 68 = .ok (.aload_n 2, 1) := by decide +kernel
theorem dX3_handle_69 : decode cX3_handle 69 = .ok (.aload_n 0, 1) := by decide +kernel
theorem dX3_handle_70 : decode cX3_handle 70 = .ok (.getfield 15, 3) := by decide +kernel
theorem dX3_handle_73 : decode cX3_handle 73 = .ok (.iconst 1, 1) := by decide +kernel
theorem dX3_handle_74 : decode cX3_handle 74 = .ok (.iaload, 1) := by decide +kernel
theorem dX3_handle_75 : decode cX3_handle 75 = .ok (.aload_n 0, 1) := by decide +kernel
theorem dX3_handle_76 : decode cX3_handle 76 = .ok (.getfield 15, 3) := by decide +kernel
theorem dX3_handle_79 : decode cX3_handle 79 = .ok (.iconst 2, 1) := by decide +kernel
theorem dX3_handle_80 : decode cX3_handle 80 = .ok (.iaload, 1) := by decide +kernel
theorem dX3_handle_81 : decode cX3_handle 81 = .ok (.aload_n 0, 1) := by decide +kernel
theorem dX3_handle_82 : decode cX3_handle 82 = .ok (.getfield 15, 3) := by decide +kernel
theorem dX3_handle_85 : decode cX3_handle 85 = .ok (.iconst 3, 1) := by decide +kernel
theorem dX3_handle_86 : decode cX3_handle 86 = .ok (.iaload, 1) := by decide +kernel
theorem dX3_handle_87 : decode cX3_handle 87 = .ok (.invokevirtual 206, 3) := by decide +kernel
theorem dX3_handle_90 : decode cX3_handle 90 = .ok (.iconst 1, 1) := by decide +kernel
theorem dX3_handle_91 : decode cX3_handle 91 = .ok (.ireturn, 1) := by decide +kernel
theorem dX3_handle_92 : decode cX3_handle 92 = .ok (.aload_n 1, 1) := by decide +kernel
theorem dX3_handle_93 : decode cX3_handle 93 = .ok (.aload_n 2, 1) := by decide +kernel
theorem dX3_handle_94 : decode cX3_handle 94 = .ok (.aload_n 0, 1) := by decide +kernel
theorem dX3_handle_95 : decode cX3_handle 95 = .ok (.getfield 15, 3) := by decide +kernel
theorem dX3_handle_98 : decode cX3_handle 98 = .ok (.iconst 1, 1) := by decide +kernel
theorem dX3_handle_99 : decode cX3_handle 99 = .ok (.iaload, 1) := by decide +kernel
theorem dX3_handle_100 : decode cX3_handle 100 = .ok (.invokevirtual 211, 3) := by decide +kernel
theorem dX3_handle_103 : decode cX3_handle 103 = .ok (.ifCond .ne 5, 3) := by decide +kernel
theorem dX3_handle_106 : decode cX3_handle 106 = .ok (.iconst 0, 1) := by decide +kernel
theorem dX3_handle_107 : decode cX3_handle 107 = .ok (.ireturn, 1) := by decide +kernel
theorem dX3_handle_108 : decode cX3_handle 108 = .ok (.aload_n 2, 1) := by decide +kernel
theorem dX3_handle_109 : decode cX3_handle 109 = .ok (.aload_n 0, 1) := by decide +kernel
theorem dX3_handle_110 : decode cX3_handle 110 = .ok (.getfield 15, 3) := by decide +kernel
theorem dX3_handle_113 : decode cX3_handle 113 = .ok (.iconst 1, 1) := by decide +kernel
theorem dX3_handle_114 : decode cX3_handle 114 = .ok (.iaload, 1) := by decide +kernel
theorem dX3_handle_115 : decode cX3_handle 115 = .ok (.invokevirtual 215, 3) := by decide +kernel
theorem dX3_handle_118 : decode cX3_handle 118 = .ok (.iconst 1, 1) := by decide +kernel
theorem dX3_handle_119 : decode cX3_handle 119 = .ok (.ireturn, 1) := by decide +kernel
theorem dX3_handle_120 : decode cX3_handle 120 = .ok (.aload_n 2, 1) := by decide +kernel
theorem dX3_handle_121 : decode cX3_handle 121 = .ok (.getfield 218, 3) := by decide +kernel
theorem dX3_handle_124 : decode cX3_handle 124 = .ok (.ifCond .eq 5, 3) := by decide +kernel
theorem dX3_handle_127 : decode cX3_handle 127 = .ok (.iconst 0, 1) := by decide +kernel
theorem dX3_handle_128 : decode cX3_handle 128 = .ok (.ireturn, 1) := by decide +kernel
theorem dX3_handle_129 : decode cX3_handle 129 = .ok (.aload_n 2, 1) := by decide +kernel
theorem dX3_handle_130 : decode cX3_handle 130 = .ok (.invokevirtual 221, 3) := by decide +kernel
theorem dX3_handle_133 : decode cX3_handle 133 = .ok (.iconst 1, 1) := by decide +kernel
theorem dX3_handle_134 : decode cX3_handle 134 = .ok (.ireturn, 1) := by decide +kernel
theorem dX3_handle_135 : decode cX3_handle 135 = .ok (.aload_n 2, 1) := by decide +kernel
theorem dX3_handle_136 : decode cX3_handle 136 = .ok (.getfield 218, 3) := by decide +kernel
theorem dX3_handle_139 : decode cX3_handle 139 = .ok (.aload_n 0, 1) := by decide +kernel
theorem dX3_handle_140 : decode cX3_handle 140 = .ok (.getfield 141, 3) := by decide +kernel
theorem dX3_handle_143 : decode cX3_handle 143 = .ok (.iconst 3, 1) := by decide +kernel
theorem dX3_handle_144 : decode cX3_handle 144 = .ok (.if_icmp .ne 7, 3) := by decide +kernel
theorem dX3_handle_147 : decode cX3_handle 147 = .ok (.iconst 1, 1) := by decide +kernel
theorem dX3_handle_148 : decode cX3_handle 148 = .ok (.goto 4, 3) := by decide +kernel
theorem dX3_handle_151 : decode cX3_handle 151 = .ok (.iconst 2, 1) := by decide +kernel
theorem dX3_handle_152 : decode cX3_handle 152 = .ok (.if_icmp .eq 5, 3) := by decide +kernel
theorem dX3_handle_155 : decode cX3_handle 155 = .ok (.iconst 0, 1) := by decide +kernel
theorem dX3_handle_156 : decode cX3_handle 156 = .ok (.ireturn, 1) := by decide +kernel
theorem dX3_handle_157 : decode cX3_handle 157 = .ok (.aload_n 2, 1) := by decide +kernel
theorem dX3_handle_158 : decode cX3_handle 158 = .ok (.iconst 0, 1) := by decide +kernel
theorem dX3_handle_159 : decode cX3_handle 159 = .ok (.invokevirtual 224, 3) := by decide +kernel
theorem dX3_handle_162 : decode cX3_handle 162 = .ok (.iconst 1, 1) := by decide +kernel
theorem dX3_handle_163 : decode cX3_handle 163 = .ok (.ireturn, 1) := by decide +kernel
theorem dX4_init_0 : decode cX4_init 0 = .ok (.aload_n 0, 1) := by decide +kernel
theorem dX4_init_1 : decode cX4_init 1 = .ok (.invokespecial 3, 3) := by decide +kernel
theorem dX4_init_4 : decode cX4_init 4 = .ok (.aload_n 0, 1) := by decide +kernel
theorem dX4_init_5 : decode cX4_init 5 = .ok (.bipush 8, 2) := by decide +kernel
theorem dX4_init_7 : decode cX4_init 7 = .ok (.newarray .int, 2) := by decide +kernel
theorem dX4_init_9 : decode cX4_init 9 = .ok (.putfield 9, 3) := by decide +kernel
theorem dX4_init_12 : decode cX4_init 12 = .ok (.aload_n 0, 1) := by decide +kernel
theorem dX4_init_13 : decode cX4_init 13 = .ok (.iconst 4, 1) := by decide +kernel
theorem dX4_init_14 : decode cX4_init 14 = .ok (.newarray .int, 2) := by decide +kernel
theorem dX4_init_16 : decode cX4_init 16 = .ok (.putfield 15, 3) := by decide +kernel
theorem dX4_init_19 : decode cX4_init 19 = .ok (.aload_n 0, 1) := by decide +kernel
theorem dX4_init_20 : decode cX4_init 20 = .ok (.iconst 4, 1) := by decide +kernel
theorem dX4_init_21 : decode cX4_init 21 = .ok (.newarray .int, 2) := by decide +kernel
theorem dX4_init_23 : decode cX4_init 23 = .ok (.putfield 18, 3) := by decide +kernel
theorem dX4_init_26 : decode cX4_init 26 = .ok (.aload_n 0, 1) := by decide +kernel
theorem dX4_init_27 : decode cX4_init 27 = .ok (.iconst 4, 1) := by decide +kernel
theorem dX4_init_28 : decode cX4_init 28 = .ok (.newarray .int, 2) := by decide +kernel
theorem dX4_init_30 : decode cX4_init 30 = .ok (.putfield 21, 3) := by decide +kernel
theorem dX4_init_33 : decode cX4_init 33 = .ok (.aload_n 0, 1) := by decide +kernel
theorem dX4_init_34 : decode cX4_init 34 = .ok (.iconst 4, 1) := by decide +kernel
theorem dX4_init_35 : decode cX4_init 35 = .ok (.newarray .int, 2) := by decide +kernel
theorem dX4_init_37 : decode cX4_init 37 = .ok (.putfield 24, 3) := by decide +kernel
theorem dX4_init_40 : decode cX4_init 40 = .ok (.aload_n 0, 1) := by decide +kernel
theorem dX4_init_41 : decode cX4_init 41 = .ok (.iconst 4, 1) := by decide +kernel
theorem dX4_init_42 : decode cX4_init 42 = .ok (.newarray .int, 2) := by decide +kernel
theorem dX4_init_44 : decode cX4_init 44 = .ok (.putfield 27, 3) := by decide +kernel
theorem dX4_init_47 : decode cX4_init 47 = .ok (.return_, 1) := by decide +kernel
theorem dX4_clear_0 : decode cX4_clear 0 = .ok (.aload_n 0, 1) := by decide +kernel
theorem dX4_clear_1 : decode cX4_clear 1 = .ok (.iload_n 1, 1) := by decide +kernel
theorem dX4_clear_2 : decode cX4_clear 2 = .ok (.putfield 30, 3) := by decide +kernel
theorem dX4_clear_5 : decode cX4_clear 5 = .ok (.aload_n 0, 1) := by decide +kernel
theorem dX4_clear_6 : decode cX4_clear 6 = .ok (.iconst 0, 1) := by decide +kernel
theorem dX4_clear_7 : decode cX4_clear 7 = .ok (.putfield 34, 3) := by decide +kernel
theorem dX4_clear_10 : decode cX4_clear 10 = .ok (.aload_n 0, 1) := by decide +kernel
theorem dX4_clear_11 : decode cX4_clear 11 = .ok (.iconst 0, 1) := by decide +kernel
theorem dX4_clear_12 : decode cX4_clear 12 = .ok (.putfield 37, 3) := by decide +kernel
theorem dX4_clear_15 : decode cX4_clear 15 = .ok (.aload_n 0, 1) := by decide +kernel
theorem dX4_clear_16 : decode cX4_clear 16 = .ok (.iconst 0, 1) := by decide +kernel
theorem dX4_clear_17 : decode cX4_clear 17 = .ok (.putfield 40, 3) := by decide +kernel
theorem dX4_clear_20 : decode cX4_clear 20 = .ok (.return_, 1) := by decide +kernel
theorem dX4_copyFrom_0 : decode cX4_copyFrom 0 = .ok (.aload_n 0, 1) := by decide +kernel
theorem dX4_copyFrom_1 : decode cX4_copyFrom 1 = .ok (.aload_n 1, 1) := by decide +kernel
theorem dX4_copyFrom_2 : decode cX4_copyFrom 2 = .ok (.getfield 30, 3) := by decide +kernel
theorem dX4_copyFrom_5 : decode cX4_copyFrom 5 = .ok (.putfield 30, 3) := by decide +kernel
theorem dX4_copyFrom_8 : decode cX4_copyFrom 8 = .ok (.aload_n 0, 1) := by decide +kernel
theorem dX4_copyFrom_9 : decode cX4_copyFrom 9 = .ok (.aload_n 1, 1) := by decide +kernel
theorem dX4_copyFrom_10 : decode cX4_copyFrom 10 = .ok (.getfield 34, 3) := by decide +kernel
theorem dX4_copyFrom_13 : decode cX4_copyFrom 13 = .ok (.putfield 34, 3) := by decide +kernel
theorem dX4_copyFrom_16 : decode cX4_copyFrom 16 = .ok (.aload_n 0, 1) := by decide +kernel
theorem dX4_copyFrom_17 : decode cX4_copyFrom 17 = .ok (.aload_n 1, 1) := by decide +kernel
theorem dX4_copyFrom_18 : decode cX4_copyFrom 18 = .ok (.getfield 37, 3) := by decide +kernel
theorem dX4_copyFrom_21 : decode cX4_copyFrom 21 = .ok (.putfield 37, 3) := by decide +kernel
theorem dX4_copyFrom_24 : decode cX4_copyFrom 24 = .ok (.aload_n 0, 1) := by decide +kernel
theorem dX4_copyFrom_25 : decode cX4_copyFrom 25 = .ok (.aload_n 1, 1) := by decide +kernel
theorem dX4_copyFrom_26 : decode cX4_copyFrom 26 = .ok (.getfield 40, 3) := by decide +kernel
theorem dX4_copyFrom_29 : decode cX4_copyFrom 29 = .ok (.putfield 40, 3) := by decide +kernel
theorem dX4_copyFrom_32 : decode cX4_copyFrom 32 = .ok (.aload_n 1, 1) := by decide +kernel
theorem dX4_copyFrom_33 : decode cX4_copyFrom 33 = .ok (.getfield 9, 3) := by decide +kernel
theorem dX4_copyFrom_36 : decode cX4_copyFrom 36 = .ok (.iconst 0, 1) := by decide +kernel
theorem dX4_copyFrom_37 : decode cX4_copyFrom 37 = .ok (.aload_n 0, 1) := by decide +kernel
theorem dX4_copyFrom_38 : decode cX4_copyFrom 38 = .ok (.getfield 9, 3) := by decide +kernel
theorem dX4_copyFrom_41 : decode cX4_copyFrom 41 = .ok (.iconst 0, 1) := by decide +kernel
theorem dX4_copyFrom_42 : decode cX4_copyFrom 42 = .ok (.bipush 8, 2) := by decide +kernel
theorem dX4_copyFrom_44 : decode cX4_copyFrom 44 = .ok (.invokestatic 43, 3) := by decide +kernel
theorem dX4_copyFrom_47 : decode cX4_copyFrom 47 = .ok (.aload_n 1, 1) := by decide +kernel
theorem dX4_copyFrom_48 : decode cX4_copyFrom 48 = .ok (.getfield 15, 3) := by decide +kernel
theorem dX4_copyFrom_51 : decode cX4_copyFrom 51 = .ok (.iconst 0, 1) := by decide +kernel
theorem dX4_copyFrom_52 : decode cX4_copyFrom 52 = .ok (.aload_n 0, 1) := by decide +kernel
theorem dX4_copyFrom_53 : decode cX4_copyFrom 53 = .ok (.getfield 15, 3) := by decide +kernel
theorem dX4_copyFrom_56 : decode cX4_copyFrom 56 = .ok (.iconst 0, 1) := by decide +kernel
theorem dX4_copyFrom_57 : decode cX4_copyFrom 57 = .ok (.iconst 4, 1) := by decide +kernel
theorem dX4_copyFrom_58 : decode cX4_copyFrom 58 = .ok (.invokestatic 43, 3) := by decide +kernel
theorem dX4_copyFrom_61 : decode cX4_copyFrom 61 = .ok (.aload_n 1, 1) := by decide +kernel
theorem dX4_copyFrom_62 : decode cX4_copyFrom 62 = .ok (.getfield 18, 3) := by decide +kernel
theorem dX4_copyFrom_65 : decode cX4_copyFrom 65 = .ok (.iconst 0, 1) := by decide +kernel
theorem dX4_copyFrom_66 : decode cX4_copyFrom 66 = .ok (.aload_n 0, 1) := by decide +kernel
theorem dX4_copyFrom_67 : decode cX4_copyFrom 67 = .ok (.getfield 18, 3) := by decide +kernel
theorem dX4_copyFrom_70 : decode cX4_copyFrom 70 = .ok (.iconst 0, 1) := by decide +kernel
theorem dX4_copyFrom_71 : decode cX4_copyFrom 71 = .ok (.iconst 4, 1) := by decide +kernel
theorem dX4_copyFrom_72 : decode cX4_copyFrom 72 = .ok (.invokestatic 43, 3) := by decide +kernel
theorem dX4_copyFrom_75 : decode cX4_copyFrom 75 = .ok (.aload_n 1, 1) := by decide +kernel
theorem dX4_copyFrom_76 : decode cX4_copyFrom 76 = .ok (.getfield 21, 3) := by decide +kernel
theorem dX4_copyFrom_79 : decode cX4_copyFrom 79 = .ok (.iconst 0, 1) := by decide +kernel
theorem dX4_copyFrom_80 : decode cX4_copyFrom 80 = .ok (.aload_n 0, 1) := by decide +kernel
theorem dX4_copyFrom_81 : decode cX4_copyFrom 81 = .ok (.getfield 21, 3) := by decide +kernel
theorem dX4_copyFrom_84 : decode cX4_copyFrom 84 = .ok (.iconst 0, 1) := by decide +kernel
theorem dX4_copyFrom_85 : decode cX4_copyFrom 85 = .ok (.iconst 4, 1) := by decide +kernel
theorem dX4_copyFrom_86 : decode cX4_copyFrom 86 = .ok (.invokestatic 43, 3) := by decide +kernel
theorem dX4_copyFrom_89 : decode cX4_copyFrom 89 = .ok (.aload_n 1, 1) := by decide +kernel
theorem dX4_copyFrom_90 : decode cX4_copyFrom 90 = .ok (.getfield 24, 3) := by decide +kernel
theorem dX4_copyFrom_93 : decode cX4_copyFrom 93 = .ok (.iconst 0, 1) := by decide +kernel
theorem dX4_copyFrom_94 : decode cX4_copyFrom 94 = .ok (.aload_n 0, 1) := by decide +kernel
theorem dX4_copyFrom_95 : decode cX4_copyFrom 95 = .ok (.getfield 24, 3) := by decide +kernel
theorem dX4_copyFrom_98 : decode cX4_copyFrom 98 = .ok (.iconst 0, 1) := by decide +kernel
theorem dX4_copyFrom_99 : decode cX4_copyFrom 99 = .ok (.iconst 4, 1) := by decide +kernel
theorem dX4_copyFrom_100 : decode cX4_copyFrom 100 = .ok (.invokestatic 43, 3) := by decide +kernel
theorem dX4_copyFrom_103 : decode cX4_copyFrom 103 = .ok (.aload_n 1, 1) := by decide +kernel
theorem dX4_copyFrom_104 : decode cX4_copyFrom 104 = .ok (.getfield 27, 3) := by decide +kernel
theorem dX4_copyFrom_107 : decode cX4_copyFrom 107 = .ok (.iconst 0, 1) := by decide +kernel
theorem dX4_copyFrom_108 : decode cX4_copyFrom 108 = .ok (.aload_n 0, 1) := by decide +kernel
theorem dX4_copyFrom_109 : decode cX4_copyFrom 109 = .ok (.getfield 27, 3) := by decide +kernel
theorem dX4_copyFrom_112 : decode cX4_copyFrom 112 = .ok (.iconst 0, 1) := by decide +kernel
theorem dX4_copyFrom_113 : decode cX4_copyFrom 113 = .ok (.iconst 4, 1) := by decide +kernel
theorem dX4_copyFrom_114 : decode cX4_copyFrom 114 = .ok (.invokestatic 43, 3) := by decide +kernel
theorem dX4_copyFrom_117 : decode cX4_copyFrom 117 = .ok (.return_, 1) := by decide +kernel
theorem dX4_appendWind_0 : decode cX4_appendWind 0 = .ok (.aload_n 0, 1) := by decide +kernel
theorem dX4_appendWind_1 : decode cX4_appendWind 1 = .ok (.getfield 34, 3) := by decide +kernel
theorem dX4_appendWind_4 : decode cX4_appendWind 4 = .ok (.bipush 8, 2) := by decide +kernel
theorem dX4_appendWind_6 : decode cX4_appendWind 6 = .ok (.if_icmp .ge 23, 3) := by decide +kernel
theorem dX4_appendWind_9 : decode cX4_appendWind 9 = .ok (.aload_n 0, 1) := by decide +kernel
theorem dX4_appendWind_10 : decode cX4_appendWind 10 = .ok (.getfield 9, 3) := by decide +kernel
theorem dX4_appendWind_13 : decode cX4_appendWind 13 = .ok (.aload_n 0, 1) := by decide +kernel
theorem dX4_appendWind_14 : decode cX4_appendWind 14 = .ok (.getfield 34, 3) := by decide +kernel
theorem dX4_appendWind_17 : decode cX4_appendWind 17 = .ok (.iload_n 1, 1) := by decide +kernel
theorem dX4_appendWind_18 : decode cX4_appendWind 18 = .ok (.iastore, 1) := by decide +kernel
theorem dX4_appendWind_19 : decode cX4_appendWind 19 = .ok (.aload_n 0, 1) := by decide +kernel
theorem dX4_appendWind_20 : decode cX4_appendWind 20 = .ok (.dup, 1) := by decide +kernel
theorem dX4_appendWind_21 : decode cX4_appendWind 21 = .ok (.getfield 34, 3) := by decide +kernel
theorem dX4_appendWind_24 : decode cX4_appendWind 24 = .ok (.iconst 1, 1) := by decide +kernel
theorem dX4_appendWind_25 : decode cX4_appendWind 25 = .ok (.iadd, 1) := by decide +kernel
theorem dX4_appendWind_26 : decode cX4_appendWind 26 = .ok (.putfield 34, 3) := by decide +kernel
theorem dX4_appendWind_29 : decode cX4_appendWind 29 = .ok (.return_, 1) := by decide +kernel
theorem dX4_appendShower_0 : decode cX4_appendShower 0 = .ok (.aload_n 0, 1) := by decide +kernel
theorem dX4_appendShower_1 : decode cX4_appendShower 1 = .ok (.getfield 37, 3) := by decide +kernel
theorem dX4_appendShower_4 : decode cX4_appendShower 4 = .ok (.iconst 4, 1) := by decide +kernel
theorem dX4_appendShower_5 : decode cX4_appendShower 5 = .ok (.if_icmp .ge 45, 3) := by decide +kernel
theorem dX4_appendShower_8 : decode cX4_appendShower 8 = .ok (.aload_n 0, 1) := by decide +kernel
theorem dX4_appendShower_9 : decode cX4_appendShower 9 = .ok (.getfield 15, 3) := by decide +kernel
theorem dX4_appendShower_12 : decode cX4_appendShower 12 = .ok (.aload_n 0, 1) := by decide +kernel
theorem dX4_appendShower_13 : decode cX4_appendShower 13 = .ok (.getfield 37, 3) := by decide +kernel
theorem dX4_appendShower_16 : decode cX4_appendShower 16 = .ok (.iload_n 1, 1) := by decide +kernel
theorem dX4_appendShower_17 : decode cX4_appendShower 17 = .ok (.iastore, 1) := by decide +kernel
theorem dX4_appendShower_18 : decode cX4_appendShower 18 = .ok (.aload_n 0, 1) := by decide +kernel
theorem dX4_appendShower_19 : decode cX4_appendShower 19 = .ok (.getfield 18, 3) := by decide +kernel
theorem dX4_appendShower_22 : decode cX4_appendShower 22 = .ok (.aload_n 0, 1) := by decide +kernel
theorem dX4_appendShower_23 : decode cX4_appendShower 23 = .ok (.getfield 37, 3) := by decide +kernel
theorem dX4_appendShower_26 : decode cX4_appendShower 26 = .ok (.iload_n 1, 1) := by decide +kernel
theorem dX4_appendShower_27 : decode cX4_appendShower 27 = .ok (.iload_n 2, 1) := by decide +kernel
theorem dX4_appendShower_28 : decode cX4_appendShower 28 = .ok (.iadd, 1) := by decide +kernel
theorem dX4_appendShower_29 : decode cX4_appendShower 29 = .ok (.iastore, 1) := by decide +kernel
theorem dX4_appendShower_30 : decode cX4_appendShower 30 = .ok (.aload_n 0, 1) := by decide +kernel
theorem dX4_appendShower_31 : decode cX4_appendShower 31 = .ok (.getfield 21, 3) := by decide +kernel
theorem dX4_appendShower_34 : decode cX4_appendShower 34 = .ok (.aload_n 0, 1) := by decide +kernel
theorem dX4_appendShower_35 : decode cX4_appendShower 35 = .ok (.getfield 37, 3) := by decide +kernel
theorem dX4_appendShower_38 : decode cX4_appendShower 38 = .ok (.iload_n 3, 1) := by decide +kernel
theorem dX4_appendShower_39 : decode cX4_appendShower 39 = .ok (.iastore, 1) := by decide +kernel
theorem dX4_appendShower_40 : decode cX4_appendShower 40 = .ok (.aload_n 0, 1) := by decide +kernel
theorem dX4_appendShower_41 : decode cX4_appendShower 41 = .ok (.dup, 1) := by decide +kernel
theorem dX4_appendShower_42 : decode cX4_appendShower 42 = .ok (.getfield 37, 3) := by decide +kernel
theorem dX4_appendShower_45 : decode cX4_appendShower 45 = .ok (.iconst 1, 1) := by decide +kernel
theorem dX4_appendShower_46 : decode cX4_appendShower 46 = .ok (.iadd, 1) := by decide +kernel
theorem dX4_appendShower_47 : decode cX4_appendShower 47 = .ok (.putfield 37, 3) := by decide +kernel
theorem dX4_appendShower_50 : decode cX4_appendShower 50 = .ok (.return_, 1) := by decide +kernel
theorem dX4_appendSmoke_0 : decode cX4_appendSmoke 0 = .ok (.aload_n 0, 1) := by decide +kernel
theorem dX4_appendSmoke_1 : decode cX4_appendSmoke 1 = .ok (.getfield 40, 3) := by decide +kernel
theorem dX4_appendSmoke_4 : decode cX4_appendSmoke 4 = .ok (.iconst 4, 1) := by decide +kernel
theorem dX4_appendSmoke_5 : decode cX4_appendSmoke 5 = .ok (.if_icmp .ge 33, 3) := by decide +kernel
theorem dX4_appendSmoke_8 : decode cX4_appendSmoke 8 = .ok (.aload_n 0, 1) := by decide +kernel
theorem dX4_appendSmoke_9 : decode cX4_appendSmoke 9 = .ok (.getfield 24, 3) := by decide +kernel
theorem dX4_appendSmoke_12 : decode cX4_appendSmoke 12 = .ok (.aload_n 0, 1) := by decide +kernel
theorem dX4_appendSmoke_13 : decode cX4_appendSmoke 13 = .ok (.getfield 40, 3) := by decide +kernel
theorem dX4_appendSmoke_16 : decode cX4_appendSmoke 16 = .ok (.iload_n 1, 1) := by decide +kernel
theorem dX4_appendSmoke_17 : decode cX4_appendSmoke 17 = .ok (.iastore, 1) := by decide +kernel
theorem dX4_appendSmoke_18 : decode cX4_appendSmoke 18 = .ok (.aload_n 0, 1) := by decide +kernel
theorem dX4_appendSmoke_19 : decode cX4_appendSmoke 19 = .ok (.getfield 27, 3) := by decide +kernel
theorem dX4_appendSmoke_22 : decode cX4_appendSmoke 22 = .ok (.aload_n 0, 1) := by decide +kernel
theorem dX4_appendSmoke_23 : decode cX4_appendSmoke 23 = .ok (.getfield 40, 3) := by decide +kernel
theorem dX4_appendSmoke_26 : decode cX4_appendSmoke 26 = .ok (.iload_n 2, 1) := by decide +kernel
theorem dX4_appendSmoke_27 : decode cX4_appendSmoke 27 = .ok (.iastore, 1) := by decide +kernel
theorem dX4_appendSmoke_28 : decode cX4_appendSmoke 28 = .ok (.aload_n 0, 1) := by decide +kernel
theorem dX4_appendSmoke_29 : decode cX4_appendSmoke 29 = .ok (.dup, 1) := by decide +kernel
theorem dX4_appendSmoke_30 : decode cX4_appendSmoke 30 = .ok (.getfield 40, 3) := by decide +kernel
theorem dX4_appendSmoke_33 : decode cX4_appendSmoke 33 = .ok (.iconst 1, 1) := by decide +kernel
theorem dX4_appendSmoke_34 : decode cX4_appendSmoke 34 = .ok (.iadd, 1) := by decide +kernel
theorem dX4_appendSmoke_35 : decode cX4_appendSmoke 35 = .ok (.putfield 40, 3) := by decide +kernel
theorem dX4_appendSmoke_38 : decode cX4_appendSmoke 38 = .ok (.return_, 1) := by decide +kernel
theorem dX4_windAt_0 : decode cX4_windAt 0 = .ok (.aload_n 0, 1) := by decide +kernel
theorem dX4_windAt_1 : decode cX4_windAt 1 = .ok (.getfield 34, 3) := by decide +kernel
theorem dX4_windAt_4 : decode cX4_windAt 4 = .ok (.ifCond .ne 7, 3) := by decide +kernel
theorem dX4_windAt_7 : decode cX4_windAt 7 = .ok (.iconst 0, 1) := by decide +kernel
theorem dX4_windAt_8 : decode cX4_windAt 8 = .ok (.goto 17, 3) := by decide +kernel
theorem dX4_windAt_11 : decode cX4_windAt 11 = .ok (.aload_n 0, 1) := by decide +kernel
theorem dX4_windAt_12 : decode cX4_windAt 12 = .ok (.getfield 9, 3) := by decide +kernel
theorem dX4_windAt_15 : decode cX4_windAt 15 = .ok (.iload_n 1, 1) := by decide +kernel
theorem dX4_windAt_16 : decode cX4_windAt 16 = .ok (.bipush 60, 2) := by decide +kernel
theorem dX4_windAt_18 : decode cX4_windAt 18 = .ok (.idiv, 1) := by decide +kernel
theorem dX4_windAt_19 : decode cX4_windAt 19 = .ok (.aload_n 0, 1) := by decide +kernel
theorem dX4_windAt_20 : decode cX4_windAt 20 = .ok (.getfield 34, 3) := by decide +kernel
theorem dX4_windAt_23 : decode cX4_windAt 23 = .ok (.irem, 1) := by decide +kernel
theorem dX4_windAt_24 : decode cX4_windAt 24 = .ok (.iaload, 1) := by decide +kernel
theorem dX4_windAt_25 : decode cX4_windAt 25 = .ok (.ireturn, 1) := by decide +kernel
theorem dX4_rainAt_0 : decode cX4_rainAt 0 = .ok (.iconst 0, 1) := by decide +kernel
theorem dX4_rainAt_1 : decode cX4_rainAt 1 = .ok (.istore_n 2, 1) := by decide +kernel
theorem dX4_rainAt_2 : decode cX4_rainAt 2 = .ok (.iconst 0, 1) := by decide +kernel
theorem dX4_rainAt_3 : decode cX4_rainAt 3 = .ok (.istore_n 3, 1) := by decide +kernel
theorem dX4_rainAt_4 : decode cX4_rainAt 4 = .ok (.iload_n 3, 1) := by decide +kernel
theorem dX4_rainAt_5 : decode cX4_rainAt 5 = .ok (.aload_n 0, 1) := by decide +kernel
theorem dX4_rainAt_6 : decode cX4_rainAt 6 = .ok (.getfield 37, 3) := by decide +kernel
theorem dX4_rainAt_9 : decode cX4_rainAt 9 = .ok (.if_icmp .ge 38, 3) := by decide +kernel
theorem dX4_rainAt_12 : decode cX4_rainAt 12 = .ok (.iload_n 1, 1) := by decide +kernel
theorem dX4_rainAt_13 : decode cX4_rainAt 13 = .ok (.aload_n 0, 1) := by decide +kernel
theorem dX4_rainAt_14 : decode cX4_rainAt 14 = .ok (.getfield 15, 3) := by decide +kernel
theorem dX4_rainAt_17 : decode cX4_rainAt 17 = .ok (.iload_n 3, 1) := by decide +kernel
theorem dX4_rainAt_18 : decode cX4_rainAt 18 = .ok (.iaload, 1) := by decide +kernel
theorem dX4_rainAt_19 : decode cX4_rainAt 19 = .ok (.if_icmp .lt 22, 3) := by decide +kernel
theorem dX4_rainAt_22 : decode cX4_rainAt 22 = .ok (.iload_n 1, 1) := by decide +kernel
theorem dX4_rainAt_23 : decode cX4_rainAt 23 = .ok (.aload_n 0, 1) := by decide +kernel
theorem dX4_rainAt_24 : decode cX4_rainAt 24 = .ok (.getfield 18, 3) := by decide +kernel
theorem dX4_rainAt_27 : decode cX4_rainAt 27 = .ok (.iload_n 3, 1) := by decide +kernel
theorem dX4_rainAt_28 : decode cX4_rainAt 28 = .ok (.iaload, 1) := by decide +kernel
theorem dX4_rainAt_29 : decode cX4_rainAt 29 = .ok (.if_icmp .ge 12, 3) := by decide +kernel
theorem dX4_rainAt_32 : decode cX4_rainAt 32 = .ok (.iload_n 2, 1) := by decide +kernel
theorem dX4_rainAt_33 : decode cX4_rainAt 33 = .ok (.aload_n 0, 1) := by decide +kernel
theorem dX4_rainAt_34 : decode cX4_rainAt 34 = .ok (.getfield 21, 3) := by decide +kernel
theorem dX4_rainAt_37 : decode cX4_rainAt 37 = .ok (.iload_n 3, 1) := by decide +kernel
theorem dX4_rainAt_38 : decode cX4_rainAt 38 = .ok (.iaload, 1) := by decide +kernel
theorem dX4_rainAt_39 : decode cX4_rainAt 39 = .ok (.iadd, 1) := by decide +kernel
theorem dX4_rainAt_40 : decode cX4_rainAt 40 = .ok (.istore_n 2, 1) := by decide +kernel
theorem dX4_rainAt_41 : decode cX4_rainAt 41 = .ok (.iinc 3 1, 3) := by decide +kernel
theorem dX4_rainAt_44 : decode cX4_rainAt 44 = .ok (.goto (-40), 3) := by decide +kernel
theorem dX4_rainAt_47 : decode cX4_rainAt 47 = .ok (.iload_n 2, 1) := by decide +kernel
theorem dX4_rainAt_48 : decode cX4_rainAt 48 = .ok (.ireturn, 1) := by decide +kernel
theorem dX4_sunnyAt_0 : decode cX4_sunnyAt 0 = .ok (.aload_n 0, 1) := by decide +kernel
theorem dX4_sunnyAt_1 : decode cX4_sunnyAt 1 = .ok (.iload_n 1, 1) := by decide +kernel
theorem dX4_sunnyAt_2 : decode cX4_sunnyAt 2 = .ok (.invokevirtual 49, 3) := by decide +kernel
theorem dX4_sunnyAt_5 : decode cX4_sunnyAt 5 = .ok (.ifCond .eq 5, 3) := by decide +kernel
theorem dX4_sunnyAt_8 : decode cX4_sunnyAt 8 = .ok (.iconst 0, 1) := by decide +kernel
theorem dX4_sunnyAt_9 : decode cX4_sunnyAt 9 = .ok (.ireturn, 1) := by decide +kernel
theorem dX4_sunnyAt_10 : decode cX4_sunnyAt 10 = .ok (.iload_n 1, 1) := by decide +kernel
theorem dX4_sunnyAt_11 : decode cX4_sunnyAt 11 = .ok (.bipush 30, 2) := by decide +kernel
theorem dX4_sunnyAt_13 : decode cX4_sunnyAt 13 = .ok (.idiv, 1) := by decide +kernel
theorem dX4_sunnyAt_14 : decode cX4_sunnyAt 14 = .ok (.bipush 24, 2) := by decide +kernel
theorem dX4_sunnyAt_16 : decode cX4_sunnyAt 16 = .ok (.irem, 1) := by decide +kernel
theorem dX4_sunnyAt_17 : decode cX4_sunnyAt 17 = .ok (.istore_n 2, 1) := by decide +kernel
theorem dX4_sunnyAt_18 : decode cX4_sunnyAt 18 = .ok (.iconst 1, 1) := by decide +kernel
theorem dX4_sunnyAt_19 : decode cX4_sunnyAt 19 = .ok (.aload_n 0, 1) := by decide +kernel
theorem dX4_sunnyAt_20 : decode cX4_sunnyAt 20 = .ok (.getfield 30, 3) := by decide +kernel
theorem dX4_sunnyAt_23 : decode cX4_sunnyAt 23 = .ok (.ishl, 1) := by decide +kernel
theorem dX4_sunnyAt_24 : decode cX4_sunnyAt 24 = .ok (.iconst 1, 1) := by decide +kernel
theorem dX4_sunnyAt_25 : decode cX4_sunnyAt 25 = .ok (.isub, 1) := by decide +kernel
theorem dX4_sunnyAt_26 : decode cX4_sunnyAt 26 = .ok (.istore_n 3, 1) := by decide +kernel
theorem dX4_sunnyAt_27 : decode cX4_sunnyAt 27 = .ok (.ldc 53, 2) := by decide +kernel
theorem dX4_sunnyAt_29 : decode cX4_sunnyAt 29 = .ok (.iload_n 3, 1) := by decide +kernel
theorem dX4_sunnyAt_30 : decode cX4_sunnyAt 30 = .ok (.iload_n 2, 1) := by decide +kernel
theorem dX4_sunnyAt_31 : decode cX4_sunnyAt 31 = .ok (.ishl, 1) := by decide +kernel
theorem dX4_sunnyAt_32 : decode cX4_sunnyAt 32 = .ok (.iload_n 3, 1) := by decide +kernel
theorem dX4_sunnyAt_33 : decode cX4_sunnyAt 33 = .ok (.bipush 24, 2) := by decide +kernel
theorem dX4_sunnyAt_35 : decode cX4_sunnyAt 35 = .ok (.iload_n 2, 1) := by decide +kernel
theorem dX4_sunnyAt_36 : decode cX4_sunnyAt 36 = .ok (.isub, 1) := by decide +kernel
theorem dX4_sunnyAt_37 : decode cX4_sunnyAt 37 = .ok (.ishr, 1) := by decide +kernel
theorem dX4_sunnyAt_38 : decode cX4_sunnyAt 38 = .ok (.ior, 1) := by decide +kernel
theorem dX4_sunnyAt_39 : decode cX4_sunnyAt 39 = .ok (.iconst (-1), 1) := by decide +kernel
theorem dX4_sunnyAt_40 : decode cX4_sunnyAt 40 = .ok (.ixor, 1) := by decide +kernel
theorem dX4_sunnyAt_41 : decode cX4_sunnyAt 41 = .ok (.iand, 1) := by decide +kernel
theorem dX4_sunnyAt_42 : decode cX4_sunnyAt 42 = .ok (.ireturn, 1) := by decide +kernel
theorem dX4_smokyAt_0 : decode cX4_smokyAt 0 = .ok (.iconst 0, 1) := by decide +kernel
theorem dX4_smokyAt_1 : decode cX4_smokyAt 1 = .ok (.istore_n 2, 1) := by decide +kernel
theorem dX4_smokyAt_2 : decode cX4_smokyAt 2 = .ok (.iload_n 2, 1) := by decide +kernel
theorem dX4_smokyAt_3 : decode cX4_smokyAt 3 = .ok (.aload_n 0, 1) := by decide +kernel
theorem dX4_smokyAt_4 : decode cX4_smokyAt 4 = .ok (.getfield 40, 3) := by decide +kernel
theorem dX4_smokyAt_7 : decode cX4_smokyAt 7 = .ok (.if_icmp .ge 41, 3) := by decide +kernel
theorem dX4_smokyAt_10 : decode cX4_smokyAt 10 = .ok (.iload_n 1, 1) := by decide +kernel
theorem dX4_smokyAt_11 : decode cX4_smokyAt 11 = .ok (.aload_n 0, 1) := by decide +kernel
theorem dX4_smokyAt_12 : decode cX4_smokyAt 12 = .ok (.getfield 24, 3) := by decide +kernel
theorem dX4_smokyAt_15 : decode cX4_smokyAt 15 = .ok (.iload_n 2, 1) := by decide +kernel
theorem dX4_smokyAt_16 : decode cX4_smokyAt 16 = .ok (.iaload, 1) := by decide +kernel
theorem dX4_smokyAt_17 : decode cX4_smokyAt 17 = .ok (.if_icmp .lt 25, 3) := by decide +kernel
theorem dX4_smokyAt_20 : decode cX4_smokyAt 20 = .ok (.iload_n 1, 1) := by decide +kernel
theorem dX4_smokyAt_21 : decode cX4_smokyAt 21 = .ok (.aload_n 0, 1) := by decide +kernel
theorem dX4_smokyAt_22 : decode cX4_smokyAt 22 = .ok (.getfield 27, 3) := by decide +kernel
theorem dX4_smokyAt_25 : decode cX4_smokyAt 25 = .ok (.iload_n 2, 1) := by decide +kernel
theorem dX4_smokyAt_26 : decode cX4_smokyAt 26 = .ok (.iaload, 1) := by decide +kernel
theorem dX4_smokyAt_27 : decode cX4_smokyAt 27 = .ok (.if_icmp .gt 15, 3) := by decide +kernel
theorem dX4_smokyAt_30 : decode cX4_smokyAt 30 = .ok (.iconst 1, 1) := by decide +kernel
theorem dX4_smokyAt_31 : decode cX4_smokyAt 31 = .ok (.iconst 4, 1) := by decide +kernel
theorem dX4_smokyAt_32 : decode cX4_smokyAt 32 = .ok (.aload_n 0, 1) := by decide +kernel
theorem dX4_smokyAt_33 : decode cX4_smokyAt 33 = .ok (.iload_n 1, 1) := by decide +kernel
theorem dX4_smokyAt_34 : decode cX4_smokyAt 34 = .ok (.invokevirtual 54, 3) := by decide +kernel
theorem dX4_smokyAt_37 : decode cX4_smokyAt 37 = .ok (.imul, 1) := by decide +kernel
theorem dX4_smokyAt_38 : decode cX4_smokyAt 38 = .ok (.ishl, 1) := by decide +kernel
theorem dX4_smokyAt_39 : decode cX4_smokyAt 39 = .ok (.iconst 1, 1) := by decide +kernel
theorem dX4_smokyAt_40 : decode cX4_smokyAt 40 = .ok (.isub, 1) := by decide +kernel
theorem dX4_smokyAt_41 : decode cX4_smokyAt 41 = .ok (.ireturn, 1) := by decide +kernel
theorem dX4_smokyAt_42 : decode cX4_smokyAt 42 = .ok (.iinc 2 1, 3) := by decide +kernel
theorem dX4_smokyAt_45 : decode cX4_smokyAt 45 = .ok (.goto (-43), 3) := by decide +kernel
theorem dX4_smokyAt_48 : decode cX4_smokyAt 48 = .ok (.iconst 0, 1) := by decide +kernel
theorem dX4_smokyAt_49 : decode cX4_smokyAt 49 = .ok (.ireturn, 1) := by decide +kernel
theorem dX4_waitForRain_0 : decode cX4_waitForRain 0 = .ok (.iconst (-1), 1) := by decide +kernel
theorem dX4_waitForRain_1 : decode cX4_waitForRain 1 = .ok (.istore_n 2, 1) := by decide +kernel
theorem dX4_waitForRain_2 : decode cX4_waitForRain 2 = .ok (.iconst 0, 1) := by decide +kernel
theorem dX4_waitForRain_3 : decode cX4_waitForRain 3 = .ok (.istore_n 3, 1) := by decide +kernel
theorem dX4_waitForRain_4 : decode cX4_waitForRain 4 = .ok (.iload_n 3, 1) := by decide +kernel
theorem dX4_waitForRain_5 : decode cX4_waitForRain 5 = .ok (.aload_n 0, 1) := by decide +kernel
theorem dX4_waitForRain_6 : decode cX4_waitForRain 6 = .ok (.getfield 37, 3) := by decide +kernel
theorem dX4_waitForRain_9 : decode cX4_waitForRain 9 = .ok (.if_icmp .ge 47, 3) := by decide +kernel
theorem dX4_waitForRain_12 : decode cX4_waitForRain 12 = .ok (.aload_n 0, 1) := by decide +kernel
theorem dX4_waitForRain_13 : decode cX4_waitForRain 13 = .ok (.getfield 15, 3) := by decide +kernel
theorem dX4_waitForRain_16 : decode cX4_waitForRain 16 = .ok (.iload_n 3, 1) := by decide +kernel
theorem dX4_waitForRain_17 : decode cX4_waitForRain 17 = .ok (.iaload, 1) := by decide +kernel
theorem dX4_waitForRain_18 : decode cX4_waitForRain 18 = .ok (.iload_n 1, 1) := by decide +kernel
theorem dX4_waitForRain_19 : decode cX4_waitForRain 19 = .ok (.isub, 1) := by decide +kernel
theorem dX4_waitForRain_20 : decode cX4_waitForRain 20 = .ok (.iconst 0, 1) := by decide +kernel
theorem dX4_waitForRain_21 : decode cX4_waitForRain 21 = .ok (.invokestatic 57, 3) := by decide +kernel
theorem dX4_waitForRain_24 : decode cX4_waitForRain 24 = .ok (.istore 4, 2) := by decide +kernel
theorem dX4_waitForRain_26 : decode cX4_waitForRain 26 = .ok (.iload_n 1, 1) := by decide +kernel
theorem dX4_waitForRain_27 : decode cX4_waitForRain 27 = .ok (.aload_n 0, 1) := by decide +kernel
theorem dX4_waitForRain_28 : decode cX4_waitForRain 28 = .ok (.getfield 18, 3) := by decide +kernel
theorem dX4_waitForRain_31 : decode cX4_waitForRain 31 = .ok (.iload_n 3, 1) := by decide +kernel
theorem dX4_waitForRain_32 : decode cX4_waitForRain 32 = .ok (.iaload, 1) := by decide +kernel
theorem dX4_waitForRain_33 : decode cX4_waitForRain 33 = .ok (.if_icmp .ge 17, 3) := by decide +kernel
theorem dX4_waitForRain_36 : decode cX4_waitForRain 36 = .ok (.iload_n 2, 1) := by decide +kernel
theorem dX4_waitForRain_37 : decode cX4_waitForRain 37 = .ok (.iconst (-1), 1) := by decide +kernel
theorem dX4_waitForRain_38 : decode cX4_waitForRain 38 = .ok (.if_icmp .eq 9, 3) := by decide +kernel
theorem dX4_waitForRain_41 : decode cX4_waitForRain 41 = .ok (.iload 4, 2) := by decide +kernel
theorem dX4_waitForRain_43 : decode cX4_waitForRain 43 = .ok (.iload_n 2, 1) := by decide +kernel
theorem dX4_waitForRain_44 : decode cX4_waitForRain 44 = .ok (.if_icmp .ge 6, 3) := by decide +kernel
theorem dX4_waitForRain_47 : decode cX4_waitForRain 47 = .ok (.iload 4, 2) := by decide +kernel
theorem dX4_waitForRain_49 : decode cX4_waitForRain 49 = .ok (.istore_n 2, 1) := by decide +kernel
theorem dX4_waitForRain_50 : decode cX4_waitForRain 50 = .ok (.iinc 3 1, 3) := by decide +kernel
theorem dX4_waitForRain_53 : decode cX4_waitForRain 53 = .ok (.goto (-49), 3) := by decide +kernel
theorem dX4_waitForRain_56 : decode cX4_waitForRain 56 = .ok (.iload_n 2, 1) := by decide +kernel
theorem dX4_waitForRain_57 : decode cX4_waitForRain 57 = .ok (.ireturn, 1) := by decide +kernel
theorem dX5_init_0 : decode cX5_init 0 = .ok (.aload_n 0, 1) := by decide +kernel
theorem dX5_init_1 : decode cX5_init 1 = .ok (.invokespecial 1, 3) := by decide +kernel
theorem dX5_init_4 : decode cX5_init 4 = .ok (.aload_n 0, 1) := by decide +kernel
theorem dX5_init_5 : decode cX5_init 5 = .ok (.new 7, 3) := by decide +kernel
theorem dX5_init_8 : decode cX5_init 8 = .ok (.dup, 1) := by decide +kernel
theorem dX5_init_9 : decode cX5_init 9 = .ok (.invokespecial 9, 3) := by decide +kernel
theorem dX5_init_12 : decode cX5_init 12 = .ok (.putfield 10, 3) := by decide +kernel
theorem dX5_init_15 : decode cX5_init 15 = .ok (.aload_n 0, 1) := by decide +kernel
theorem dX5_init_16 : decode cX5_init 16 = .ok (.new 16, 3) := by decide +kernel
theorem dX5_init_19 : decode cX5_init 19 = .ok (.dup, 1) := by decide +kernel
theorem dX5_init_20 : decode cX5_init 20 = .ok (.invokespecial 18, 3) := by decide +kernel
theorem dX5_init_23 : decode cX5_init 23 = .ok (.putfield 19, 3) := by decide +kernel
theorem dX5_init_26 : decode cX5_init 26 = .ok (.aload_n 0, 1) := by decide +kernel
theorem dX5_init_27 : decode cX5_init 27 = .ok (.new 16, 3) := by decide +kernel
theorem dX5_init_30 : decode cX5_init 30 = .ok (.dup, 1) := by decide +kernel
theorem dX5_init_31 : decode cX5_init 31 = .ok (.invokespecial 18, 3) := by decide +kernel
theorem dX5_init_34 : decode cX5_init 34 = .ok (.putfield 23, 3) := by decide +kernel
theorem dX5_init_37 : decode cX5_init 37 = .ok (.aload_n 0, 1) := by decide +kernel
theorem dX5_init_38 : decode cX5_init 38 = .ok (.new 26, 3) := by decide +kernel
theorem dX5_init_41 : decode cX5_init 41 = .ok (.dup, 1) := by decide +kernel
theorem dX5_init_42 : decode cX5_init 42 = .ok (.invokespecial 28, 3) := by decide +kernel
theorem dX5_init_45 : decode cX5_init 45 = .ok (.putfield 29, 3) := by decide +kernel
theorem dX5_init_48 : decode cX5_init 48 = .ok (.aload_n 0, 1) := by decide +kernel
theorem dX5_init_49 : decode cX5_init 49 = .ok (.iconst 2, 1) := by decide +kernel
theorem dX5_init_50 : decode cX5_init 50 = .ok (.anewarray 16, 3) := by decide +kernel
theorem dX5_init_53 : decode cX5_init 53 = .ok (.putfield 33, 3) := by decide +kernel
theorem dX5_init_56 : decode cX5_init 56 = .ok (.aload_n 0, 1) := by decide +kernel
theorem dX5_init_57 : decode cX5_init 57 = .ok (.iconst 2, 1) := by decide +kernel
theorem dX5_init_58 : decode cX5_init 58 = .ok (.newarray .boolean, 2) := by decide +kernel
theorem dX5_init_60 : decode cX5_init 60 = .ok (.putfield 37, 3) := by decide +kernel
theorem dX5_init_63 : decode cX5_init 63 = .ok (.aload_n 0, 1) := by decide +kernel
theorem dX5_init_64 : decode cX5_init 64 = .ok (.bipush 24, 2) := by decide +kernel
theorem dX5_init_66 : decode cX5_init 66 = .ok (.newarray .int, 2) := by decide +kernel
theorem dX5_init_68 : decode cX5_init 68 = .ok (.putfield 41, 3) := by decide +kernel
theorem dX5_init_71 : decode cX5_init 71 = .ok (.iconst 0, 1) := by decide +kernel
theorem dX5_init_72 : decode cX5_init 72 = .ok (.istore_n 1, 1) := by decide +kernel
theorem dX5_init_73 : decode cX5_init 73 = .ok (.iload_n 1, 1) := by decide +kernel
theorem dX5_init_74 : decode cX5_init 74 = .ok (.iconst 2, 1) := by decide +kernel
theorem dX5_init_75 : decode cX5_init 75 = .ok (.if_icmp .ge 22, 3) := by decide +kernel
theorem dX5_init_78 : decode cX5_init 78 = .ok (.aload_n 0, 1) := by decide +kernel
theorem dX5_init_79 : decode cX5_init 79 = .ok (.getfield 33, 3) := by decide +kernel
theorem dX5_init_82 : decode cX5_init 82 = .ok (.iload_n 1, 1) := by decide +kernel
theorem dX5_init_83 : decode cX5_init 83 = .ok (.new 16, 3) := by decide +kernel
theorem dX5_init_86 : decode cX5_init 86 = .ok (.dup, 1) := by decide +kernel
theorem dX5_init_87 : decode cX5_init 87 = .ok (.invokespecial 18, 3) := by decide +kernel
theorem dX5_init_90 : decode cX5_init 90 = .ok (.aastore, 1) := by decide +kernel
theorem dX5_init_91 : decode cX5_init 91 = .ok (.iinc 1 1, 3) := by decide +kernel
theorem dX5_init_94 : decode cX5_init 94 = .ok (.goto (-21), 3) := by decide +kernel
theorem dX5_init_97 : decode cX5_init 97 = .ok (.aload_n 0, 1) := by decide +kernel
theorem dX5_init_98 : decode cX5_init 98 = .ok (.getfield 10, 3) := by decide +kernel
theorem dX5_init_101 : decode cX5_init 101 = .ok (.ldc 45, 2) := by decide +kernel
theorem dX5_init_103 : decode cX5_init 103 = .ok (.invokevirtual 47, 3) := by decide +kernel
theorem dX5_init_106 : decode cX5_init 106 = .ok (.aload_n 0, 1) := by decide +kernel
theorem dX5_init_107 : decode cX5_init 107 = .ok (.getfield 10, 3) := by decide +kernel
theorem dX5_init_110 : decode cX5_init 110 = .ok (.aload_n 0, 1) := by decide +kernel
theorem dX5_init_111 : decode cX5_init 111 = .ok (.getfield 19, 3) := by decide +kernel
theorem dX5_init_114 : decode cX5_init 114 = .ok (.invokevirtual 51, 3) := by decide +kernel
theorem dX5_init_117 : decode cX5_init 117 = .ok (.ifCond .eq 15, 3) := by decide +kernel
theorem dX5_init_120 : decode cX5_init 120 = .ok (.aload_n 0, 1) := by decide +kernel
theorem dX5_init_121 : decode cX5_init 121 = .ok (.getfield 10, 3) := by decide +kernel
theorem dX5_init_124 : decode cX5_init 124 = .ok (.aload_n 0, 1) := by decide +kernel
theorem dX5_init_125 : decode cX5_init 125 = .ok (.getfield 19, 3) := by decide +kernel
theorem dX5_init_128 : decode cX5_init 128 = .ok (.invokevirtual 55, 3) := by decide +kernel
theorem dX5_init_131 : decode cX5_init 131 = .ok (.pop, 1) := by decide +kernel
theorem dX5_init_132 : decode cX5_init 132 = .ok (.aload_n 0, 1) := by decide +kernel
theorem dX5_init_133 : decode cX5_init 133 = .ok (.getfield 10, 3) := by decide +kernel
theorem dX5_init_136 : decode cX5_init 136 = .ok (.invokevirtual 59, 3) := by decide +kernel
theorem dX5_init_139 : decode cX5_init 139 = .ok (.return_, 1) := by decide +kernel
theorem dX5_feed_0 : decode cX5_feed 0 = .ok (.aload_n 0, 1) := by decide +kernel
theorem dX5_feed_1 : decode cX5_feed 1 = .ok (.getfield 10, 3) := by decide +kernel
theorem dX5_feed_4 : decode cX5_feed 4 = .ok (.iload_n 1, 1) := by decide +kernel
theorem dX5_feed_5 : decode cX5_feed 5 = .ok (.iload_n 2, 1) := by decide +kernel
theorem dX5_feed_6 : decode cX5_feed 6 = .ok (.iload_n 3, 1) := by decide +kernel
theorem dX5_feed_7 : decode cX5_feed 7 = .ok (.iload 4, 2) := by decide +kernel
theorem dX5_feed_9 : decode cX5_feed 9 = .ok (.iload 5, 2) := by decide +kernel
theorem dX5_feed_11 : decode cX5_feed 11 = .ok (.invokevirtual 62, 3) := by decide +kernel
theorem dX5_feed_14 : decode cX5_feed 14 = .ok (.ireturn, 1) := by decide +kernel
theorem dX5_loadSetup_0 : decode cX5_loadSetup 0 = .ok (.aload_n 0, 1) := by decide +kernel
theorem dX5_loadSetup_1 : decode cX5_loadSetup 1 = .ok (.getfield 10, 3) := by decide +kernel
theorem dX5_loadSetup_4 : decode cX5_loadSetup 4 = .ok (.aload_n 0, 1) := by decide +kernel
theorem dX5_loadSetup_5 : decode cX5_loadSetup 5 = .ok (.getfield 23, 3) := by decide +kernel
theorem dX5_loadSetup_8 : decode cX5_loadSetup 8 = .ok (.invokevirtual 51, 3) := by decide +kernel
theorem dX5_loadSetup_11 : decode cX5_loadSetup 11 = .ok (.ifCond .eq 22, 3) := by decide +kernel
theorem dX5_loadSetup_14 : decode cX5_loadSetup 14 = .ok (.aload_n 0, 1) := by decide +kernel
theorem dX5_loadSetup_15 : decode cX5_loadSetup 15 = .ok (.getfield 10, 3) := by decide +kernel
theorem dX5_loadSetup_18 : decode cX5_loadSetup 18 = .ok (.aload_n 0, 1) := by decide +kernel
theorem dX5_loadSetup_19 : decode cX5_loadSetup 19 = .ok (.getfield 23, 3) := by decide +kernel
theorem dX5_loadSetup_22 : decode cX5_loadSetup 22 = .ok (.invokevirtual 55, 3) := by decide +kernel
theorem dX5_loadSetup_25 : decode cX5_loadSetup 25 = .ok (.iconst (-1), 1) := by decide +kernel
theorem dX5_loadSetup_26 : decode cX5_loadSetup 26 = .ok (.if_icmp .eq 7, 3) := by decide +kernel
theorem dX5_loadSetup_29 : decode cX5_loadSetup 29 = .ok (.iconst 1, 1) := by decide +kernel
theorem dX5_loadSetup_30 : decode cX5_loadSetup 30 = .ok (.goto 4, 3) := by decide +kernel
theorem dX5_loadSetup_33 : decode cX5_loadSetup 33 = .ok (.iconst 0, 1) := by decide +kernel
theorem dX5_loadSetup_34 : decode cX5_loadSetup 34 = .ok (.istore_n 1, 1) := by decide +kernel
theorem dX5_loadSetup_35 : decode cX5_loadSetup 35 = .ok (.aload_n 0, 1) := by decide +kernel
theorem dX5_loadSetup_36 : decode cX5_loadSetup 36 = .ok (.getfield 10, 3) := by decide +kernel
theorem dX5_loadSetup_39 : decode cX5_loadSetup 39 = .ok (.invokevirtual 59, 3) := by decide +kernel
theorem dX5_loadSetup_42 : decode cX5_loadSetup 42 = .ok (.iload_n 1, 1) := by decide +kernel
theorem dX5_loadSetup_43 : decode cX5_loadSetup 43 = .ok (.ifCond .ne 5, 3) := by decide +kernel
theorem dX5_loadSetup_46 : decode cX5_loadSetup 46 = .ok (.iconst (-1), 1) := by decide +kernel
theorem dX5_loadSetup_47 : decode cX5_loadSetup 47 = .ok (.ireturn, 1) := by decide +kernel
theorem dX5_loadSetup_48 : decode cX5_loadSetup 48 = .ok (.aload_n 0, 1) := by decide +kernel
theorem dX5_loadSetup_49 : decode cX5_loadSetup 49 = .ok (.getfield 19, 3) := by decide +kernel
theorem dX5_loadSetup_52 : decode cX5_loadSetup 52 = .ok (.aload_n 0, 1) := by decide +kernel
theorem dX5_loadSetup_53 : decode cX5_loadSetup 53 = .ok (.getfield 23, 3) := by decide +kernel
theorem dX5_loadSetup_56 : decode cX5_loadSetup 56 = .ok (.invokevirtual 66, 3) := by decide +kernel
theorem dX5_loadSetup_59 : decode cX5_loadSetup 59 = .ok (.aload_n 0, 1) := by decide +kernel
theorem dX5_loadSetup_60 : decode cX5_loadSetup 60 = .ok (.getfield 29, 3) := by decide +kernel
theorem dX5_loadSetup_63 : decode cX5_loadSetup 63 = .ok (.invokevirtual 70, 3) := by decide +kernel
theorem dX5_loadSetup_66 : decode cX5_loadSetup 66 = .ok (.iconst 0, 1) := by decide +kernel
theorem dX5_loadSetup_67 : decode cX5_loadSetup 67 = .ok (.istore_n 2, 1) := by decide +kernel
theorem dX5_loadSetup_68 : decode cX5_loadSetup 68 = .ok (.iload_n 2, 1) := by decide +kernel
theorem dX5_loadSetup_69 : decode cX5_loadSetup 69 = .ok (.iconst 2, 1) := by decide +kernel
theorem dX5_loadSetup_70 : decode cX5_loadSetup 70 = .ok (.if_icmp .ge 16, 3) := by decide +kernel
theorem dX5_loadSetup_73 : decode cX5_loadSetup 73 = .ok (.aload_n 0, 1) := by decide +kernel
theorem dX5_loadSetup_74 : decode cX5_loadSetup 74 = .ok (.getfield 37, 3) := by decide +kernel
theorem dX5_loadSetup_77 : decode cX5_loadSetup 77 = .ok (.iload_n 2, 1) := by decide +kernel
theorem dX5_loadSetup_78 : decode cX5_loadSetup 78 = .ok (.iconst 0, 1) := by decide +kernel
theorem dX5_loadSetup_79 : decode cX5_loadSetup 79 = .ok (.bastore, 1) := by decide +kernel
theorem dX5_loadSetup_80 : decode cX5_loadSetup 80 = .ok (.iinc 2 1, 3) := by decide +kernel
theorem dX5_loadSetup_83 : decode cX5_loadSetup 83 = .ok (.goto (-15), 3) := by decide +kernel
theorem dX5_loadSetup_86 : decode cX5_loadSetup 86 = .ok (.aload_n 0, 1) := by decide +kernel
theorem dX5_loadSetup_87 : decode cX5_loadSetup 87 = .ok (.getfield 19, 3) := by decide +kernel
theorem dX5_loadSetup_90 : decode cX5_loadSetup 90 = .ok (.getfield 71, 3) := by decide +kernel
theorem dX5_loadSetup_93 : decode cX5_loadSetup 93 = .ok (.ireturn, 1) := by decide +kernel
theorem dX5_runScript_0 : decode cX5_runScript 0 = .ok (.aload_n 0, 1) := by decide +kernel
theorem dX5_runScript_1 : decode cX5_runScript 1 = .ok (.getfield 23, 3) := by decide +kernel
theorem dX5_runScript_4 : decode cX5_runScript 4 = .ok (.aload_n 0, 1) := by decide +kernel
theorem dX5_runScript_5 : decode cX5_runScript 5 = .ok (.getfield 19, 3) := by decide +kernel
theorem dX5_runScript_8 : decode cX5_runScript 8 = .ok (.invokevirtual 66, 3) := by decide +kernel
theorem dX5_runScript_11 : decode cX5_runScript 11 = .ok (.aload_n 0, 1) := by decide +kernel
theorem dX5_runScript_12 : decode cX5_runScript 12 = .ok (.getfield 10, 3) := by decide +kernel
theorem dX5_runScript_15 : decode cX5_runScript 15 = .ok (.invokevirtual 75, 3) := by decide +kernel
theorem dX5_runScript_18 : decode cX5_runScript 18 = .ok (.aload_n 0, 1) := by decide +kernel
theorem dX5_runScript_19 : decode cX5_runScript 19 = .ok (.getfield 10, 3) := by decide +kernel
theorem dX5_runScript_22 : decode cX5_runScript 22 = .ok (.aload_n 0, 1) := by decide +kernel
theorem dX5_runScript_23 : decode cX5_runScript 23 = .ok (.getfield 23, 3) := by decide +kernel
theorem dX5_runScript_26 : decode cX5_runScript 26 = .ok (.invokevirtual 55, 3) := by decide +kernel
theorem dX5_runScript_29 : decode cX5_runScript 29 = .ok (.istore_n 1, 1) := by decide +kernel
theorem dX5_runScript_30 : decode cX5_runScript 30 = .ok (.aload_n 0, 1) := by decide +kernel
theorem dX5_runScript_31 : decode cX5_runScript 31 = .ok (.getfield 10, 3) := by decide +kernel
theorem dX5_runScript_34 : decode cX5_runScript 34 = .ok (.invokevirtual 59, 3) := by decide +kernel
theorem dX5_runScript_37 : decode cX5_runScript 37 = .ok (.iload_n 1, 1) := by decide +kernel
theorem dX5_runScript_38 : decode cX5_runScript 38 = .ok (.iconst (-1), 1) := by decide +kernel
theorem dX5_runScript_39 : decode cX5_runScript 39 = .ok (.if_icmp .ne 5, 3) := by decide +kernel
theorem dX5_runScript_42 : decode cX5_runScript 42 = .ok (.iconst (-1), 1) := by decide +kernel
theorem dX5_runScript_43 : decode cX5_runScript 43 = .ok (.ireturn, 1) := by decide +kernel
theorem dX5_runScript_44 : decode cX5_runScript 44 = .ok (.aload_n 0, 1) := by decide +kernel
theorem dX5_runScript_45 : decode cX5_runScript 45 = .ok (.getfield 29, 3) := by decide +kernel
theorem dX5_runScript_48 : decode cX5_runScript 48 = .ok (.aload_n 0, 1) := by decide +kernel
theorem dX5_runScript_49 : decode cX5_runScript 49 = .ok (.getfield 19, 3) := by decide +kernel
theorem dX5_runScript_52 : decode cX5_runScript 52 = .ok (.invokevirtual 78, 3) := by decide +kernel
theorem dX5_runScript_55 : decode cX5_runScript 55 = .ok (.aload_n 0, 1) := by decide +kernel
theorem dX5_runScript_56 : decode cX5_runScript 56 = .ok (.getfield 19, 3) := by decide +kernel
theorem dX5_runScript_59 : decode cX5_runScript 59 = .ok (.aload_n 0, 1) := by decide +kernel
theorem dX5_runScript_60 : decode cX5_runScript 60 = .ok (.getfield 23, 3) := by decide +kernel
theorem dX5_runScript_63 : decode cX5_runScript 63 = .ok (.invokevirtual 66, 3) := by decide +kernel
theorem dX5_runScript_66 : decode cX5_runScript 66 = .ok (.iload_n 1, 1) := by decide +kernel
theorem dX5_runScript_67 : decode cX5_runScript 67 = .ok (.ireturn, 1) := by decide +kernel
theorem dX5_errorCode_0 : decode cX5_errorCode 0 = .ok (.aload_n 0, 1) := by decide +kernel
theorem dX5_errorCode_1 : decode cX5_errorCode 1 = .ok (.getfield 10, 3) := by decide +kernel
theorem dX5_errorCode_4 : decode cX5_errorCode 4 = .ok (.getfield 81, 3) := by decide +kernel
theorem dX5_errorCode_7 : decode cX5_errorCode 7 = .ok (.ireturn, 1) := by decide +kernel
theorem dX5_errorPosition_0 : decode cX5_errorPosition 0 = .ok (.aload_n 0, 1) := by decide +kernel
theorem dX5_errorPosition_1 : decode cX5_errorPosition 1 = .ok (.getfield 10, 3) := by decide +kernel
theorem dX5_errorPosition_4 : decode cX5_errorPosition 4 = .ok (.getfield 84, 3) := by decide +kernel
theorem dX5_errorPosition_7 : decode cX5_errorPosition 7 = .ok (.ireturn, 1) := by decide +kernel
theorem dX5_minute_0 : decode cX5_minute 0 = .ok (.aload_n 0, 1) := by decide +kernel
theorem dX5_minute_1 : decode cX5_minute 1 = .ok (.getfield 19, 3) := by decide +kernel
theorem dX5_minute_4 : decode cX5_minute 4 = .ok (.getfield 87, 3) := by decide +kernel
theorem dX5_minute_7 : decode cX5_minute 7 = .ok (.ireturn, 1) := by decide +kernel
theorem dX5_shadowWidth_0 : decode cX5_shadowWidth 0 = .ok (.aload_n 0, 1) := by decide +kernel
theorem dX5_shadowWidth_1 : decode cX5_shadowWidth 1 = .ok (.getfield 19, 3) := by decide +kernel
theorem dX5_shadowWidth_4 : decode cX5_shadowWidth 4 = .ok (.getfield 90, 3) := by decide +kernel
theorem dX5_shadowWidth_7 : decode cX5_shadowWidth 7 = .ok (.getfield 94, 3) := by decide +kernel
theorem dX5_shadowWidth_10 : decode cX5_shadowWidth 10 = .ok (.ireturn, 1) := by decide +kernel
theorem dX5_undoCount_0 : decode cX5_undoCount 0 = .ok (.aload_n 0, 1) := by decide +kernel
theorem dX5_undoCount_1 : decode cX5_undoCount 1 = .ok (.getfield 29, 3) := by decide +kernel
theorem dX5_undoCount_4 : decode cX5_undoCount 4 = .ok (.getfield 99, 3) := by decide +kernel
theorem dX5_undoCount_7 : decode cX5_undoCount 7 = .ok (.ireturn, 1) := by decide +kernel
theorem dX5_windIn_0 : decode cX5_windIn 0 = .ok (.iload_n 1, 1) := by decide +kernel
theorem dX5_windIn_1 : decode cX5_windIn 1 = .ok (.iconst 0, 1) := by decide +kernel
theorem dX5_windIn_2 : decode cX5_windIn 2 = .ok (.ldc 102, 2) := by decide +kernel
theorem dX5_windIn_4 : decode cX5_windIn 4 = .ok (.invokestatic 103, 3) := by decide +kernel
theorem dX5_windIn_7 : decode cX5_windIn 7 = .ok (.aload_n 0, 1) := by decide +kernel
theorem dX5_windIn_8 : decode cX5_windIn 8 = .ok (.getfield 19, 3) := by decide +kernel
theorem dX5_windIn_11 : decode cX5_windIn 11 = .ok (.getfield 90, 3) := by decide +kernel
theorem dX5_windIn_14 : decode cX5_windIn 14 = .ok (.iload_n 1, 1) := by decide +kernel
theorem dX5_windIn_15 : decode cX5_windIn 15 = .ok (.invokevirtual 107, 3) := by decide +kernel
theorem dX5_windIn_18 : decode cX5_windIn 18 = .ok (.ireturn, 1) := by decide +kernel
theorem dX5_rainIn_0 : decode cX5_rainIn 0 = .ok (.iload_n 1, 1) := by decide +kernel
theorem dX5_rainIn_1 : decode cX5_rainIn 1 = .ok (.iconst 0, 1) := by decide +kernel
theorem dX5_rainIn_2 : decode cX5_rainIn 2 = .ok (.ldc 102, 2) := by decide +kernel
theorem dX5_rainIn_4 : decode cX5_rainIn 4 = .ok (.invokestatic 103, 3) := by decide +kernel
theorem dX5_rainIn_7 : decode cX5_rainIn 7 = .ok (.aload_n 0, 1) := by decide +kernel
theorem dX5_rainIn_8 : decode cX5_rainIn 8 = .ok (.getfield 19, 3) := by decide +kernel
theorem dX5_rainIn_11 : decode cX5_rainIn 11 = .ok (.getfield 90, 3) := by decide +kernel
theorem dX5_rainIn_14 : decode cX5_rainIn 14 = .ok (.iload_n 1, 1) := by decide +kernel
theorem dX5_rainIn_15 : decode cX5_rainIn 15 = .ok (.invokevirtual 111, 3) := by decide +kernel
theorem dX5_rainIn_18 : decode cX5_rainIn 18 = .ok (.ireturn, 1) := by decide +kernel
theorem dX5_sunnySpots_0 : decode cX5_sunnySpots 0 = .ok (.iload_n 1, 1) := by decide +kernel
theorem dX5_sunnySpots_1 : decode cX5_sunnySpots 1 = .ok (.iconst 0, 1) := by decide +kernel
theorem dX5_sunnySpots_2 : decode cX5_sunnySpots 2 = .ok (.ldc 102, 2) := by decide +kernel
theorem dX5_sunnySpots_4 : decode cX5_sunnySpots 4 = .ok (.invokestatic 103, 3) := by decide +kernel
theorem dX5_sunnySpots_7 : decode cX5_sunnySpots 7 = .ok (.aload_n 0, 1) := by decide +kernel
theorem dX5_sunnySpots_8 : decode cX5_sunnySpots 8 = .ok (.getfield 19, 3) := by decide +kernel
theorem dX5_sunnySpots_11 : decode cX5_sunnySpots 11 = .ok (.getfield 90, 3) := by decide +kernel
theorem dX5_sunnySpots_14 : decode cX5_sunnySpots 14 = .ok (.iload_n 1, 1) := by decide +kernel
theorem dX5_sunnySpots_15 : decode cX5_sunnySpots 15 = .ok (.invokevirtual 114, 3) := by decide +kernel
theorem dX5_sunnySpots_18 : decode cX5_sunnySpots 18 = .ok (.ireturn, 1) := by decide +kernel
theorem dX5_smokySpots_0 : decode cX5_smokySpots 0 = .ok (.iload_n 1, 1) := by decide +kernel
theorem dX5_smokySpots_1 : decode cX5_smokySpots 1 = .ok (.iconst 0, 1) := by decide +kernel
theorem dX5_smokySpots_2 : decode cX5_smokySpots 2 = .ok (.ldc 102, 2) := by decide +kernel
theorem dX5_smokySpots_4 : decode cX5_smokySpots 4 = .ok (.invokestatic 103, 3) := by decide +kernel
theorem dX5_smokySpots_7 : decode cX5_smokySpots 7 = .ok (.aload_n 0, 1) := by decide +kernel
theorem dX5_smokySpots_8 : decode cX5_smokySpots 8 = .ok (.getfield 19, 3) := by decide +kernel
theorem dX5_smokySpots_11 : decode cX5_smokySpots 11 = .ok (.getfield 90, 3) := by decide +kernel
theorem dX5_smokySpots_14 : decode cX5_smokySpots 14 = .ok (.iload_n 1, 1) := by decide +kernel
theorem dX5_smokySpots_15 : decode cX5_smokySpots 15 = .ok (.invokevirtual 117, 3) := by decide +kernel
theorem dX5_smokySpots_18 : decode cX5_smokySpots 18 = .ok (.ireturn, 1) := by decide +kernel
theorem dX5_minutesToRain_0 : decode cX5_minutesToRain 0 = .ok (.aload_n 0, 1) := by decide +kernel
theorem dX5_minutesToRain_1 : decode cX5_minutesToRain 1 = .ok (.getfield 19, 3) := by decide +kernel
theorem dX5_minutesToRain_4 : decode cX5_minutesToRain 4 = .ok (.getfield 90, 3) := by decide +kernel
theorem dX5_minutesToRain_7 : decode cX5_minutesToRain 7 = .ok (.aload_n 0, 1) := by decide +kernel
theorem dX5_minutesToRain_8 : decode cX5_minutesToRain 8 = .ok (.getfield 19, 3) := by decide +kernel
theorem dX5_minutesToRain_11 : decode cX5_minutesToRain 11 = .ok (.getfield 87, 3) := by decide +kernel
theorem dX5_minutesToRain_14 : decode cX5_minutesToRain 14 = .ok (.invokevirtual 120, 3) := by decide +kernel
theorem dX5_minutesToRain_17 : decode cX5_minutesToRain 17 = .ok (.ireturn, 1) := by decide +kernel
theorem dX5_woodenLeft_0 : decode cX5_woodenLeft 0 = .ok (.aload_n 0, 1) := by decide +kernel
theorem dX5_woodenLeft_1 : decode cX5_woodenLeft 1 = .ok (.getfield 19, 3) := by decide +kernel
theorem dX5_woodenLeft_4 : decode cX5_woodenLeft 4 = .ok (.invokevirtual 123, 3) := by decide +kernel
theorem dX5_woodenLeft_7 : decode cX5_woodenLeft 7 = .ok (.ireturn, 1) := by decide +kernel
theorem dX5_steelLeft_0 : decode cX5_steelLeft 0 = .ok (.aload_n 0, 1) := by decide +kernel
theorem dX5_steelLeft_1 : decode cX5_steelLeft 1 = .ok (.getfield 19, 3) := by decide +kernel
theorem dX5_steelLeft_4 : decode cX5_steelLeft 4 = .ok (.invokevirtual 127, 3) := by decide +kernel
theorem dX5_steelLeft_7 : decode cX5_steelLeft 7 = .ok (.ireturn, 1) := by decide +kernel
theorem dX5_freeSpots_0 : decode cX5_freeSpots 0 = .ok (.ldc 130, 2) := by decide +kernel
theorem dX5_freeSpots_2 : decode cX5_freeSpots 2 = .ok (.aload_n 0, 1) := by decide +kernel
theorem dX5_freeSpots_3 : decode cX5_freeSpots 3 = .ok (.getfield 19, 3) := by decide +kernel
theorem dX5_freeSpots_6 : decode cX5_freeSpots 6 = .ok (.invokevirtual 131, 3) := by decide +kernel
theorem dX5_freeSpots_9 : decode cX5_freeSpots 9 = .ok (.iconst (-1), 1) := by decide +kernel
theorem dX5_freeSpots_10 : decode cX5_freeSpots 10 = .ok (.ixor, 1) := by decide +kernel
theorem dX5_freeSpots_11 : decode cX5_freeSpots 11 = .ok (.iand, 1) := by decide +kernel
theorem dX5_freeSpots_12 : decode cX5_freeSpots 12 = .ok (.ireturn, 1) := by decide +kernel
theorem dX5_longestGap_0 : decode cX5_longestGap 0 = .ok (.aload_n 0, 1) := by decide +kernel
theorem dX5_longestGap_1 : decode cX5_longestGap 1 = .ok (.getfield 19, 3) := by decide +kernel
theorem dX5_longestGap_4 : decode cX5_longestGap 4 = .ok (.invokevirtual 131, 3) := by decide +kernel
theorem dX5_longestGap_7 : decode cX5_longestGap 7 = .ok (.istore_n 1, 1) := by decide +kernel
theorem dX5_longestGap_8 : decode cX5_longestGap 8 = .ok (.iconst 0, 1) := by decide +kernel
theorem dX5_longestGap_9 : decode cX5_longestGap 9 = .ok (.istore_n 2, 1) := by decide +kernel
theorem dX5_longestGap_10 : decode cX5_longestGap 10 = .ok (.iconst 0, 1) := by decide +kernel
theorem dX5_longestGap_11 : decode cX5_longestGap 11 = .ok (.istore_n 3, 1) := by decide +kernel
theorem dX5_longestGap_12 : decode cX5_longestGap 12 = .ok (.iconst 0, 1) := by decide +kernel
theorem dX5_longestGap_13 : decode cX5_longestGap 13 = .ok (.istore 4, 2) := by decide +kernel
theorem dX5_longestGap_15 : decode cX5_longestGap 15 = .ok (.iload 4, 2) := by decide +kernel
theorem dX5_longestGap_17 : decode cX5_longestGap 17 = .ok (.bipush 24, 2) := by decide +kernel
theorem dX5_longestGap_19 : decode cX5_longestGap 19 = .ok (.if_icmp .ge 32, 3) := by decide +kernel
theorem dX5_longestGap_22 : decode cX5_longestGap 22 = .ok (.iload_n 1, 1) := by decide +kernel
theorem dX5_longestGap_23 : decode cX5_longestGap 23 = .ok (.iload 4, 2) := by decide +kernel
theorem dX5_longestGap_25 : decode cX5_longestGap 25 = .ok (.ishr, 1) := by decide +kernel
theorem dX5_longestGap_26 : decode cX5_longestGap 26 = .ok (.iconst 1, 1) := by decide +kernel
theorem dX5_longestGap_27 : decode cX5_longestGap 27 = .ok (.iand, 1) := by decide +kernel
theorem dX5_longestGap_28 : decode cX5_longestGap 28 = .ok (.ifCond .ne 9, 3) := by decide +kernel
theorem dX5_longestGap_31 : decode cX5_longestGap 31 = .ok (.iload_n 3, 1) := by decide +kernel
theorem dX5_longestGap_32 : decode cX5_longestGap 32 = .ok (.iconst 1, 1) := by decide +kernel
theorem dX5_longestGap_33 : decode cX5_longestGap 33 = .ok (.iadd, 1) := by decide +kernel
theorem dX5_longestGap_34 : decode cX5_longestGap 34 = .ok (.goto 4, 3) := by decide +kernel
theorem dX5_longestGap_37 : decode cX5_longestGap 37 = .ok (.iconst 0, 1) := by decide +kernel
theorem dX5_longestGap_38 : decode cX5_longestGap 38 = .ok (.istore_n 3, 1) := by decide +kernel
theorem dX5_longestGap_39 : decode cX5_longestGap 39 = .ok (.iload_n 2, 1) := by decide +kernel
theorem dX5_longestGap_40 : decode cX5_longestGap 40 = .ok (.iload_n 3, 1) := by decide +kernel
theorem dX5_longestGap_41 : decode cX5_longestGap 41 = .ok (.invokestatic 134, 3) := by decide +kernel
theorem dX5_longestGap_44 : decode cX5_longestGap 44 = .ok (.istore_n 2, 1) := by decide +kernel
theorem dX5_longestGap_45 : decode cX5_longestGap 45 = .ok (.iinc 4 1, 3) := by decide +kernel
theorem dX5_longestGap_48 : decode cX5_longestGap 48 = .ok (.goto (-33), 3) := by decide +kernel
theorem dX5_longestGap_51 : decode cX5_longestGap 51 = .ok (.iload_n 2, 1) := by decide +kernel
theorem dX5_longestGap_52 : decode cX5_longestGap 52 = .ok (.ireturn, 1) := by decide +kernel
theorem dX5_garmentAt_0 : decode cX5_garmentAt 0 = .ok (.iload_n 1, 1) := by decide +kernel
theorem dX5_garmentAt_1 : decode cX5_garmentAt 1 = .ok (.iconst 0, 1) := by decide +kernel
theorem dX5_garmentAt_2 : decode cX5_garmentAt 2 = .ok (.bipush 23, 2) := by decide +kernel
theorem dX5_garmentAt_4 : decode cX5_garmentAt 4 = .ok (.invokestatic 103, 3) := by decide +kernel
theorem dX5_garmentAt_7 : decode cX5_garmentAt 7 = .ok (.aload_n 0, 1) := by decide +kernel
theorem dX5_garmentAt_8 : decode cX5_garmentAt 8 = .ok (.getfield 19, 3) := by decide +kernel
theorem dX5_garmentAt_11 : decode cX5_garmentAt 11 = .ok (.iload_n 1, 1) := by decide +kernel
theorem dX5_garmentAt_12 : decode cX5_garmentAt 12 = .ok (.invokevirtual 140, 3) := by decide +kernel
theorem dX5_garmentAt_15 : decode cX5_garmentAt 15 = .ok (.ireturn, 1) := by decide +kernel
theorem dX5_garmentByPlace_0 : decode cX5_garmentByPlace 0 = .ok (.iconst 0, 1) := by decide +kernel
theorem dX5_garmentByPlace_1 : decode cX5_garmentByPlace 1 = .ok (.istore_n 2, 1) := by decide +kernel
theorem dX5_garmentByPlace_2 : decode cX5_garmentByPlace 2 = .ok (.iconst (-1), 1) := by decide +kernel
theorem dX5_garmentByPlace_3 : decode cX5_garmentByPlace 3 = .ok (.istore_n 3, 1) := by decide +kernel
theorem dX5_garmentByPlace_4 : decode cX5_garmentByPlace 4 = .ok (.iconst 0, 1) := by decide +kernel
theorem dX5_garmentByPlace_5 : decode cX5_garmentByPlace 5 = .ok (.istore 4, 2) := by decide +kernel
theorem dX5_garmentByPlace_7 : decode cX5_garmentByPlace 7 = .ok (.iload 4, 2) := by decide +kernel
theorem dX5_garmentByPlace_9 : decode cX5_garmentByPlace 9 = .ok (.bipush 24, 2) := by decide +kernel
theorem dX5_garmentByPlace_11 : decode cX5_garmentByPlace 11 = .ok (.if_icmp .ge 46, 3) := by decide +kernel
theorem dX5_garmentByPlace_14 : decode cX5_garmentByPlace 14 = .ok (.aload_n 0, 1) := by decide +kernel
theorem dX5_garmentByPlace_15 : decode cX5_garmentByPlace 15 = .ok (.getfield 19, 3) := by decide +kernel
theorem dX5_garmentByPlace_18 : decode cX5_garmentByPlace 18 = .ok (.iload 4, 2) := by decide +kernel
theorem dX5_garmentByPlace_20 : decode cX5_garmentByPlace 20 = .ok (.invokevirtual 140, 3) := by decide +kernel
theorem dX5_garmentByPlace_23 : decode cX5_garmentByPlace 23 = .ok (.istore 5, 2) := by decide +kernel
theorem dX5_garmentByPlace_25 : decode cX5_garmentByPlace 25 = .ok (.iload 5, 2) := by decide +kernel
theorem dX5_garmentByPlace_27 : decode cX5_garmentByPlace 27 = .ok (.iconst (-1), 1) := by decide +kernel
theorem dX5_garmentByPlace_28 : decode cX5_garmentByPlace 28 = .ok (.if_icmp .eq 23, 3) := by decide +kernel
theorem dX5_garmentByPlace_31 : decode cX5_garmentByPlace 31 = .ok (.iload 5, 2) := by decide +kernel
theorem dX5_garmentByPlace_33 : decode cX5_garmentByPlace 33 = .ok (.iload_n 3, 1) := by decide +kernel
theorem dX5_garmentByPlace_34 : decode cX5_garmentByPlace 34 = .ok (.if_icmp .eq 17, 3) := by decide +kernel
theorem dX5_garmentByPlace_37 : decode cX5_garmentByPlace 37 = .ok (.iload_n 2, 1) := by decide +kernel
theorem dX5_garmentByPlace_38 : decode cX5_garmentByPlace 38 = .ok (.iload_n 1, 1) := by decide +kernel
theorem dX5_garmentByPlace_39 : decode cX5_garmentByPlace 39 = .ok (.if_icmp .ne 6, 3) := by decide +kernel
theorem dX5_garmentByPlace_42 : decode cX5_garmentByPlace 42 = .ok (.iload 5, 2) := by decide +kernel
theorem dX5_garmentByPlace_44 : decode cX5_garmentByPlace 44 = .ok (.ireturn, 1) := by decide +kernel
theorem dX5_garmentByPlace_45 : decode cX5_garmentByPlace 45 = .ok (.iinc 2 1, 3) := by decide +kernel
theorem dX5_garmentByPlace_48 : decode cX5_garmentByPlace 48 = .ok (.iload 5, 2) := by decide +kernel
theorem dX5_garmentByPlace_50 : decode cX5_garmentByPlace 50 = .ok (.istore_n 3, 1) := by decide +kernel
theorem dX5_garmentByPlace_51 : decode cX5_garmentByPlace 51 = .ok (.iinc 4 1, 3) := by decide +kernel
theorem dX5_garmentByPlace_54 : decode cX5_garmentByPlace 54 = .ok (.goto (-47), 3) := by decide +kernel
theorem dX5_garmentByPlace_57 : decode cX5_garmentByPlace 57 = .ok (.iconst (-1), 1) := by decide +kernel
theorem dX5_garmentByPlace_58 : decode cX5_garmentByPlace 58 = .ok (.ireturn, 1) := by decide +kernel
theorem dX5_garmentCount_0 : decode cX5_garmentCount 0 = .ok (.aload_n 0, 1) := by decide +kernel
theorem dX5_garmentCount_1 : decode cX5_garmentCount 1 = .ok (.getfield 19, 3) := by decide +kernel
theorem dX5_garmentCount_4 : decode cX5_garmentCount 4 = .ok (.getfield 71, 3) := by decide +kernel
theorem dX5_garmentCount_7 : decode cX5_garmentCount 7 = .ok (.ireturn, 1) := by decide +kernel
theorem dX5_stateOf_0 : decode cX5_stateOf 0 = .ok (.aload_n 0, 1) := by decide +kernel
theorem dX5_stateOf_1 : decode cX5_stateOf 1 = .ok (.iload_n 1, 1) := by decide +kernel
theorem dX5_stateOf_2 : decode cX5_stateOf 2 = .ok (.invokevirtual 143, 3) := by decide +kernel
theorem dX5_stateOf_5 : decode cX5_stateOf 5 = .ok (.getfield 147, 3) := by decide +kernel
theorem dX5_stateOf_8 : decode cX5_stateOf 8 = .ok (.ireturn, 1) := by decide +kernel
theorem dX5_widthOf_0 : decode cX5_widthOf 0 = .ok (.aload_n 0, 1) := by decide +kernel
theorem dX5_widthOf_1 : decode cX5_widthOf 1 = .ok (.iload_n 1, 1) := by decide +kernel
theorem dX5_widthOf_2 : decode cX5_widthOf 2 = .ok (.invokevirtual 143, 3) := by decide +kernel
theorem dX5_widthOf_5 : decode cX5_widthOf 5 = .ok (.getfield 152, 3) := by decide +kernel
theorem dX5_widthOf_8 : decode cX5_widthOf 8 = .ok (.ireturn, 1) := by decide +kernel
theorem dX5_dryWeight_0 : decode cX5_dryWeight 0 = .ok (.aload_n 0, 1) := by decide +kernel
theorem dX5_dryWeight_1 : decode cX5_dryWeight 1 = .ok (.iload_n 1, 1) := by decide +kernel
theorem dX5_dryWeight_2 : decode cX5_dryWeight 2 = .ok (.invokevirtual 143, 3) := by decide +kernel
theorem dX5_dryWeight_5 : decode cX5_dryWeight 5 = .ok (.getfield 155, 3) := by decide +kernel
theorem dX5_dryWeight_8 : decode cX5_dryWeight 8 = .ok (.ireturn, 1) := by decide +kernel
theorem dX5_capacityOf_0 : decode cX5_capacityOf 0 = .ok (.aload_n 0, 1) := by decide +kernel
theorem dX5_capacityOf_1 : decode cX5_capacityOf 1 = .ok (.iload_n 1, 1) := by decide +kernel
theorem dX5_capacityOf_2 : decode cX5_capacityOf 2 = .ok (.invokevirtual 143, 3) := by decide +kernel
theorem dX5_capacityOf_5 : decode cX5_capacityOf 5 = .ok (.getfield 158, 3) := by decide +kernel
theorem dX5_capacityOf_8 : decode cX5_capacityOf 8 = .ok (.ireturn, 1) := by decide +kernel
theorem dX5_waterOf_0 : decode cX5_waterOf 0 = .ok (.aload_n 0, 1) := by decide +kernel
theorem dX5_waterOf_1 : decode cX5_waterOf 1 = .ok (.iload_n 1, 1) := by decide +kernel
theorem dX5_waterOf_2 : decode cX5_waterOf 2 = .ok (.invokevirtual 143, 3) := by decide +kernel
theorem dX5_waterOf_5 : decode cX5_waterOf 5 = .ok (.getfield 161, 3) := by decide +kernel
theorem dX5_waterOf_8 : decode cX5_waterOf 8 = .ok (.ireturn, 1) := by decide +kernel
theorem dX5_weightOf_0 : decode cX5_weightOf 0 = .ok (.aload_n 0, 1) := by decide +kernel
theorem dX5_weightOf_1 : decode cX5_weightOf 1 = .ok (.iload_n 1, 1) := by decide +kernel
theorem dX5_weightOf_2 : decode cX5_weightOf 2 = .ok (.invokevirtual 143, 3) := by decide +kernel
theorem dX5_weightOf_5 : decode cX5_weightOf 5 = .ok (.invokevirtual 164, 3) := by decide +kernel
theorem dX5_weightOf_8 : decode cX5_weightOf 8 = .ok (.ireturn, 1) := by decide +kernel
theorem dX5_smellOf_0 : decode cX5_smellOf 0 = .ok (.aload_n 0, 1) := by decide +kernel
theorem dX5_smellOf_1 : decode cX5_smellOf 1 = .ok (.iload_n 1, 1) := by decide +kernel
theorem dX5_smellOf_2 : decode cX5_smellOf 2 = .ok (.invokevirtual 143, 3) := by decide +kernel
theorem dX5_smellOf_5 : decode cX5_smellOf 5 = .ok (.getfield 167, 3) := by decide +kernel
theorem dX5_smellOf_8 : decode cX5_smellOf 8 = .ok (.ireturn, 1) := by decide +kernel
theorem dX5_spotOf_0 : decode cX5_spotOf 0 = .ok (.aload_n 0, 1) := by decide +kernel
theorem dX5_spotOf_1 : decode cX5_spotOf 1 = .ok (.iload_n 1, 1) := by decide +kernel
theorem dX5_spotOf_2 : decode cX5_spotOf 2 = .ok (.invokevirtual 143, 3) := by decide +kernel
theorem dX5_spotOf_5 : decode cX5_spotOf 5 = .ok (.getfield 170, 3) := by decide +kernel
theorem dX5_spotOf_8 : decode cX5_spotOf 8 = .ok (.ireturn, 1) := by decide +kernel
theorem dX5_woodenOf_0 : decode cX5_woodenOf 0 = .ok (.aload_n 0, 1) := by decide +kernel
theorem dX5_woodenOf_1 : decode cX5_woodenOf 1 = .ok (.iload_n 1, 1) := by decide +kernel
theorem dX5_woodenOf_2 : decode cX5_woodenOf 2 = .ok (.invokevirtual 143, 3) := by decide +kernel
theorem dX5_woodenOf_5 : decode cX5_woodenOf 5 = .ok (.getfield 173, 3) := by decide +kernel
theorem dX5_woodenOf_8 : decode cX5_woodenOf 8 = .ok (.ireturn, 1) := by decide +kernel
theorem dX5_steelOf_0 : decode cX5_steelOf 0 = .ok (.aload_n 0, 1) := by decide +kernel
theorem dX5_steelOf_1 : decode cX5_steelOf 1 = .ok (.iload_n 1, 1) := by decide +kernel
theorem dX5_steelOf_2 : decode cX5_steelOf 2 = .ok (.invokevirtual 143, 3) := by decide +kernel
theorem dX5_steelOf_5 : decode cX5_steelOf 5 = .ok (.getfield 176, 3) := by decide +kernel
theorem dX5_steelOf_8 : decode cX5_steelOf 8 = .ok (.ireturn, 1) := by decide +kernel
theorem dX5_holdOf_0 : decode cX5_holdOf 0 = .ok (.aload_n 0, 1) := by decide +kernel
theorem dX5_holdOf_1 : decode cX5_holdOf 1 = .ok (.iload_n 1, 1) := by decide +kernel
theorem dX5_holdOf_2 : decode cX5_holdOf 2 = .ok (.invokevirtual 143, 3) := by decide +kernel
theorem dX5_holdOf_5 : decode cX5_holdOf 5 = .ok (.invokevirtual 179, 3) := by decide +kernel
theorem dX5_holdOf_8 : decode cX5_holdOf 8 = .ok (.ireturn, 1) := by decide +kernel
theorem dX5_fallsOf_0 : decode cX5_fallsOf 0 = .ok (.aload_n 0, 1) := by decide +kernel
theorem dX5_fallsOf_1 : decode cX5_fallsOf 1 = .ok (.iload_n 1, 1) := by decide +kernel
theorem dX5_fallsOf_2 : decode cX5_fallsOf 2 = .ok (.invokevirtual 143, 3) := by decide +kernel
theorem dX5_fallsOf_5 : decode cX5_fallsOf 5 = .ok (.getfield 182, 3) := by decide +kernel
theorem dX5_fallsOf_8 : decode cX5_fallsOf 8 = .ok (.ireturn, 1) := by decide +kernel
theorem dX5_isDirty_0 : decode cX5_isDirty 0 = .ok (.aload_n 0, 1) := by decide +kernel
theorem dX5_isDirty_1 : decode cX5_isDirty 1 = .ok (.iload_n 1, 1) := by decide +kernel
theorem dX5_isDirty_2 : decode cX5_isDirty 2 = .ok (.invokevirtual 143, 3) := by decide +kernel
theorem dX5_isDirty_5 : decode cX5_isDirty 5 = .ok (.getfield 185, 3) := by decide +kernel
theorem dX5_isDirty_8 : decode cX5_isDirty 8 = .ok (.ireturn, 1) := by decide +kernel
theorem dX5_garmentsIn_0 : decode cX5_garmentsIn 0 = .ok (.iload_n 1, 1) := by decide +kernel
theorem dX5_garmentsIn_1 : decode cX5_garmentsIn 1 = .ok (.iconst 0, 1) := by decide +kernel
theorem dX5_garmentsIn_2 : decode cX5_garmentsIn 2 = .ok (.iconst 2, 1) := by decide +kernel
theorem dX5_garmentsIn_3 : decode cX5_garmentsIn 3 = .ok (.invokestatic 103, 3) := by decide +kernel
theorem dX5_garmentsIn_6 : decode cX5_garmentsIn 6 = .ok (.aload_n 0, 1) := by decide +kernel
theorem dX5_garmentsIn_7 : decode cX5_garmentsIn 7 = .ok (.getfield 19, 3) := by decide +kernel
theorem dX5_garmentsIn_10 : decode cX5_garmentsIn 10 = .ok (.iload_n 1, 1) := by decide +kernel
theorem dX5_garmentsIn_11 : decode cX5_garmentsIn 11 = .ok (.invokevirtual 189, 3) := by decide +kernel
theorem dX5_garmentsIn_14 : decode cX5_garmentsIn 14 = .ok (.ireturn, 1) := by decide +kernel
theorem dX5_dryGarments_0 : decode cX5_dryGarments 0 = .ok (.iconst 0, 1) := by decide +kernel
theorem dX5_dryGarments_1 : decode cX5_dryGarments 1 = .ok (.istore_n 1, 1) := by decide +kernel
theorem dX5_dryGarments_2 : decode cX5_dryGarments 2 = .ok (.iconst 0, 1) := by decide +kernel
theorem dX5_dryGarments_3 : decode cX5_dryGarments 3 = .ok (.istore_n 2, 1) := by decide +kernel
theorem dX5_dryGarments_4 : decode cX5_dryGarments 4 = .ok (.iload_n 2, 1) := by decide +kernel
theorem dX5_dryGarments_5 : decode cX5_dryGarments 5 = .ok (.aload_n 0, 1) := by decide +kernel
theorem dX5_dryGarments_6 : decode cX5_dryGarments 6 = .ok (.getfield 19, 3) := by decide +kernel
theorem dX5_dryGarments_9 : decode cX5_dryGarments 9 = .ok (.getfield 71, 3) := by decide +kernel
theorem dX5_dryGarments_12 : decode cX5_dryGarments 12 = .ok (.if_icmp .ge 30, 3) := by decide +kernel
theorem dX5_dryGarments_15 : decode cX5_dryGarments 15 = .ok (.aload_n 0, 1) := by decide +kernel
theorem dX5_dryGarments_16 : decode cX5_dryGarments 16 = .ok (.getfield 19, 3) := by decide +kernel
theorem dX5_dryGarments_19 : decode cX5_dryGarments 19 = .ok (.getfield 192, 3) := by decide +kernel
theorem dX5_dryGarments_22 : decode cX5_dryGarments 22 = .ok (.iload_n 2, 1) := by decide +kernel
theorem dX5_dryGarments_23 : decode cX5_dryGarments 23 = .ok (.aaload, 1) := by decide +kernel
theorem dX5_dryGarments_24 : decode cX5_dryGarments 24 = .ok (.getfield 161, 3) := by decide +kernel
theorem dX5_dryGarments_27 : decode cX5_dryGarments 27 = .ok (.ifCond .ne 9, 3) := by decide +kernel
theorem dX5_dryGarments_30 : decode cX5_dryGarments 30 = .ok (.iload_n 1, 1) := by decide +kernel
theorem dX5_dryGarments_31 : decode cX5_dryGarments 31 = .ok (.iconst 1, 1) := by decide +kernel
theorem dX5_dryGarments_32 : decode cX5_dryGarments 32 = .ok (.iload_n 2, 1) := by decide +kernel
theorem dX5_dryGarments_33 : decode cX5_dryGarments 33 = .ok (.ishl, 1) := by decide +kernel
theorem dX5_dryGarments_34 : decode cX5_dryGarments 34 = .ok (.ior, 1) := by decide +kernel
theorem dX5_dryGarments_35 : decode cX5_dryGarments 35 = .ok (.istore_n 1, 1) := by decide +kernel
theorem dX5_dryGarments_36 : decode cX5_dryGarments 36 = .ok (.iinc 2 1, 3) := by decide +kernel
theorem dX5_dryGarments_39 : decode cX5_dryGarments 39 = .ok (.goto (-35), 3) := by decide +kernel
theorem dX5_dryGarments_42 : decode cX5_dryGarments 42 = .ok (.iload_n 1, 1) := by decide +kernel
theorem dX5_dryGarments_43 : decode cX5_dryGarments 43 = .ok (.ireturn, 1) := by decide +kernel
theorem dX5_hangObstacle_0 : decode cX5_hangObstacle 0 = .ok (.aload_n 0, 1) := by decide +kernel
theorem dX5_hangObstacle_1 : decode cX5_hangObstacle 1 = .ok (.iload_n 1, 1) := by decide +kernel
theorem dX5_hangObstacle_2 : decode cX5_hangObstacle 2 = .ok (.invokevirtual 143, 3) := by decide +kernel
theorem dX5_hangObstacle_5 : decode cX5_hangObstacle 5 = .ok (.astore 5, 2) := by decide +kernel
theorem dX5_hangObstacle_7 : decode cX5_hangObstacle 7 = .ok (.iload_n 2, 1) := by decide +kernel
theorem dX5_hangObstacle_8 : decode cX5_hangObstacle 8 = .ok (.iconst 0, 1) := by decide +kernel
theorem dX5_hangObstacle_9 : decode cX5_hangObstacle 9 = .ok (.bipush 23, 2) := by decide +kernel
theorem dX5_hangObstacle_11 : decode cX5_hangObstacle 11 = .ok (.invokestatic 103, 3) := by decide +kernel
theorem dX5_hangObstacle_14 : decode cX5_hangObstacle 14 = .ok (.iload_n 3, 1) := by decide +kernel
theorem dX5_hangObstacle_15 : decode cX5_hangObstacle 15 = .ok (.iconst 0, 1) := by decide +kernel
theorem dX5_hangObstacle_16 : decode cX5_hangObstacle 16 = .ok (.iconst 4, 1) := by decide +kernel
theorem dX5_hangObstacle_17 : decode cX5_hangObstacle 17 = .ok (.invokestatic 103, 3) := by decide +kernel
theorem dX5_hangObstacle_20 : decode cX5_hangObstacle 20 = .ok (.iload 4, 2) := by decide +kernel
theorem dX5_hangObstacle_22 : decode cX5_hangObstacle 22 = .ok (.iconst 0, 1) := by decide +kernel
theorem dX5_hangObstacle_23 : decode cX5_hangObstacle 23 = .ok (.iconst 4, 1) := by decide +kernel
theorem dX5_hangObstacle_24 : decode cX5_hangObstacle 24 = .ok (.invokestatic 103, 3) := by decide +kernel
theorem dX5_hangObstacle_27 : decode cX5_hangObstacle 27 = .ok (.aload_n 0, 1) := by decide +kernel
theorem dX5_hangObstacle_28 : decode cX5_hangObstacle 28 = .ok (.getfield 19, 3) := by decide +kernel
theorem dX5_hangObstacle_31 : decode cX5_hangObstacle 31 = .ok (.aload 5, 2) := by decide +kernel
theorem dX5_hangObstacle_33 : decode cX5_hangObstacle 33 = .ok (.iload_n 2, 1) := by decide +kernel
theorem dX5_hangObstacle_34 : decode cX5_hangObstacle 34 = .ok (.iload_n 3, 1) := by decide +kernel
theorem dX5_hangObstacle_35 : decode cX5_hangObstacle 35 = .ok (.iload 4, 2) := by decide +kernel
theorem dX5_hangObstacle_37 : decode cX5_hangObstacle 37 = .ok (.invokevirtual 196, 3) := by decide +kernel
theorem dX5_hangObstacle_40 : decode cX5_hangObstacle 40 = .ok (.ireturn, 1) := by decide +kernel
theorem dX5_fewestPegs_0 : decode cX5_fewestPegs 0 = .ok (.aload_n 0, 1) := by decide +kernel
theorem dX5_fewestPegs_1 : decode cX5_fewestPegs 1 = .ok (.iload_n 1, 1) := by decide +kernel
theorem dX5_fewestPegs_2 : decode cX5_fewestPegs 2 = .ok (.invokevirtual 143, 3) := by decide +kernel
theorem dX5_fewestPegs_5 : decode cX5_fewestPegs 5 = .ok (.invokevirtual 164, 3) := by decide +kernel
theorem dX5_fewestPegs_8 : decode cX5_fewestPegs 8 = .ok (.istore_n 2, 1) := by decide +kernel
theorem dX5_fewestPegs_9 : decode cX5_fewestPegs 9 = .ok (.aload_n 0, 1) := by decide +kernel
theorem dX5_fewestPegs_10 : decode cX5_fewestPegs 10 = .ok (.getfield 19, 3) := by decide +kernel
theorem dX5_fewestPegs_13 : decode cX5_fewestPegs 13 = .ok (.invokevirtual 123, 3) := by decide +kernel
theorem dX5_fewestPegs_16 : decode cX5_fewestPegs 16 = .ok (.istore_n 3, 1) := by decide +kernel
theorem dX5_fewestPegs_17 : decode cX5_fewestPegs 17 = .ok (.aload_n 0, 1) := by decide +kernel
theorem dX5_fewestPegs_18 : decode cX5_fewestPegs 18 = .ok (.getfield 19, 3) := by decide +kernel
theorem dX5_fewestPegs_21 : decode cX5_fewestPegs 21 = .ok (.invokevirtual 127, 3) := by decide +kernel
theorem dX5_fewestPegs_24 : decode cX5_fewestPegs 24 = .ok (.istore 4, 2) := by decide +kernel
theorem dX5_fewestPegs_26 : decode cX5_fewestPegs 26 = .ok (.iconst 1, 1) := by decide +kernel
theorem dX5_fewestPegs_27 : decode cX5_fewestPegs 27 = .ok (.istore 5, 2) := by decide +kernel
theorem dX5_fewestPegs_29 : decode cX5_fewestPegs 29 = .ok (.iload 5, 2) := by decide +kernel
theorem dX5_fewestPegs_31 : decode cX5_fewestPegs 31 = .ok (.iconst 4, 1) := by decide +kernel
theorem dX5_fewestPegs_32 : decode cX5_fewestPegs 32 = .ok (.if_icmp .gt 45, 3) := by decide +kernel
theorem dX5_fewestPegs_35 : decode cX5_fewestPegs 35 = .ok (.iload 5, 2) := by decide +kernel
theorem dX5_fewestPegs_37 : decode cX5_fewestPegs 37 = .ok (.iload 4, 2) := by decide +kernel
theorem dX5_fewestPegs_39 : decode cX5_fewestPegs 39 = .ok (.invokestatic 200, 3) := by decide +kernel
theorem dX5_fewestPegs_42 : decode cX5_fewestPegs 42 = .ok (.istore 6, 2) := by decide +kernel
theorem dX5_fewestPegs_44 : decode cX5_fewestPegs 44 = .ok (.iload 5, 2) := by decide +kernel
theorem dX5_fewestPegs_46 : decode cX5_fewestPegs 46 = .ok (.iload 6, 2) := by decide +kernel
theorem dX5_fewestPegs_48 : decode cX5_fewestPegs 48 = .ok (.isub, 1) := by decide +kernel
theorem dX5_fewestPegs_49 : decode cX5_fewestPegs 49 = .ok (.istore 7, 2) := by decide +kernel
theorem dX5_fewestPegs_51 : decode cX5_fewestPegs 51 = .ok (.iload 7, 2) := by decide +kernel
theorem dX5_fewestPegs_53 : decode cX5_fewestPegs 53 = .ok (.iload_n 3, 1) := by decide +kernel
theorem dX5_fewestPegs_54 : decode cX5_fewestPegs 54 = .ok (.if_icmp .gt 17, 3) := by decide +kernel
theorem dX5_fewestPegs_57 : decode cX5_fewestPegs 57 = .ok (.iload 7, 2) := by decide +kernel
theorem dX5_fewestPegs_59 : decode cX5_fewestPegs 59 = .ok (.iload 6, 2) := by decide +kernel
theorem dX5_fewestPegs_61 : decode cX5_fewestPegs 61 = .ok (.invokestatic 203, 3) := by decide +kernel
theorem dX5_fewestPegs_64 : decode cX5_fewestPegs 64 = .ok (.iload_n 2, 1) := by decide +kernel
theorem dX5_fewestPegs_65 : decode cX5_fewestPegs 65 = .ok (.if_icmp .lt 6, 3) := by decide +kernel
theorem dX5_fewestPegs_68 : decode cX5_fewestPegs 68 = .ok (.iload 5, 2) := by decide +kernel
theorem dX5_fewestPegs_70 : decode cX5_fewestPegs 70 = .ok (.ireturn, 1) := by decide +kernel
theorem dX5_fewestPegs_71 : decode cX5_fewestPegs 71 = .ok (.iinc 5 1, 3) := by decide +kernel
theorem dX5_fewestPegs_74 : decode cX5_fewestPegs 74 = .ok (.goto (-45), 3) := by decide +kernel
theorem dX5_fewestPegs_77 : decode cX5_fewestPegs 77 = .ok (.iconst (-1), 1) := by decide +kernel
theorem dX5_fewestPegs_78 : decode cX5_fewestPegs 78 = .ok (.ireturn, 1) := by decide +kernel
theorem dX5_waterInAll_0 : decode cX5_waterInAll 0 = .ok (.iconst 0, 1) := by decide +kernel
theorem dX5_waterInAll_1 : decode cX5_waterInAll 1 = .ok (.istore_n 1, 1) := by decide +kernel
theorem dX5_waterInAll_2 : decode cX5_waterInAll 2 = .ok (.iconst 0, 1) := by decide +kernel
theorem dX5_waterInAll_3 : decode cX5_waterInAll 3 = .ok (.istore_n 2, 1) := by decide +kernel
theorem dX5_waterInAll_4 : decode cX5_waterInAll 4 = .ok (.iload_n 2, 1) := by decide +kernel
theorem dX5_waterInAll_5 : decode cX5_waterInAll 5 = .ok (.aload_n 0, 1) := by decide +kernel
theorem dX5_waterInAll_6 : decode cX5_waterInAll 6 = .ok (.getfield 19, 3) := by decide +kernel
theorem dX5_waterInAll_9 : decode cX5_waterInAll 9 = .ok (.getfield 71, 3) := by decide +kernel
theorem dX5_waterInAll_12 : decode cX5_waterInAll 12 = .ok (.if_icmp .ge 24, 3) := by decide +kernel
theorem dX5_waterInAll_15 : decode cX5_waterInAll 15 = .ok (.iload_n 1, 1) := by decide +kernel
theorem dX5_waterInAll_16 : decode cX5_waterInAll 16 = .ok (.aload_n 0, 1) := by decide +kernel
theorem dX5_waterInAll_17 : decode cX5_waterInAll 17 = .ok (.getfield 19, 3) := by decide +kernel
theorem dX5_waterInAll_20 : decode cX5_waterInAll 20 = .ok (.getfield 192, 3) := by decide +kernel
theorem dX5_waterInAll_23 : decode cX5_waterInAll 23 = .ok (.iload_n 2, 1) := by decide +kernel
theorem dX5_waterInAll_24 : decode cX5_waterInAll 24 = .ok (.aaload, 1) := by decide +kernel
theorem dX5_waterInAll_25 : decode cX5_waterInAll 25 = .ok (.getfield 161, 3) := by decide +kernel
theorem dX5_waterInAll_28 : decode cX5_waterInAll 28 = .ok (.iadd, 1) := by decide +kernel
theorem dX5_waterInAll_29 : decode cX5_waterInAll 29 = .ok (.istore_n 1, 1) := by decide +kernel
theorem dX5_waterInAll_30 : decode cX5_waterInAll 30 = .ok (.iinc 2 1, 3) := by decide +kernel
theorem dX5_waterInAll_33 : decode cX5_waterInAll 33 = .ok (.goto (-29), 3) := by decide +kernel
theorem dX5_waterInAll_36 : decode cX5_waterInAll 36 = .ok (.iload_n 1, 1) := by decide +kernel
theorem dX5_waterInAll_37 : decode cX5_waterInAll 37 = .ok (.ireturn, 1) := by decide +kernel
theorem dX5_waterCame_0 : decode cX5_waterCame 0 = .ok (.iconst 0, 1) := by decide +kernel
theorem dX5_waterCame_1 : decode cX5_waterCame 1 = .ok (.istore_n 1, 1) := by decide +kernel
theorem dX5_waterCame_2 : decode cX5_waterCame 2 = .ok (.iconst 0, 1) := by decide +kernel
theorem dX5_waterCame_3 : decode cX5_waterCame 3 = .ok (.istore_n 2, 1) := by decide +kernel
theorem dX5_waterCame_4 : decode cX5_waterCame 4 = .ok (.iload_n 2, 1) := by decide +kernel
theorem dX5_waterCame_5 : decode cX5_waterCame 5 = .ok (.aload_n 0, 1) := by decide +kernel
theorem dX5_waterCame_6 : decode cX5_waterCame 6 = .ok (.getfield 19, 3) := by decide +kernel
theorem dX5_waterCame_9 : decode cX5_waterCame 9 = .ok (.getfield 71, 3) := by decide +kernel
theorem dX5_waterCame_12 : decode cX5_waterCame 12 = .ok (.if_icmp .ge 24, 3) := by decide +kernel
theorem dX5_waterCame_15 : decode cX5_waterCame 15 = .ok (.iload_n 1, 1) := by decide +kernel
theorem dX5_waterCame_16 : decode cX5_waterCame 16 = .ok (.aload_n 0, 1) := by decide +kernel
theorem dX5_waterCame_17 : decode cX5_waterCame 17 = .ok (.getfield 19, 3) := by decide +kernel
theorem dX5_waterCame_20 : decode cX5_waterCame 20 = .ok (.getfield 192, 3) := by decide +kernel
theorem dX5_waterCame_23 : decode cX5_waterCame 23 = .ok (.iload_n 2, 1) := by decide +kernel
theorem dX5_waterCame_24 : decode cX5_waterCame 24 = .ok (.aaload, 1) := by decide +kernel
theorem dX5_waterCame_25 : decode cX5_waterCame 25 = .ok (.getfield 206, 3) := by decide +kernel
theorem dX5_waterCame_28 : decode cX5_waterCame 28 = .ok (.iadd, 1) := by decide +kernel
theorem dX5_waterCame_29 : decode cX5_waterCame 29 = .ok (.istore_n 1, 1) := by decide +kernel
theorem dX5_waterCame_30 : decode cX5_waterCame 30 = .ok (.iinc 2 1, 3) := by decide +kernel
theorem dX5_waterCame_33 : decode cX5_waterCame 33 = .ok (.goto (-29), 3) := by decide +kernel
theorem dX5_waterCame_36 : decode cX5_waterCame 36 = .ok (.iload_n 1, 1) := by decide +kernel
theorem dX5_waterCame_37 : decode cX5_waterCame 37 = .ok (.ireturn, 1) := by decide +kernel
theorem dX5_driedBySun_0 : decode cX5_driedBySun 0 = .ok (.iconst 0, 1) := by decide +kernel
theorem dX5_driedBySun_1 : decode cX5_driedBySun 1 = .ok (.istore_n 1, 1) := by decide +kernel
theorem dX5_driedBySun_2 : decode cX5_driedBySun 2 = .ok (.iconst 0, 1) := by decide +kernel
theorem dX5_driedBySun_3 : decode cX5_driedBySun 3 = .ok (.istore_n 2, 1) := by decide +kernel
theorem dX5_driedBySun_4 : decode cX5_driedBySun 4 = .ok (.iload_n 2, 1) := by decide +kernel
theorem dX5_driedBySun_5 : decode cX5_driedBySun 5 = .ok (.aload_n 0, 1) := by decide +kernel
theorem dX5_driedBySun_6 : decode cX5_driedBySun 6 = .ok (.getfield 19, 3) := by decide +kernel
theorem dX5_driedBySun_9 : decode cX5_driedBySun 9 = .ok (.getfield 71, 3) := by decide +kernel
theorem dX5_driedBySun_12 : decode cX5_driedBySun 12 = .ok (.if_icmp .ge 24, 3) := by decide +kernel
theorem dX5_driedBySun_15 : decode cX5_driedBySun 15 = .ok (.iload_n 1, 1) := by decide +kernel
theorem dX5_driedBySun_16 : decode cX5_driedBySun 16 = .ok (.aload_n 0, 1) := by decide +kernel
theorem dX5_driedBySun_17 : decode cX5_driedBySun 17 = .ok (.getfield 19, 3) := by decide +kernel
theorem dX5_driedBySun_20 : decode cX5_driedBySun 20 = .ok (.getfield 192, 3) := by decide +kernel
theorem dX5_driedBySun_23 : decode cX5_driedBySun 23 = .ok (.iload_n 2, 1) := by decide +kernel
theorem dX5_driedBySun_24 : decode cX5_driedBySun 24 = .ok (.aaload, 1) := by decide +kernel
theorem dX5_driedBySun_25 : decode cX5_driedBySun 25 = .ok (.getfield 209, 3) := by decide +kernel
theorem dX5_driedBySun_28 : decode cX5_driedBySun 28 = .ok (.iadd, 1) := by decide +kernel
theorem dX5_driedBySun_29 : decode cX5_driedBySun 29 = .ok (.istore_n 1, 1) := by decide +kernel
theorem dX5_driedBySun_30 : decode cX5_driedBySun 30 = .ok (.iinc 2 1, 3) := by decide +kernel
theorem dX5_driedBySun_33 : decode cX5_driedBySun 33 = .ok (.goto (-29), 3) := by decide +kernel
theorem dX5_driedBySun_36 : decode cX5_driedBySun 36 = .ok (.iload_n 1, 1) := by decide +kernel
theorem dX5_driedBySun_37 : decode cX5_driedBySun 37 = .ok (.ireturn, 1) := by decide +kernel
theorem dX5_driedByWind_0 : decode cX5_driedByWind 0 = .ok (.iconst 0, 1) := by decide +kernel
theorem dX5_driedByWind_1 : decode cX5_driedByWind 1 = .ok (.istore_n 1, 1) := by decide +kernel
theorem dX5_driedByWind_2 : decode cX5_driedByWind 2 = .ok (.iconst 0, 1) := by decide +kernel
theorem dX5_driedByWind_3 : decode cX5_driedByWind 3 = .ok (.istore_n 2, 1) := by decide +kernel
theorem dX5_driedByWind_4 : decode cX5_driedByWind 4 = .ok (.iload_n 2, 1) := by decide +kernel
theorem dX5_driedByWind_5 : decode cX5_driedByWind 5 = .ok (.aload_n 0, 1) := by decide +kernel
theorem dX5_driedByWind_6 : decode cX5_driedByWind 6 = .ok (.getfield 19, 3) := by decide +kernel
theorem dX5_driedByWind_9 : decode cX5_driedByWind 9 = .ok (.getfield 71, 3) := by decide +kernel
theorem dX5_driedByWind_12 : decode cX5_driedByWind 12 = .ok (.if_icmp .ge 24, 3) := by decide +kernel
theorem dX5_driedByWind_15 : decode cX5_driedByWind 15 = .ok (.iload_n 1, 1) := by decide +kernel
theorem dX5_driedByWind_16 : decode cX5_driedByWind 16 = .ok (.aload_n 0, 1) := by decide +kernel
theorem dX5_driedByWind_17 : decode cX5_driedByWind 17 = .ok (.getfield 19, 3) := by decide +kernel
theorem dX5_driedByWind_20 : decode cX5_driedByWind 20 = .ok (.getfield 192, 3) := by decide +kernel
theorem dX5_driedByWind_23 : decode cX5_driedByWind 23 = .ok (.iload_n 2, 1) := by decide +kernel
theorem dX5_driedByWind_24 : decode cX5_driedByWind 24 = .ok (.aaload, 1) := by decide +kernel
theorem dX5_driedByWind_25 : decode cX5_driedByWind 25 = .ok (.getfield 212, 3) := by decide +kernel
theorem dX5_driedByWind_28 : decode cX5_driedByWind 28 = .ok (.iadd, 1) := by decide +kernel
theorem dX5_driedByWind_29 : decode cX5_driedByWind 29 = .ok (.istore_n 1, 1) := by decide +kernel
theorem dX5_driedByWind_30 : decode cX5_driedByWind 30 = .ok (.iinc 2 1, 3) := by decide +kernel
theorem dX5_driedByWind_33 : decode cX5_driedByWind 33 = .ok (.goto (-29), 3) := by decide +kernel
theorem dX5_driedByWind_36 : decode cX5_driedByWind 36 = .ok (.iload_n 1, 1) := by decide +kernel
theorem dX5_driedByWind_37 : decode cX5_driedByWind 37 = .ok (.ireturn, 1) := by decide +kernel
theorem dX5_consistencyError_0 : decode cX5_consistencyError 0 = .ok (.aload_n 0, 1) := by decide +kernel
theorem dX5_consistencyError_1 : decode cX5_consistencyError 1 = .ok (.invokevirtual 215, 3) := by decide +kernel
theorem dX5_consistencyError_4 : decode cX5_consistencyError 4 = .ok (.aload_n 0, 1) := by decide +kernel
theorem dX5_consistencyError_5 : decode cX5_consistencyError 5 = .ok (.invokevirtual 218, 3) := by decide +kernel
theorem dX5_consistencyError_8 : decode cX5_consistencyError 8 = .ok (.isub, 1) := by decide +kernel
theorem dX5_consistencyError_9 : decode cX5_consistencyError 9 = .ok (.aload_n 0, 1) := by decide +kernel
theorem dX5_consistencyError_10 : decode cX5_consistencyError 10 = .ok (.invokevirtual 221, 3) := by decide +kernel
theorem dX5_consistencyError_13 : decode cX5_consistencyError 13 = .ok (.isub, 1) := by decide +kernel
theorem dX5_consistencyError_14 : decode cX5_consistencyError 14 = .ok (.istore_n 1, 1) := by decide +kernel
theorem dX5_consistencyError_15 : decode cX5_consistencyError 15 = .ok (.iload_n 1, 1) := by decide +kernel
theorem dX5_consistencyError_16 : decode cX5_consistencyError 16 = .ok (.aload_n 0, 1) := by decide +kernel
theorem dX5_consistencyError_17 : decode cX5_consistencyError 17 = .ok (.invokevirtual 224, 3) := by decide +kernel
theorem dX5_consistencyError_20 : decode cX5_consistencyError 20 = .ok (.isub, 1) := by decide +kernel
theorem dX5_consistencyError_21 : decode cX5_consistencyError 21 = .ok (.invokestatic 227, 3) := by decide +kernel
theorem dX5_consistencyError_24 : decode cX5_consistencyError 24 = .ok (.aload_n 0, 1) := by decide +kernel
theorem dX5_consistencyError_25 : decode cX5_consistencyError 25 = .ok (.getfield 19, 3) := by decide +kernel
theorem dX5_consistencyError_28 : decode cX5_consistencyError 28 = .ok (.invokevirtual 230, 3) := by decide +kernel
theorem dX5_consistencyError_31 : decode cX5_consistencyError 31 = .ok (.iadd, 1) := by decide +kernel
theorem dX5_consistencyError_32 : decode cX5_consistencyError 32 = .ok (.ireturn, 1) := by decide +kernel
theorem dX5_meanWater_0 : decode cX5_meanWater 0 = .ok (.aload_n 0, 1) := by decide +kernel
theorem dX5_meanWater_1 : decode cX5_meanWater 1 = .ok (.getfield 19, 3) := by decide +kernel
theorem dX5_meanWater_4 : decode cX5_meanWater 4 = .ok (.getfield 71, 3) := by decide +kernel
theorem dX5_meanWater_7 : decode cX5_meanWater 7 = .ok (.ifCond .ne 5, 3) := by decide +kernel
theorem dX5_meanWater_10 : decode cX5_meanWater 10 = .ok (.dconst 0, 1) := by decide +kernel
theorem dX5_meanWater_11 : decode cX5_meanWater 11 = .ok (.dreturn, 1) := by decide +kernel
theorem dX5_meanWater_12 : decode cX5_meanWater 12 = .ok (.aload_n 0, 1) := by decide +kernel
theorem dX5_meanWater_13 : decode cX5_meanWater 13 = .ok (.invokevirtual 224, 3) := by decide +kernel
theorem dX5_meanWater_16 : decode cX5_meanWater 16 = .ok (.i2d, 1) := by decide +kernel
theorem dX5_meanWater_17 : decode cX5_meanWater 17 = .ok (.aload_n 0, 1) := by decide +kernel
theorem dX5_meanWater_18 : decode cX5_meanWater 18 = .ok (.getfield 19, 3) := by decide +kernel
theorem dX5_meanWater_21 : decode cX5_meanWater 21 = .ok (.getfield 71, 3) := by decide +kernel
theorem dX5_meanWater_24 : decode cX5_meanWater 24 = .ok (.i2d, 1) := by decide +kernel
theorem dX5_meanWater_25 : decode cX5_meanWater 25 = .ok (.ddiv, 1) := by decide +kernel
theorem dX5_meanWater_26 : decode cX5_meanWater 26 = .ok (.dreturn, 1) := by decide +kernel
theorem dX5_dryShare_0 : decode cX5_dryShare 0 = .ok (.aload_n 0, 1) := by decide +kernel
theorem dX5_dryShare_1 : decode cX5_dryShare 1 = .ok (.getfield 19, 3) := by decide +kernel
theorem dX5_dryShare_4 : decode cX5_dryShare 4 = .ok (.getfield 71, 3) := by decide +kernel
theorem dX5_dryShare_7 : decode cX5_dryShare 7 = .ok (.ifCond .ne 5, 3) := by decide +kernel
theorem dX5_dryShare_10 : decode cX5_dryShare 10 = .ok (.fconst 0, 1) := by decide +kernel
theorem dX5_dryShare_11 : decode cX5_dryShare 11 = .ok (.freturn, 1) := by decide +kernel
theorem dX5_dryShare_12 : decode cX5_dryShare 12 = .ok (.aload_n 0, 1) := by decide +kernel
theorem dX5_dryShare_13 : decode cX5_dryShare 13 = .ok (.invokevirtual 233, 3) := by decide +kernel
theorem dX5_dryShare_16 : decode cX5_dryShare 16 = .ok (.invokestatic 236, 3) := by decide +kernel
theorem dX5_dryShare_19 : decode cX5_dryShare 19 = .ok (.i2f, 1) := by decide +kernel
theorem dX5_dryShare_20 : decode cX5_dryShare 20 = .ok (.aload_n 0, 1) := by decide +kernel
theorem dX5_dryShare_21 : decode cX5_dryShare 21 = .ok (.getfield 19, 3) := by decide +kernel
theorem dX5_dryShare_24 : decode cX5_dryShare 24 = .ok (.getfield 71, 3) := by decide +kernel
theorem dX5_dryShare_27 : decode cX5_dryShare 27 = .ok (.i2f, 1) := by decide +kernel
theorem dX5_dryShare_28 : decode cX5_dryShare 28 = .ok (.fdiv, 1) := by decide +kernel
theorem dX5_dryShare_29 : decode cX5_dryShare 29 = .ok (.freturn, 1) := by decide +kernel
theorem dX5_waterAfter_0 : decode cX5_waterAfter 0 = .ok (.aload_n 0, 1) := by decide +kernel
theorem dX5_waterAfter_1 : decode cX5_waterAfter 1 = .ok (.iload_n 1, 1) := by decide +kernel
theorem dX5_waterAfter_2 : decode cX5_waterAfter 2 = .ok (.invokevirtual 143, 3) := by decide +kernel
theorem dX5_waterAfter_5 : decode cX5_waterAfter 5 = .ok (.astore_n 3, 1) := by decide +kernel
theorem dX5_waterAfter_6 : decode cX5_waterAfter 6 = .ok (.iload_n 2, 1) := by decide +kernel
theorem dX5_waterAfter_7 : decode cX5_waterAfter 7 = .ok (.iconst 0, 1) := by decide +kernel
theorem dX5_waterAfter_8 : decode cX5_waterAfter 8 = .ok (.sipush 500, 3) := by decide +kernel
theorem dX5_waterAfter_11 : decode cX5_waterAfter 11 = .ok (.invokestatic 103, 3) := by decide +kernel
theorem dX5_waterAfter_14 : decode cX5_waterAfter 14 = .ok (.aload_n 0, 1) := by decide +kernel
theorem dX5_waterAfter_15 : decode cX5_waterAfter 15 = .ok (.getfield 23, 3) := by decide +kernel
theorem dX5_waterAfter_18 : decode cX5_waterAfter 18 = .ok (.aload_n 0, 1) := by decide +kernel
theorem dX5_waterAfter_19 : decode cX5_waterAfter 19 = .ok (.getfield 19, 3) := by decide +kernel
theorem dX5_waterAfter_22 : decode cX5_waterAfter 22 = .ok (.aload_n 3, 1) := by decide +kernel
theorem dX5_waterAfter_23 : decode cX5_waterAfter 23 = .ok (.invokevirtual 241, 3) := by decide +kernel
theorem dX5_waterAfter_26 : decode cX5_waterAfter 26 = .ok (.astore 4, 2) := by decide +kernel
theorem dX5_waterAfter_28 : decode cX5_waterAfter 28 = .ok (.aload_n 0, 1) := by decide +kernel
theorem dX5_waterAfter_29 : decode cX5_waterAfter 29 = .ok (.getfield 23, 3) := by decide +kernel
theorem dX5_waterAfter_32 : decode cX5_waterAfter 32 = .ok (.iload_n 2, 1) := by decide +kernel
theorem dX5_waterAfter_33 : decode cX5_waterAfter 33 = .ok (.invokevirtual 245, 3) := by decide +kernel
theorem dX5_waterAfter_36 : decode cX5_waterAfter 36 = .ok (.pop, 1) := by decide +kernel
theorem dX5_waterAfter_37 : decode cX5_waterAfter 37 = .ok (.aload 4, 2) := by decide +kernel
theorem dX5_waterAfter_39 : decode cX5_waterAfter 39 = .ok (.getfield 161, 3) := by decide +kernel
theorem dX5_waterAfter_42 : decode cX5_waterAfter 42 = .ok (.ireturn, 1) := by decide +kernel
theorem dX5_minutesToDry_0 : decode cX5_minutesToDry 0 = .ok (.aload_n 0, 1) := by decide +kernel
theorem dX5_minutesToDry_1 : decode cX5_minutesToDry 1 = .ok (.getfield 23, 3) := by decide +kernel
theorem dX5_minutesToDry_4 : decode cX5_minutesToDry 4 = .ok (.aload_n 0, 1) := by decide +kernel
theorem dX5_minutesToDry_5 : decode cX5_minutesToDry 5 = .ok (.getfield 19, 3) := by decide +kernel
theorem dX5_minutesToDry_8 : decode cX5_minutesToDry 8 = .ok (.aload_n 0, 1) := by decide +kernel
theorem dX5_minutesToDry_9 : decode cX5_minutesToDry 9 = .ok (.iload_n 1, 1) := by decide +kernel
theorem dX5_minutesToDry_10 : decode cX5_minutesToDry 10 = .ok (.invokevirtual 143, 3) := by decide +kernel
theorem dX5_minutesToDry_13 : decode cX5_minutesToDry 13 = .ok (.invokevirtual 241, 3) := by decide +kernel
theorem dX5_minutesToDry_16 : decode cX5_minutesToDry 16 = .ok (.astore_n 2, 1) := by decide +kernel
theorem dX5_minutesToDry_17 : decode cX5_minutesToDry 17 = .ok (.iconst 0, 1) := by decide +kernel
theorem dX5_minutesToDry_18 : decode cX5_minutesToDry 18 = .ok (.istore_n 3, 1) := by decide +kernel
theorem dX5_minutesToDry_19 : decode cX5_minutesToDry 19 = .ok (.iload_n 3, 1) := by decide +kernel
theorem dX5_minutesToDry_20 : decode cX5_minutesToDry 20 = .ok (.sipush 500, 3) := by decide +kernel
theorem dX5_minutesToDry_23 : decode cX5_minutesToDry 23 = .ok (.if_icmp .gt 26, 3) := by decide +kernel
theorem dX5_minutesToDry_26 : decode cX5_minutesToDry 26 = .ok (.aload_n 2, 1) := by decide +kernel
theorem dX5_minutesToDry_27 : decode cX5_minutesToDry 27 = .ok (.getfield 161, 3) := by decide +kernel
theorem dX5_minutesToDry_30 : decode cX5_minutesToDry 30 = .ok (.ifCond .ne 5, 3) := by decide +kernel
theorem dX5_minutesToDry_33 : decode cX5_minutesToDry 33 = .ok (.iload_n 3, 1) := by decide +kernel
theorem dX5_minutesToDry_34 : decode cX5_minutesToDry 34 = .ok (.ireturn, 1) := by decide +kernel
theorem dX5_minutesToDry_35 : decode cX5_minutesToDry 35 = .ok (.aload_n 0, 1) := by decide +kernel
theorem dX5_minutesToDry_36 : decode cX5_minutesToDry 36 = .ok (.getfield 23, 3) := by decide +kernel
theorem dX5_minutesToDry_39 : decode cX5_minutesToDry 39 = .ok (.invokevirtual 248, 3) := by decide +kernel
theorem dX5_minutesToDry_42 : decode cX5_minutesToDry 42 = .ok (.pop, 1) := by decide +kernel
theorem dX5_minutesToDry_43 : decode cX5_minutesToDry 43 = .ok (.iinc 3 1, 3) := by decide +kernel
theorem dX5_minutesToDry_46 : decode cX5_minutesToDry 46 = .ok (.goto (-27), 3) := by decide +kernel
theorem dX5_minutesToDry_49 : decode cX5_minutesToDry 49 = .ok (.iconst (-1), 1) := by decide +kernel
theorem dX5_minutesToDry_50 : decode cX5_minutesToDry 50 = .ok (.ireturn, 1) := by decide +kernel
theorem dX5_minutesToFall_0 : decode cX5_minutesToFall 0 = .ok (.aload_n 0, 1) := by decide +kernel
theorem dX5_minutesToFall_1 : decode cX5_minutesToFall 1 = .ok (.getfield 23, 3) := by decide +kernel
theorem dX5_minutesToFall_4 : decode cX5_minutesToFall 4 = .ok (.aload_n 0, 1) := by decide +kernel
theorem dX5_minutesToFall_5 : decode cX5_minutesToFall 5 = .ok (.getfield 19, 3) := by decide +kernel
theorem dX5_minutesToFall_8 : decode cX5_minutesToFall 8 = .ok (.aload_n 0, 1) := by decide +kernel
theorem dX5_minutesToFall_9 : decode cX5_minutesToFall 9 = .ok (.iload_n 1, 1) := by decide +kernel
theorem dX5_minutesToFall_10 : decode cX5_minutesToFall 10 = .ok (.invokevirtual 143, 3) := by decide +kernel
theorem dX5_minutesToFall_13 : decode cX5_minutesToFall 13 = .ok (.invokevirtual 241, 3) := by decide +kernel
theorem dX5_minutesToFall_16 : decode cX5_minutesToFall 16 = .ok (.pop, 1) := by decide +kernel
theorem dX5_minutesToFall_17 : decode cX5_minutesToFall 17 = .ok (.iconst 1, 1) := by decide +kernel
theorem dX5_minutesToFall_18 : decode cX5_minutesToFall 18 = .ok (.istore_n 2, 1) := by decide +kernel
theorem dX5_minutesToFall_19 : decode cX5_minutesToFall 19 = .ok (.iload_n 2, 1) := by decide +kernel
theorem dX5_minutesToFall_20 : decode cX5_minutesToFall 20 = .ok (.sipush 500, 3) := by decide +kernel
theorem dX5_minutesToFall_23 : decode cX5_minutesToFall 23 = .ok (.if_icmp .gt 21, 3) := by decide +kernel
theorem dX5_minutesToFall_26 : decode cX5_minutesToFall 26 = .ok (.aload_n 0, 1) := by decide +kernel
theorem dX5_minutesToFall_27 : decode cX5_minutesToFall 27 = .ok (.getfield 23, 3) := by decide +kernel
theorem dX5_minutesToFall_30 : decode cX5_minutesToFall 30 = .ok (.invokevirtual 248, 3) := by decide +kernel
theorem dX5_minutesToFall_33 : decode cX5_minutesToFall 33 = .ok (.ifCond .le 5, 3) := by decide +kernel
theorem dX5_minutesToFall_36 : decode cX5_minutesToFall 36 = .ok (.iload_n 2, 1) := by decide +kernel
theorem dX5_minutesToFall_37 : decode cX5_minutesToFall 37 = .ok (.ireturn, 1) := by decide +kernel
theorem dX5_minutesToFall_38 : decode cX5_minutesToFall 38 = .ok (.iinc 2 1, 3) := by decide +kernel
theorem dX5_minutesToFall_41 : decode cX5_minutesToFall 41 = .ok (.goto (-22), 3) := by decide +kernel
theorem dX5_minutesToFall_44 : decode cX5_minutesToFall 44 = .ok (.iconst (-1), 1) := by decide +kernel
theorem dX5_minutesToFall_45 : decode cX5_minutesToFall 45 = .ok (.ireturn, 1) := by decide +kernel
theorem dX5_garmentsAtRisk_0 : decode cX5_garmentsAtRisk 0 = .ok (.aload_n 0, 1) := by decide +kernel
theorem dX5_garmentsAtRisk_1 : decode cX5_garmentsAtRisk 1 = .ok (.getfield 23, 3) := by decide +kernel
theorem dX5_garmentsAtRisk_4 : decode cX5_garmentsAtRisk 4 = .ok (.aload_n 0, 1) := by decide +kernel
theorem dX5_garmentsAtRisk_5 : decode cX5_garmentsAtRisk 5 = .ok (.getfield 19, 3) := by decide +kernel
theorem dX5_garmentsAtRisk_8 : decode cX5_garmentsAtRisk 8 = .ok (.invokevirtual 66, 3) := by decide +kernel
theorem dX5_garmentsAtRisk_11 : decode cX5_garmentsAtRisk 11 = .ok (.aload_n 0, 1) := by decide +kernel
theorem dX5_garmentsAtRisk_12 : decode cX5_garmentsAtRisk 12 = .ok (.getfield 23, 3) := by decide +kernel
theorem dX5_garmentsAtRisk_15 : decode cX5_garmentsAtRisk 15 = .ok (.bipush 60, 2) := by decide +kernel
theorem dX5_garmentsAtRisk_17 : decode cX5_garmentsAtRisk 17 = .ok (.invokevirtual 245, 3) := by decide +kernel
theorem dX5_garmentsAtRisk_20 : decode cX5_garmentsAtRisk 20 = .ok (.pop, 1) := by decide +kernel
theorem dX5_garmentsAtRisk_21 : decode cX5_garmentsAtRisk 21 = .ok (.aload_n 0, 1) := by decide +kernel
theorem dX5_garmentsAtRisk_22 : decode cX5_garmentsAtRisk 22 = .ok (.getfield 19, 3) := by decide +kernel
theorem dX5_garmentsAtRisk_25 : decode cX5_garmentsAtRisk 25 = .ok (.iconst 1, 1) := by decide +kernel
theorem dX5_garmentsAtRisk_26 : decode cX5_garmentsAtRisk 26 = .ok (.invokevirtual 189, 3) := by decide +kernel
theorem dX5_garmentsAtRisk_29 : decode cX5_garmentsAtRisk 29 = .ok (.aload_n 0, 1) := by decide +kernel
theorem dX5_garmentsAtRisk_30 : decode cX5_garmentsAtRisk 30 = .ok (.getfield 23, 3) := by decide +kernel
theorem dX5_garmentsAtRisk_33 : decode cX5_garmentsAtRisk 33 = .ok (.iconst 2, 1) := by decide +kernel
theorem dX5_garmentsAtRisk_34 : decode cX5_garmentsAtRisk 34 = .ok (.invokevirtual 189, 3) := by decide +kernel
theorem dX5_garmentsAtRisk_37 : decode cX5_garmentsAtRisk 37 = .ok (.iand, 1) := by decide +kernel
theorem dX5_garmentsAtRisk_38 : decode cX5_garmentsAtRisk 38 = .ok (.ireturn, 1) := by decide +kernel
theorem dX5_bestSpot_0 : decode cX5_bestSpot 0 = .ok (.aload_n 0, 1) := by decide +kernel
theorem dX5_bestSpot_1 : decode cX5_bestSpot 1 = .ok (.iload_n 1, 1) := by decide +kernel
theorem dX5_bestSpot_2 : decode cX5_bestSpot 2 = .ok (.invokevirtual 143, 3) := by decide +kernel
theorem dX5_bestSpot_5 : decode cX5_bestSpot 5 = .ok (.astore_n 2, 1) := by decide +kernel
theorem dX5_bestSpot_6 : decode cX5_bestSpot 6 = .ok (.aload_n 2, 1) := by decide +kernel
theorem dX5_bestSpot_7 : decode cX5_bestSpot 7 = .ok (.getfield 147, 3) := by decide +kernel
theorem dX5_bestSpot_10 : decode cX5_bestSpot 10 = .ok (.ifCond .eq 5, 3) := by decide +kernel
theorem dX5_bestSpot_13 : decode cX5_bestSpot 13 = .ok (.iconst (-1), 1) := by decide +kernel
theorem dX5_bestSpot_14 : decode cX5_bestSpot 14 = .ok (.ireturn, 1) := by decide +kernel
theorem dX5_bestSpot_15 : decode cX5_bestSpot 15 = .ok (.aload_n 0, 1) := by decide +kernel
theorem dX5_bestSpot_16 : decode cX5_bestSpot 16 = .ok (.getfield 19, 3) := by decide +kernel
theorem dX5_bestSpot_19 : decode cX5_bestSpot 19 = .ok (.invokevirtual 131, 3) := by decide +kernel
theorem dX5_bestSpot_22 : decode cX5_bestSpot 22 = .ok (.istore_n 3, 1) := by decide +kernel
theorem dX5_bestSpot_23 : decode cX5_bestSpot 23 = .ok (.iconst (-1), 1) := by decide +kernel
theorem dX5_bestSpot_24 : decode cX5_bestSpot 24 = .ok (.istore 4, 2) := by decide +kernel
theorem dX5_bestSpot_26 : decode cX5_bestSpot 26 = .ok (.iconst 0, 1) := by decide +kernel
theorem dX5_bestSpot_27 : decode cX5_bestSpot 27 = .ok (.istore 5, 2) := by decide +kernel
theorem dX5_bestSpot_29 : decode cX5_bestSpot 29 = .ok (.iconst 0, 1) := by decide +kernel
theorem dX5_bestSpot_30 : decode cX5_bestSpot 30 = .ok (.istore 6, 2) := by decide +kernel
theorem dX5_bestSpot_32 : decode cX5_bestSpot 32 = .ok (.iload 6, 2) := by decide +kernel
theorem dX5_bestSpot_34 : decode cX5_bestSpot 34 = .ok (.aload_n 2, 1) := by decide +kernel
theorem dX5_bestSpot_35 : decode cX5_bestSpot 35 = .ok (.getfield 152, 3) := by decide +kernel
theorem dX5_bestSpot_38 : decode cX5_bestSpot 38 = .ok (.iadd, 1) := by decide +kernel
theorem dX5_bestSpot_39 : decode cX5_bestSpot 39 = .ok (.bipush 24, 2) := by decide +kernel
theorem dX5_bestSpot_41 : decode cX5_bestSpot 41 = .ok (.if_icmp .gt 53, 3) := by decide +kernel
theorem dX5_bestSpot_44 : decode cX5_bestSpot 44 = .ok (.iload 6, 2) := by decide +kernel
theorem dX5_bestSpot_46 : decode cX5_bestSpot 46 = .ok (.aload_n 2, 1) := by decide +kernel
theorem dX5_bestSpot_47 : decode cX5_bestSpot 47 = .ok (.getfield 152, 3) := by decide +kernel
theorem dX5_bestSpot_50 : decode cX5_bestSpot 50 = .ok (.invokestatic 251, 3) := by decide +kernel
theorem dX5_bestSpot_53 : decode cX5_bestSpot 53 = .ok (.iload_n 3, 1) := by decide +kernel
theorem dX5_bestSpot_54 : decode cX5_bestSpot 54 = .ok (.iand, 1) := by decide +kernel
theorem dX5_bestSpot_55 : decode cX5_bestSpot 55 = .ok (.ifCond .ne 33, 3) := by decide +kernel
theorem dX5_bestSpot_58 : decode cX5_bestSpot 58 = .ok (.aload_n 0, 1) := by decide +kernel
theorem dX5_bestSpot_59 : decode cX5_bestSpot 59 = .ok (.aload_n 2, 1) := by decide +kernel
theorem dX5_bestSpot_60 : decode cX5_bestSpot 60 = .ok (.iload 6, 2) := by decide +kernel
theorem dX5_bestSpot_62 : decode cX5_bestSpot 62 = .ok (.invokevirtual 254, 3) := by decide +kernel
theorem dX5_bestSpot_65 : decode cX5_bestSpot 65 = .ok (.istore 7, 2) := by decide +kernel
theorem dX5_bestSpot_67 : decode cX5_bestSpot 67 = .ok (.iload 4, 2) := by decide +kernel
theorem dX5_bestSpot_69 : decode cX5_bestSpot 69 = .ok (.iconst (-1), 1) := by decide +kernel
theorem dX5_bestSpot_70 : decode cX5_bestSpot 70 = .ok (.if_icmp .eq 10, 3) := by decide +kernel
theorem dX5_bestSpot_73 : decode cX5_bestSpot 73 = .ok (.iload 7, 2) := by decide +kernel
theorem dX5_bestSpot_75 : decode cX5_bestSpot 75 = .ok (.iload 5, 2) := by decide +kernel
theorem dX5_bestSpot_77 : decode cX5_bestSpot 77 = .ok (.if_icmp .ge 11, 3) := by decide +kernel
theorem dX5_bestSpot_80 : decode cX5_bestSpot 80 = .ok (.iload 6, 2) := by decide +kernel
theorem dX5_bestSpot_82 : decode cX5_bestSpot 82 = .ok (.istore 4, 2) := by decide +kernel
theorem dX5_bestSpot_84 : decode cX5_bestSpot 84 = .ok (.iload 7, 2) := by decide +kernel
theorem dX5_bestSpot_86 : decode cX5_bestSpot 86 = .ok (.istore 5, 2) := by decide +kernel
theorem dX5_bestSpot_88 : decode cX5_bestSpot 88 = .ok (.iinc 6 1, 3) := by decide +kernel
theorem dX5_bestSpot_91 : decode cX5_bestSpot 91 = .ok (.goto (-59), 3) := by decide +kernel
theorem dX5_bestSpot_94 : decode cX5_bestSpot 94 = .ok (.iload 4, 2) := by decide +kernel
theorem dX5_bestSpot_96 : decode cX5_bestSpot 96 = .ok (.ireturn, 1) := by decide +kernel
theorem dX5_addGarment_0 : decode cX5_addGarment 0 = .ok (.iload_n 1, 1) := by decide +kernel
theorem dX5_addGarment_1 : decode cX5_addGarment 1 = .ok (.iconst 1, 1) := by decide +kernel
theorem dX5_addGarment_2 : decode cX5_addGarment 2 = .ok (.bipush 6, 2) := by decide +kernel
theorem dX5_addGarment_4 : decode cX5_addGarment 4 = .ok (.invokestatic 103, 3) := by decide +kernel
theorem dX5_addGarment_7 : decode cX5_addGarment 7 = .ok (.iload_n 2, 1) := by decide +kernel
theorem dX5_addGarment_8 : decode cX5_addGarment 8 = .ok (.iconst 1, 1) := by decide +kernel
theorem dX5_addGarment_9 : decode cX5_addGarment 9 = .ok (.bipush 99, 2) := by decide +kernel
theorem dX5_addGarment_11 : decode cX5_addGarment 11 = .ok (.invokestatic 103, 3) := by decide +kernel
theorem dX5_addGarment_14 : decode cX5_addGarment 14 = .ok (.iload_n 3, 1) := by decide +kernel
theorem dX5_addGarment_15 : decode cX5_addGarment 15 = .ok (.iconst 1, 1) := by decide +kernel
theorem dX5_addGarment_16 : decode cX5_addGarment 16 = .ok (.sipush 999, 3) := by decide +kernel
theorem dX5_addGarment_19 : decode cX5_addGarment 19 = .ok (.invokestatic 103, 3) := by decide +kernel
theorem dX5_addGarment_22 : decode cX5_addGarment 22 = .ok (.iload 4, 2) := by decide +kernel
theorem dX5_addGarment_24 : decode cX5_addGarment 24 = .ok (.iconst 0, 1) := by decide +kernel
theorem dX5_addGarment_25 : decode cX5_addGarment 25 = .ok (.iload_n 3, 1) := by decide +kernel
theorem dX5_addGarment_26 : decode cX5_addGarment 26 = .ok (.invokestatic 103, 3) := by decide +kernel
theorem dX5_addGarment_29 : decode cX5_addGarment 29 = .ok (.aload_n 0, 1) := by decide +kernel
theorem dX5_addGarment_30 : decode cX5_addGarment 30 = .ok (.getfield 19, 3) := by decide +kernel
theorem dX5_addGarment_33 : decode cX5_addGarment 33 = .ok (.getfield 71, 3) := by decide +kernel
theorem dX5_addGarment_36 : decode cX5_addGarment 36 = .ok (.bipush 10, 2) := by decide +kernel
theorem dX5_addGarment_38 : decode cX5_addGarment 38 = .ok (.if_icmp .ge 7, 3) := by decide +kernel
theorem dX5_addGarment_41 : decode cX5_addGarment 41 = .ok (.iconst 1, 1) := by decide +kernel
theorem dX5_addGarment_42 : decode cX5_addGarment 42 = .ok (.goto 4, 3) := by decide +kernel
theorem dX5_addGarment_45 : decode cX5_addGarment 45 = .ok (.iconst 0, 1) := by decide +kernel
theorem dX5_addGarment_46 : decode cX5_addGarment 46 = .ok (.invokestatic 258, 3) := by decide +kernel
theorem dX5_addGarment_49 : decode cX5_addGarment 49 = .ok (.aload_n 0, 1) := by decide +kernel
theorem dX5_addGarment_50 : decode cX5_addGarment 50 = .ok (.getfield 29, 3) := by decide +kernel
theorem dX5_addGarment_53 : decode cX5_addGarment 53 = .ok (.aload_n 0, 1) := by decide +kernel
theorem dX5_addGarment_54 : decode cX5_addGarment 54 = .ok (.getfield 19, 3) := by decide +kernel
theorem dX5_addGarment_57 : decode cX5_addGarment 57 = .ok (.invokevirtual 78, 3) := by decide +kernel
theorem dX5_addGarment_60 : decode cX5_addGarment 60 = .ok (.aload_n 0, 1) := by decide +kernel
theorem dX5_addGarment_61 : decode cX5_addGarment 61 = .ok (.getfield 19, 3) := by decide +kernel
theorem dX5_addGarment_64 : decode cX5_addGarment 64 = .ok (.iload_n 1, 1) := by decide +kernel
theorem dX5_addGarment_65 : decode cX5_addGarment 65 = .ok (.iload_n 2, 1) := by decide +kernel
theorem dX5_addGarment_66 : decode cX5_addGarment 66 = .ok (.iload_n 3, 1) := by decide +kernel
theorem dX5_addGarment_67 : decode cX5_addGarment 67 = .ok (.iload 4, 2) := by decide +kernel
theorem dX5_addGarment_69 : decode cX5_addGarment 69 = .ok (.invokevirtual 262, 3) := by decide +kernel
theorem dX5_addGarment_72 : decode cX5_addGarment 72 = .ok (.aload_n 0, 1) := by decide +kernel
theorem dX5_addGarment_73 : decode cX5_addGarment 73 = .ok (.getfield 19, 3) := by decide +kernel
theorem dX5_addGarment_76 : decode cX5_addGarment 76 = .ok (.getfield 71, 3) := by decide +kernel
theorem dX5_addGarment_79 : decode cX5_addGarment 79 = .ok (.iconst 1, 1) := by decide +kernel
theorem dX5_addGarment_80 : decode cX5_addGarment 80 = .ok (.isub, 1) := by decide +kernel
theorem dX5_addGarment_81 : decode cX5_addGarment 81 = .ok (.ireturn, 1) := by decide +kernel
theorem dX5_hang_0 : decode cX5_hang 0 = .ok (.aload_n 0, 1) := by decide +kernel
theorem dX5_hang_1 : decode cX5_hang 1 = .ok (.iload_n 1, 1) := by decide +kernel
theorem dX5_hang_2 : decode cX5_hang 2 = .ok (.iload_n 2, 1) := by decide +kernel
theorem dX5_hang_3 : decode cX5_hang 3 = .ok (.iload_n 3, 1) := by decide +kernel
theorem dX5_hang_4 : decode cX5_hang 4 = .ok (.iload 4, 2) := by decide +kernel
theorem dX5_hang_6 : decode cX5_hang 6 = .ok (.invokevirtual 265, 3) := by decide +kernel
theorem dX5_hang_9 : decode cX5_hang 9 = .ok (.ifCond .ne 7, 3) := by decide +kernel
theorem dX5_hang_12 : decode cX5_hang 12 = .ok (.iconst 1, 1) := by decide +kernel
theorem dX5_hang_13 : decode cX5_hang 13 = .ok (.goto 4, 3) := by decide +kernel
theorem dX5_hang_16 : decode cX5_hang 16 = .ok (.iconst 0, 1) := by decide +kernel
theorem dX5_hang_17 : decode cX5_hang 17 = .ok (.invokestatic 258, 3) := by decide +kernel
theorem dX5_hang_20 : decode cX5_hang 20 = .ok (.aload_n 0, 1) := by decide +kernel
theorem dX5_hang_21 : decode cX5_hang 21 = .ok (.getfield 29, 3) := by decide +kernel
theorem dX5_hang_24 : decode cX5_hang 24 = .ok (.aload_n 0, 1) := by decide +kernel
theorem dX5_hang_25 : decode cX5_hang 25 = .ok (.getfield 19, 3) := by decide +kernel
theorem dX5_hang_28 : decode cX5_hang 28 = .ok (.invokevirtual 78, 3) := by decide +kernel
theorem dX5_hang_31 : decode cX5_hang 31 = .ok (.aload_n 0, 1) := by decide +kernel
theorem dX5_hang_32 : decode cX5_hang 32 = .ok (.iload_n 1, 1) := by decide +kernel
theorem dX5_hang_33 : decode cX5_hang 33 = .ok (.invokevirtual 143, 3) := by decide +kernel
theorem dX5_hang_36 : decode cX5_hang 36 = .ok (.astore 5, 2) := by decide +kernel
theorem dX5_hang_38 : decode cX5_hang 38 = .ok (.aload 5, 2) := by decide +kernel
theorem dX5_hang_40 : decode cX5_hang 40 = .ok (.iload_n 2, 1) := by decide +kernel
theorem dX5_hang_41 : decode cX5_hang 41 = .ok (.iload_n 3, 1) := by decide +kernel
theorem dX5_hang_42 : decode cX5_hang 42 = .ok (.iload 4, 2) := by decide +kernel
theorem dX5_hang_44 : decode cX5_hang 44 = .ok (.invokevirtual 269, 3) := by decide +kernel
theorem dX5_hang_47 : decode cX5_hang 47 = .ok (.aload 5, 2) := by decide +kernel
theorem dX5_hang_49 : decode cX5_hang 49 = .ok (.invokevirtual 179, 3) := by decide +kernel
theorem dX5_hang_52 : decode cX5_hang 52 = .ok (.ireturn, 1) := by decide +kernel
theorem dX5_takeDown_0 : decode cX5_takeDown 0 = .ok (.aload_n 0, 1) := by decide +kernel
theorem dX5_takeDown_1 : decode cX5_takeDown 1 = .ok (.iload_n 1, 1) := by decide +kernel
theorem dX5_takeDown_2 : decode cX5_takeDown 2 = .ok (.invokevirtual 143, 3) := by decide +kernel
theorem dX5_takeDown_5 : decode cX5_takeDown 5 = .ok (.astore_n 2, 1) := by decide +kernel
theorem dX5_takeDown_6 : decode cX5_takeDown 6 = .ok (.aload_n 2, 1) := by decide +kernel
theorem dX5_takeDown_7 : decode cX5_takeDown 7 = .ok (.getfield 147, 3) := by decide +kernel
theorem dX5_takeDown_10 : decode cX5_takeDown 10 = .ok (.iconst 1, 1) := by decide +kernel
theorem dX5_takeDown_11 : decode cX5_takeDown 11 = .ok (.if_icmp .ne 7, 3) := by decide +kernel
theorem dX5_takeDown_14 : decode cX5_takeDown 14 = .ok (.iconst 1, 1) := by decide +kernel
theorem dX5_takeDown_15 : decode cX5_takeDown 15 = .ok (.goto 4, 3) := by decide +kernel
theorem dX5_takeDown_18 : decode cX5_takeDown 18 = .ok (.iconst 0, 1) := by decide +kernel
theorem dX5_takeDown_19 : decode cX5_takeDown 19 = .ok (.invokestatic 258, 3) := by decide +kernel
theorem dX5_takeDown_22 : decode cX5_takeDown 22 = .ok (.aload_n 0, 1) := by decide +kernel
theorem dX5_takeDown_23 : decode cX5_takeDown 23 = .ok (.getfield 29, 3) := by decide +kernel
theorem dX5_takeDown_26 : decode cX5_takeDown 26 = .ok (.aload_n 0, 1) := by decide +kernel
theorem dX5_takeDown_27 : decode cX5_takeDown 27 = .ok (.getfield 19, 3) := by decide +kernel
theorem dX5_takeDown_30 : decode cX5_takeDown 30 = .ok (.invokevirtual 78, 3) := by decide +kernel
theorem dX5_takeDown_33 : decode cX5_takeDown 33 = .ok (.aload_n 2, 1) := by decide +kernel
theorem dX5_takeDown_34 : decode cX5_takeDown 34 = .ok (.iconst 0, 1) := by decide +kernel
theorem dX5_takeDown_35 : decode cX5_takeDown 35 = .ok (.invokevirtual 272, 3) := by decide +kernel
theorem dX5_takeDown_38 : decode cX5_takeDown 38 = .ok (.aload_n 2, 1) := by decide +kernel
theorem dX5_takeDown_39 : decode cX5_takeDown 39 = .ok (.getfield 161, 3) := by decide +kernel
theorem dX5_takeDown_42 : decode cX5_takeDown 42 = .ok (.ireturn, 1) := by decide +kernel
theorem dX5_pickUp_0 : decode cX5_pickUp 0 = .ok (.aload_n 0, 1) := by decide +kernel
theorem dX5_pickUp_1 : decode cX5_pickUp 1 = .ok (.iload_n 1, 1) := by decide +kernel
theorem dX5_pickUp_2 : decode cX5_pickUp 2 = .ok (.invokevirtual 143, 3) := by decide +kernel
theorem dX5_pickUp_5 : decode cX5_pickUp 5 = .ok (.astore_n 2, 1) := by decide +kernel
theorem dX5_pickUp_6 : decode cX5_pickUp 6 = .ok (.aload_n 2, 1) := by decide +kernel
theorem dX5_pickUp_7 : decode cX5_pickUp 7 = .ok (.getfield 147, 3) := by decide +kernel
theorem dX5_pickUp_10 : decode cX5_pickUp 10 = .ok (.iconst 2, 1) := by decide +kernel
theorem dX5_pickUp_11 : decode cX5_pickUp 11 = .ok (.if_icmp .ne 7, 3) := by decide +kernel
theorem dX5_pickUp_14 : decode cX5_pickUp 14 = .ok (.iconst 1, 1) := by decide +kernel
theorem dX5_pickUp_15 : decode cX5_pickUp 15 = .ok (.goto 4, 3) := by decide +kernel
theorem dX5_pickUp_18 : decode cX5_pickUp 18 = .ok (.iconst 0, 1) := by decide +kernel
theorem dX5_pickUp_19 : decode cX5_pickUp 19 = .ok (.invokestatic 258, 3) := by decide +kernel
theorem dX5_pickUp_22 : decode cX5_pickUp 22 = .ok (.aload_n 0, 1) := by decide +kernel
theorem dX5_pickUp_23 : decode cX5_pickUp 23 = .ok (.getfield 29, 3) := by decide +kernel
theorem dX5_pickUp_26 : decode cX5_pickUp 26 = .ok (.aload_n 0, 1) := by decide +kernel
theorem dX5_pickUp_27 : decode cX5_pickUp 27 = .ok (.getfield 19, 3) := by decide +kernel
theorem dX5_pickUp_30 : decode cX5_pickUp 30 = .ok (.invokevirtual 78, 3) := by decide +kernel
theorem dX5_pickUp_33 : decode cX5_pickUp 33 = .ok (.aload_n 2, 1) := by decide +kernel
theorem dX5_pickUp_34 : decode cX5_pickUp 34 = .ok (.iconst 0, 1) := by decide +kernel
theorem dX5_pickUp_35 : decode cX5_pickUp 35 = .ok (.invokevirtual 272, 3) := by decide +kernel
theorem dX5_pickUp_38 : decode cX5_pickUp 38 = .ok (.aload_n 0, 1) := by decide +kernel
theorem dX5_pickUp_39 : decode cX5_pickUp 39 = .ok (.getfield 19, 3) := by decide +kernel
theorem dX5_pickUp_42 : decode cX5_pickUp 42 = .ok (.iconst 2, 1) := by decide +kernel
theorem dX5_pickUp_43 : decode cX5_pickUp 43 = .ok (.invokevirtual 189, 3) := by decide +kernel
theorem dX5_pickUp_46 : decode cX5_pickUp 46 = .ok (.invokestatic 236, 3) := by decide +kernel
theorem dX5_pickUp_49 : decode cX5_pickUp 49 = .ok (.ireturn, 1) := by decide +kernel
theorem dX5_wash_0 : decode cX5_wash 0 = .ok (.aload_n 0, 1) := by decide +kernel
theorem dX5_wash_1 : decode cX5_wash 1 = .ok (.iload_n 1, 1) := by decide +kernel
theorem dX5_wash_2 : decode cX5_wash 2 = .ok (.invokevirtual 143, 3) := by decide +kernel
theorem dX5_wash_5 : decode cX5_wash 5 = .ok (.astore_n 2, 1) := by decide +kernel
theorem dX5_wash_6 : decode cX5_wash 6 = .ok (.aload_n 2, 1) := by decide +kernel
theorem dX5_wash_7 : decode cX5_wash 7 = .ok (.getfield 147, 3) := by decide +kernel
theorem dX5_wash_10 : decode cX5_wash 10 = .ok (.ifCond .ne 7, 3) := by decide +kernel
theorem dX5_wash_13 : decode cX5_wash 13 = .ok (.iconst 1, 1) := by decide +kernel
theorem dX5_wash_14 : decode cX5_wash 14 = .ok (.goto 4, 3) := by decide +kernel
theorem dX5_wash_17 : decode cX5_wash 17 = .ok (.iconst 0, 1) := by decide +kernel
theorem dX5_wash_18 : decode cX5_wash 18 = .ok (.invokestatic 258, 3) := by decide +kernel
theorem dX5_wash_21 : decode cX5_wash 21 = .ok (.aload_n 0, 1) := by decide +kernel
theorem dX5_wash_22 : decode cX5_wash 22 = .ok (.getfield 29, 3) := by decide +kernel
theorem dX5_wash_25 : decode cX5_wash 25 = .ok (.aload_n 0, 1) := by decide +kernel
theorem dX5_wash_26 : decode cX5_wash 26 = .ok (.getfield 19, 3) := by decide +kernel
theorem dX5_wash_29 : decode cX5_wash 29 = .ok (.invokevirtual 78, 3) := by decide +kernel
theorem dX5_wash_32 : decode cX5_wash 32 = .ok (.aload_n 2, 1) := by decide +kernel
theorem dX5_wash_33 : decode cX5_wash 33 = .ok (.getfield 161, 3) := by decide +kernel
theorem dX5_wash_36 : decode cX5_wash 36 = .ok (.istore_n 3, 1) := by decide +kernel
theorem dX5_wash_37 : decode cX5_wash 37 = .ok (.aload_n 2, 1) := by decide +kernel
theorem dX5_wash_38 : decode cX5_wash 38 = .ok (.invokevirtual 276, 3) := by decide +kernel
theorem dX5_wash_41 : decode cX5_wash 41 = .ok (.aload_n 2, 1) := by decide +kernel
theorem dX5_wash_42 : decode cX5_wash 42 = .ok (.getfield 161, 3) := by decide +kernel
theorem dX5_wash_45 : decode cX5_wash 45 = .ok (.iload_n 3, 1) := by decide +kernel
theorem dX5_wash_46 : decode cX5_wash 46 = .ok (.isub, 1) := by decide +kernel
theorem dX5_wash_47 : decode cX5_wash 47 = .ok (.ireturn, 1) := by decide +kernel
theorem dX5_shift_0 : decode cX5_shift 0 = .ok (.aload_n 0, 1) := by decide +kernel
theorem dX5_shift_1 : decode cX5_shift 1 = .ok (.iload_n 1, 1) := by decide +kernel
theorem dX5_shift_2 : decode cX5_shift 2 = .ok (.invokevirtual 143, 3) := by decide +kernel
theorem dX5_shift_5 : decode cX5_shift 5 = .ok (.astore_n 3, 1) := by decide +kernel
theorem dX5_shift_6 : decode cX5_shift 6 = .ok (.iload_n 2, 1) := by decide +kernel
theorem dX5_shift_7 : decode cX5_shift 7 = .ok (.iconst 0, 1) := by decide +kernel
theorem dX5_shift_8 : decode cX5_shift 8 = .ok (.bipush 23, 2) := by decide +kernel
theorem dX5_shift_10 : decode cX5_shift 10 = .ok (.invokestatic 103, 3) := by decide +kernel
theorem dX5_shift_13 : decode cX5_shift 13 = .ok (.aload_n 0, 1) := by decide +kernel
theorem dX5_shift_14 : decode cX5_shift 14 = .ok (.getfield 19, 3) := by decide +kernel
theorem dX5_shift_17 : decode cX5_shift 17 = .ok (.aload_n 3, 1) := by decide +kernel
theorem dX5_shift_18 : decode cX5_shift 18 = .ok (.iload_n 2, 1) := by decide +kernel
theorem dX5_shift_19 : decode cX5_shift 19 = .ok (.invokevirtual 279, 3) := by decide +kernel
theorem dX5_shift_22 : decode cX5_shift 22 = .ok (.invokestatic 258, 3) := by decide +kernel
theorem dX5_shift_25 : decode cX5_shift 25 = .ok (.aload_n 0, 1) := by decide +kernel
theorem dX5_shift_26 : decode cX5_shift 26 = .ok (.getfield 29, 3) := by decide +kernel
theorem dX5_shift_29 : decode cX5_shift 29 = .ok (.aload_n 0, 1) := by decide +kernel
theorem dX5_shift_30 : decode cX5_shift 30 = .ok (.getfield 19, 3) := by decide +kernel
theorem dX5_shift_33 : decode cX5_shift 33 = .ok (.invokevirtual 78, 3) := by decide +kernel
theorem dX5_shift_36 : decode cX5_shift 36 = .ok (.aload_n 3, 1) := by decide +kernel
theorem dX5_shift_37 : decode cX5_shift 37 = .ok (.getfield 170, 3) := by decide +kernel
theorem dX5_shift_40 : decode cX5_shift 40 = .ok (.istore 4, 2) := by decide +kernel
theorem dX5_shift_42 : decode cX5_shift 42 = .ok (.aload_n 3, 1) := by decide +kernel
theorem dX5_shift_43 : decode cX5_shift 43 = .ok (.iload_n 2, 1) := by decide +kernel
theorem dX5_shift_44 : decode cX5_shift 44 = .ok (.invokevirtual 283, 3) := by decide +kernel
theorem dX5_shift_47 : decode cX5_shift 47 = .ok (.iload 4, 2) := by decide +kernel
theorem dX5_shift_49 : decode cX5_shift 49 = .ok (.ireturn, 1) := by decide +kernel
theorem dX5_addShower_0 : decode cX5_addShower 0 = .ok (.iload_n 1, 1) := by decide +kernel
theorem dX5_addShower_1 : decode cX5_addShower 1 = .ok (.iconst 0, 1) := by decide +kernel
theorem dX5_addShower_2 : decode cX5_addShower 2 = .ok (.sipush 9999, 3) := by decide +kernel
theorem dX5_addShower_5 : decode cX5_addShower 5 = .ok (.invokestatic 103, 3) := by decide +kernel
theorem dX5_addShower_8 : decode cX5_addShower 8 = .ok (.iload_n 2, 1) := by decide +kernel
theorem dX5_addShower_9 : decode cX5_addShower 9 = .ok (.iconst 1, 1) := by decide +kernel
theorem dX5_addShower_10 : decode cX5_addShower 10 = .ok (.sipush 200, 3) := by decide +kernel
theorem dX5_addShower_13 : decode cX5_addShower 13 = .ok (.invokestatic 103, 3) := by decide +kernel
theorem dX5_addShower_16 : decode cX5_addShower 16 = .ok (.iload_n 3, 1) := by decide +kernel
theorem dX5_addShower_17 : decode cX5_addShower 17 = .ok (.iconst 1, 1) := by decide +kernel
theorem dX5_addShower_18 : decode cX5_addShower 18 = .ok (.bipush 20, 2) := by decide +kernel
theorem dX5_addShower_20 : decode cX5_addShower 20 = .ok (.invokestatic 103, 3) := by decide +kernel
theorem dX5_addShower_23 : decode cX5_addShower 23 = .ok (.aload_n 0, 1) := by decide +kernel
theorem dX5_addShower_24 : decode cX5_addShower 24 = .ok (.getfield 19, 3) := by decide +kernel
theorem dX5_addShower_27 : decode cX5_addShower 27 = .ok (.getfield 90, 3) := by decide +kernel
theorem dX5_addShower_30 : decode cX5_addShower 30 = .ok (.getfield 286, 3) := by decide +kernel
theorem dX5_addShower_33 : decode cX5_addShower 33 = .ok (.iconst 4, 1) := by decide +kernel
theorem dX5_addShower_34 : decode cX5_addShower 34 = .ok (.if_icmp .ge 7, 3) := by decide +kernel
theorem dX5_addShower_37 : decode cX5_addShower 37 = .ok (.iconst 1, 1) := by decide +kernel
theorem dX5_addShower_38 : decode cX5_addShower 38 = .ok (.goto 4, 3) := by decide +kernel
theorem dX5_addShower_41 : decode cX5_addShower 41 = .ok (.iconst 0, 1) := by decide +kernel
theorem dX5_addShower_42 : decode cX5_addShower 42 = .ok (.invokestatic 258, 3) := by decide +kernel
theorem dX5_addShower_45 : decode cX5_addShower 45 = .ok (.aload_n 0, 1) := by decide +kernel
theorem dX5_addShower_46 : decode cX5_addShower 46 = .ok (.getfield 29, 3) := by decide +kernel
theorem dX5_addShower_49 : decode cX5_addShower 49 = .ok (.aload_n 0, 1) := by decide +kernel
theorem dX5_addShower_50 : decode cX5_addShower 50 = .ok (.getfield 19, 3) := by decide +kernel
theorem dX5_addShower_53 : decode cX5_addShower 53 = .ok (.invokevirtual 78, 3) := by decide +kernel
theorem dX5_addShower_56 : decode cX5_addShower 56 = .ok (.aload_n 0, 1) := by decide +kernel
theorem dX5_addShower_57 : decode cX5_addShower 57 = .ok (.getfield 19, 3) := by decide +kernel
theorem dX5_addShower_60 : decode cX5_addShower 60 = .ok (.getfield 90, 3) := by decide +kernel
theorem dX5_addShower_63 : decode cX5_addShower 63 = .ok (.iload_n 1, 1) := by decide +kernel
theorem dX5_addShower_64 : decode cX5_addShower 64 = .ok (.iload_n 2, 1) := by decide +kernel
theorem dX5_addShower_65 : decode cX5_addShower 65 = .ok (.iload_n 3, 1) := by decide +kernel
theorem dX5_addShower_66 : decode cX5_addShower 66 = .ok (.invokevirtual 289, 3) := by decide +kernel
theorem dX5_addShower_69 : decode cX5_addShower 69 = .ok (.aload_n 0, 1) := by decide +kernel
theorem dX5_addShower_70 : decode cX5_addShower 70 = .ok (.getfield 19, 3) := by decide +kernel
theorem dX5_addShower_73 : decode cX5_addShower 73 = .ok (.getfield 90, 3) := by decide +kernel
theorem dX5_addShower_76 : decode cX5_addShower 76 = .ok (.getfield 286, 3) := by decide +kernel
theorem dX5_addShower_79 : decode cX5_addShower 79 = .ok (.ireturn, 1) := by decide +kernel
theorem dX5_addSmoke_0 : decode cX5_addSmoke 0 = .ok (.iload_n 1, 1) := by decide +kernel
theorem dX5_addSmoke_1 : decode cX5_addSmoke 1 = .ok (.iconst 0, 1) := by decide +kernel
theorem dX5_addSmoke_2 : decode cX5_addSmoke 2 = .ok (.sipush 9999, 3) := by decide +kernel
theorem dX5_addSmoke_5 : decode cX5_addSmoke 5 = .ok (.invokestatic 103, 3) := by decide +kernel
theorem dX5_addSmoke_8 : decode cX5_addSmoke 8 = .ok (.iload_n 2, 1) := by decide +kernel
theorem dX5_addSmoke_9 : decode cX5_addSmoke 9 = .ok (.iload_n 1, 1) := by decide +kernel
theorem dX5_addSmoke_10 : decode cX5_addSmoke 10 = .ok (.sipush 9999, 3) := by decide +kernel
theorem dX5_addSmoke_13 : decode cX5_addSmoke 13 = .ok (.invokestatic 103, 3) := by decide +kernel
theorem dX5_addSmoke_16 : decode cX5_addSmoke 16 = .ok (.aload_n 0, 1) := by decide +kernel
theorem dX5_addSmoke_17 : decode cX5_addSmoke 17 = .ok (.getfield 19, 3) := by decide +kernel
theorem dX5_addSmoke_20 : decode cX5_addSmoke 20 = .ok (.getfield 90, 3) := by decide +kernel
theorem dX5_addSmoke_23 : decode cX5_addSmoke 23 = .ok (.getfield 292, 3) := by decide +kernel
theorem dX5_addSmoke_26 : decode cX5_addSmoke 26 = .ok (.iconst 4, 1) := by decide +kernel
theorem dX5_addSmoke_27 : decode cX5_addSmoke 27 = .ok (.if_icmp .ge 7, 3) := by decide +kernel
theorem dX5_addSmoke_30 : decode cX5_addSmoke 30 = .ok (.iconst 1, 1) := by decide +kernel
theorem dX5_addSmoke_31 : decode cX5_addSmoke 31 = .ok (.goto 4, 3) := by decide +kernel
theorem dX5_addSmoke_34 : decode cX5_addSmoke 34 = .ok (.iconst 0, 1) := by decide +kernel
theorem dX5_addSmoke_35 : decode cX5_addSmoke 35 = .ok (.invokestatic 258, 3) := by decide +kernel
theorem dX5_addSmoke_38 : decode cX5_addSmoke 38 = .ok (.aload_n 0, 1) := by decide +kernel
theorem dX5_addSmoke_39 : decode cX5_addSmoke 39 = .ok (.getfield 29, 3) := by decide +kernel
theorem dX5_addSmoke_42 : decode cX5_addSmoke 42 = .ok (.aload_n 0, 1) := by decide +kernel
theorem dX5_addSmoke_43 : decode cX5_addSmoke 43 = .ok (.getfield 19, 3) := by decide +kernel
theorem dX5_addSmoke_46 : decode cX5_addSmoke 46 = .ok (.invokevirtual 78, 3) := by decide +kernel
theorem dX5_addSmoke_49 : decode cX5_addSmoke 49 = .ok (.aload_n 0, 1) := by decide +kernel
theorem dX5_addSmoke_50 : decode cX5_addSmoke 50 = .ok (.getfield 19, 3) := by decide +kernel
theorem dX5_addSmoke_53 : decode cX5_addSmoke 53 = .ok (.getfield 90, 3) := by decide +kernel
theorem dX5_addSmoke_56 : decode cX5_addSmoke 56 = .ok (.iload_n 1, 1) := by decide +kernel
theorem dX5_addSmoke_57 : decode cX5_addSmoke 57 = .ok (.iload_n 2, 1) := by decide +kernel
theorem dX5_addSmoke_58 : decode cX5_addSmoke 58 = .ok (.invokevirtual 295, 3) := by decide +kernel
theorem dX5_addSmoke_61 : decode cX5_addSmoke 61 = .ok (.aload_n 0, 1) := by decide +kernel
theorem dX5_addSmoke_62 : decode cX5_addSmoke 62 = .ok (.getfield 19, 3) := by decide +kernel
theorem dX5_addSmoke_65 : decode cX5_addSmoke 65 = .ok (.getfield 90, 3) := by decide +kernel
theorem dX5_addSmoke_68 : decode cX5_addSmoke 68 = .ok (.getfield 292, 3) := by decide +kernel
theorem dX5_addSmoke_71 : decode cX5_addSmoke 71 = .ok (.ireturn, 1) := by decide +kernel
theorem dX5_setWind_0 : decode cX5_setWind 0 = .ok (.iload_n 1, 1) := by decide +kernel
theorem dX5_setWind_1 : decode cX5_setWind 1 = .ok (.ifCond .lt 17, 3) := by decide +kernel
theorem dX5_setWind_4 : decode cX5_setWind 4 = .ok (.iload_n 1, 1) := by decide +kernel
theorem dX5_setWind_5 : decode cX5_setWind 5 = .ok (.aload_n 0, 1) := by decide +kernel
theorem dX5_setWind_6 : decode cX5_setWind 6 = .ok (.getfield 19, 3) := by decide +kernel
theorem dX5_setWind_9 : decode cX5_setWind 9 = .ok (.getfield 90, 3) := by decide +kernel
theorem dX5_setWind_12 : decode cX5_setWind 12 = .ok (.getfield 299, 3) := by decide +kernel
theorem dX5_setWind_15 : decode cX5_setWind 15 = .ok (.if_icmp .lt 14, 3) := by decide +kernel
theorem dX5_setWind_18 : decode cX5_setWind 18 = .ok (.new 302, 3) := by decide +kernel
theorem dX5_setWind_21 : decode cX5_setWind 21 = .ok (.dup, 1) := by decide +kernel
theorem dX5_setWind_22 : decode cX5_setWind 22 = .ok (.ldc_w 304, 3) := by decide +kernel
theorem dX5_setWind_25 : decode cX5_setWind 25 = .ok (.invokespecial 306, 3) := by decide +kernel
theorem dX5_setWind_28 : decode cX5_setWind 28 = .ok (.athrow, 1) := by decide +kernel
theorem dX5_setWind_29 : decode cX5_setWind 29 = .ok (.iload_n 2, 1) := by decide +kernel
theorem dX5_setWind_30 : decode cX5_setWind 30 = .ok (.iconst 0, 1) := by decide +kernel
theorem dX5_setWind_31 : decode cX5_setWind 31 = .ok (.iconst 5, 1) := by decide +kernel
theorem dX5_setWind_32 : decode cX5_setWind 32 = .ok (.invokestatic 103, 3) := by decide +kernel
theorem dX5_setWind_35 : decode cX5_setWind 35 = .ok (.aload_n 0, 1) := by decide +kernel
theorem dX5_setWind_36 : decode cX5_setWind 36 = .ok (.getfield 29, 3) := by decide +kernel
theorem dX5_setWind_39 : decode cX5_setWind 39 = .ok (.aload_n 0, 1) := by decide +kernel
theorem dX5_setWind_40 : decode cX5_setWind 40 = .ok (.getfield 19, 3) := by decide +kernel
theorem dX5_setWind_43 : decode cX5_setWind 43 = .ok (.invokevirtual 78, 3) := by decide +kernel
theorem dX5_setWind_46 : decode cX5_setWind 46 = .ok (.aload_n 0, 1) := by decide +kernel
theorem dX5_setWind_47 : decode cX5_setWind 47 = .ok (.getfield 19, 3) := by decide +kernel
theorem dX5_setWind_50 : decode cX5_setWind 50 = .ok (.getfield 90, 3) := by decide +kernel
theorem dX5_setWind_53 : decode cX5_setWind 53 = .ok (.getfield 308, 3) := by decide +kernel
theorem dX5_setWind_56 : decode cX5_setWind 56 = .ok (.iload_n 1, 1) := by decide +kernel
theorem dX5_setWind_57 : decode cX5_setWind 57 = .ok (.iaload, 1) := by decide +kernel
theorem dX5_setWind_58 : decode cX5_setWind 58 = .ok (.istore_n 3, 1) := by decide +kernel
theorem dX5_setWind_59 : decode cX5_setWind 59 = .ok (.aload_n 0, 1) := by decide +kernel
theorem dX5_setWind_60 : decode cX5_setWind 60 = .ok (.getfield 19, 3) := by decide +kernel
theorem dX5_setWind_63 : decode cX5_setWind 63 = .ok (.getfield 90, 3) := by decide +kernel
theorem dX5_setWind_66 : decode cX5_setWind 66 = .ok (.getfield 308, 3) := by decide +kernel
theorem dX5_setWind_69 : decode cX5_setWind 69 = .ok (.iload_n 1, 1) := by decide +kernel
theorem dX5_setWind_70 : decode cX5_setWind 70 = .ok (.iload_n 2, 1) := by decide +kernel
theorem dX5_setWind_71 : decode cX5_setWind 71 = .ok (.iastore, 1) := by decide +kernel
theorem dX5_setWind_72 : decode cX5_setWind 72 = .ok (.iload_n 3, 1) := by decide +kernel
theorem dX5_setWind_73 : decode cX5_setWind 73 = .ok (.ireturn, 1) := by decide +kernel
theorem dX5_passMinutes_0 : decode cX5_passMinutes 0 = .ok (.iload_n 1, 1) := by decide +kernel
theorem dX5_passMinutes_1 : decode cX5_passMinutes 1 = .ok (.iconst 1, 1) := by decide +kernel
theorem dX5_passMinutes_2 : decode cX5_passMinutes 2 = .ok (.sipush 200, 3) := by decide +kernel
theorem dX5_passMinutes_5 : decode cX5_passMinutes 5 = .ok (.invokestatic 103, 3) := by decide +kernel
theorem dX5_passMinutes_8 : decode cX5_passMinutes 8 = .ok (.aload_n 0, 1) := by decide +kernel
theorem dX5_passMinutes_9 : decode cX5_passMinutes 9 = .ok (.getfield 29, 3) := by decide +kernel
theorem dX5_passMinutes_12 : decode cX5_passMinutes 12 = .ok (.aload_n 0, 1) := by decide +kernel
theorem dX5_passMinutes_13 : decode cX5_passMinutes 13 = .ok (.getfield 19, 3) := by decide +kernel
theorem dX5_passMinutes_16 : decode cX5_passMinutes 16 = .ok (.invokevirtual 78, 3) := by decide +kernel
theorem dX5_passMinutes_19 : decode cX5_passMinutes 19 = .ok (.aload_n 0, 1) := by decide +kernel
theorem dX5_passMinutes_20 : decode cX5_passMinutes 20 = .ok (.getfield 19, 3) := by decide +kernel
theorem dX5_passMinutes_23 : decode cX5_passMinutes 23 = .ok (.iload_n 1, 1) := by decide +kernel
theorem dX5_passMinutes_24 : decode cX5_passMinutes 24 = .ok (.invokevirtual 245, 3) := by decide +kernel
theorem dX5_passMinutes_27 : decode cX5_passMinutes 27 = .ok (.ireturn, 1) := by decide +kernel
theorem dX5_undo_0 : decode cX5_undo 0 = .ok (.aload_n 0, 1) := by decide +kernel
theorem dX5_undo_1 : decode cX5_undo 1 = .ok (.getfield 29, 3) := by decide +kernel
theorem dX5_undo_4 : decode cX5_undo 4 = .ok (.getfield 99, 3) := by decide +kernel
theorem dX5_undo_7 : decode cX5_undo 7 = .ok (.ifCond .le 7, 3) := by decide +kernel
theorem dX5_undo_10 : decode cX5_undo 10 = .ok (.iconst 1, 1) := by decide +kernel
theorem dX5_undo_11 : decode cX5_undo 11 = .ok (.goto 4, 3) := by decide +kernel
theorem dX5_undo_14 : decode cX5_undo 14 = .ok (.iconst 0, 1) := by decide +kernel
theorem dX5_undo_15 : decode cX5_undo 15 = .ok (.invokestatic 258, 3) := by decide +kernel
theorem dX5_undo_18 : decode cX5_undo 18 = .ok (.aload_n 0, 1) := by decide +kernel
theorem dX5_undo_19 : decode cX5_undo 19 = .ok (.getfield 29, 3) := by decide +kernel
theorem dX5_undo_22 : decode cX5_undo 22 = .ok (.aload_n 0, 1) := by decide +kernel
theorem dX5_undo_23 : decode cX5_undo 23 = .ok (.getfield 19, 3) := by decide +kernel
theorem dX5_undo_26 : decode cX5_undo 26 = .ok (.invokevirtual 311, 3) := by decide +kernel
theorem dX5_undo_29 : decode cX5_undo 29 = .ok (.aload_n 0, 1) := by decide +kernel
theorem dX5_undo_30 : decode cX5_undo 30 = .ok (.getfield 29, 3) := by decide +kernel
theorem dX5_undo_33 : decode cX5_undo 33 = .ok (.getfield 99, 3) := by decide +kernel
theorem dX5_undo_36 : decode cX5_undo 36 = .ok (.ireturn, 1) := by decide +kernel
theorem dX5_save_0 : decode cX5_save 0 = .ok (.iload_n 1, 1) := by decide +kernel
theorem dX5_save_1 : decode cX5_save 1 = .ok (.iconst 0, 1) := by decide +kernel
theorem dX5_save_2 : decode cX5_save 2 = .ok (.iconst 1, 1) := by decide +kernel
theorem dX5_save_3 : decode cX5_save 3 = .ok (.invokestatic 103, 3) := by decide +kernel
theorem dX5_save_6 : decode cX5_save 6 = .ok (.aload_n 0, 1) := by decide +kernel
theorem dX5_save_7 : decode cX5_save 7 = .ok (.getfield 33, 3) := by decide +kernel
theorem dX5_save_10 : decode cX5_save 10 = .ok (.iload_n 1, 1) := by decide +kernel
theorem dX5_save_11 : decode cX5_save 11 = .ok (.aaload, 1) := by decide +kernel
theorem dX5_save_12 : decode cX5_save 12 = .ok (.aload_n 0, 1) := by decide +kernel
theorem dX5_save_13 : decode cX5_save 13 = .ok (.getfield 19, 3) := by decide +kernel
theorem dX5_save_16 : decode cX5_save 16 = .ok (.invokevirtual 66, 3) := by decide +kernel
theorem dX5_save_19 : decode cX5_save 19 = .ok (.aload_n 0, 1) := by decide +kernel
theorem dX5_save_20 : decode cX5_save 20 = .ok (.getfield 37, 3) := by decide +kernel
theorem dX5_save_23 : decode cX5_save 23 = .ok (.iload_n 1, 1) := by decide +kernel
theorem dX5_save_24 : decode cX5_save 24 = .ok (.iconst 1, 1) := by decide +kernel
theorem dX5_save_25 : decode cX5_save 25 = .ok (.bastore, 1) := by decide +kernel
theorem dX5_save_26 : decode cX5_save 26 = .ok (.aload_n 0, 1) := by decide +kernel
theorem dX5_save_27 : decode cX5_save 27 = .ok (.getfield 19, 3) := by decide +kernel
theorem dX5_save_30 : decode cX5_save 30 = .ok (.getfield 87, 3) := by decide +kernel
theorem dX5_save_33 : decode cX5_save 33 = .ok (.ireturn, 1) := by decide +kernel
theorem dX5_restore_0 : decode cX5_restore 0 = .ok (.iload_n 1, 1) := by decide +kernel
theorem dX5_restore_1 : decode cX5_restore 1 = .ok (.iconst 0, 1) := by decide +kernel
theorem dX5_restore_2 : decode cX5_restore 2 = .ok (.iconst 1, 1) := by decide +kernel
theorem dX5_restore_3 : decode cX5_restore 3 = .ok (.invokestatic 103, 3) := by decide +kernel
theorem dX5_restore_6 : decode cX5_restore 6 = .ok (.aload_n 0, 1) := by decide +kernel
theorem dX5_restore_7 : decode cX5_restore 7 = .ok (.getfield 37, 3) := by decide +kernel
theorem dX5_restore_10 : decode cX5_restore 10 = .ok (.iload_n 1, 1) := by decide +kernel
theorem dX5_restore_11 : decode cX5_restore 11 = .ok (.baload, 1) := by decide +kernel
theorem dX5_restore_12 : decode cX5_restore 12 = .ok (.ifCond .ne 14, 3) := by decide +kernel
theorem dX5_restore_15 : decode cX5_restore 15 = .ok (.new 314, 3) := by decide +kernel
theorem dX5_restore_18 : decode cX5_restore 18 = .ok (.dup, 1) := by decide +kernel
theorem dX5_restore_19 : decode cX5_restore 19 = .ok (.ldc_w 316, 3) := by decide +kernel
theorem dX5_restore_22 : decode cX5_restore 22 = .ok (.invokespecial 318, 3) := by decide +kernel
theorem dX5_restore_25 : decode cX5_restore 25 = .ok (.athrow, 1) := by decide +kernel
theorem dX5_restore_26 : decode cX5_restore 26 = .ok (.aload_n 0, 1) := by decide +kernel
theorem dX5_restore_27 : decode cX5_restore 27 = .ok (.getfield 19, 3) := by decide +kernel
theorem dX5_restore_30 : decode cX5_restore 30 = .ok (.aload_n 0, 1) := by decide +kernel
theorem dX5_restore_31 : decode cX5_restore 31 = .ok (.getfield 33, 3) := by decide +kernel
theorem dX5_restore_34 : decode cX5_restore 34 = .ok (.iload_n 1, 1) := by decide +kernel
theorem dX5_restore_35 : decode cX5_restore 35 = .ok (.aaload, 1) := by decide +kernel
theorem dX5_restore_36 : decode cX5_restore 36 = .ok (.invokevirtual 66, 3) := by decide +kernel
theorem dX5_restore_39 : decode cX5_restore 39 = .ok (.aload_n 0, 1) := by decide +kernel
theorem dX5_restore_40 : decode cX5_restore 40 = .ok (.getfield 29, 3) := by decide +kernel
theorem dX5_restore_43 : decode cX5_restore 43 = .ok (.invokevirtual 70, 3) := by decide +kernel
theorem dX5_restore_46 : decode cX5_restore 46 = .ok (.aload_n 0, 1) := by decide +kernel
theorem dX5_restore_47 : decode cX5_restore 47 = .ok (.getfield 19, 3) := by decide +kernel
theorem dX5_restore_50 : decode cX5_restore 50 = .ok (.getfield 87, 3) := by decide +kernel
theorem dX5_restore_53 : decode cX5_restore 53 = .ok (.ireturn, 1) := by decide +kernel
theorem dX5_writeLine_0 : decode cX5_writeLine 0 = .ok (.aload_n 0, 1) := by decide +kernel
theorem dX5_writeLine_1 : decode cX5_writeLine 1 = .ok (.getfield 19, 3) := by decide +kernel
theorem dX5_writeLine_4 : decode cX5_writeLine 4 = .ok (.getfield 90, 3) := by decide +kernel
theorem dX5_writeLine_7 : decode cX5_writeLine 7 = .ok (.aload_n 0, 1) := by decide +kernel
theorem dX5_writeLine_8 : decode cX5_writeLine 8 = .ok (.getfield 19, 3) := by decide +kernel
theorem dX5_writeLine_11 : decode cX5_writeLine 11 = .ok (.getfield 87, 3) := by decide +kernel
theorem dX5_writeLine_14 : decode cX5_writeLine 14 = .ok (.invokevirtual 114, 3) := by decide +kernel
theorem dX5_writeLine_17 : decode cX5_writeLine 17 = .ok (.istore_n 1, 1) := by decide +kernel
theorem dX5_writeLine_18 : decode cX5_writeLine 18 = .ok (.iconst 0, 1) := by decide +kernel
theorem dX5_writeLine_19 : decode cX5_writeLine 19 = .ok (.istore_n 2, 1) := by decide +kernel
theorem dX5_writeLine_20 : decode cX5_writeLine 20 = .ok (.iload_n 2, 1) := by decide +kernel
theorem dX5_writeLine_21 : decode cX5_writeLine 21 = .ok (.bipush 24, 2) := by decide +kernel
theorem dX5_writeLine_23 : decode cX5_writeLine 23 = .ok (.if_icmp .ge 58, 3) := by decide +kernel
theorem dX5_writeLine_26 : decode cX5_writeLine 26 = .ok (.aload_n 0, 1) := by decide +kernel
theorem dX5_writeLine_27 : decode cX5_writeLine 27 = .ok (.getfield 19, 3) := by decide +kernel
theorem dX5_writeLine_30 : decode cX5_writeLine 30 = .ok (.iload_n 2, 1) := by decide +kernel
theorem dX5_writeLine_31 : decode cX5_writeLine 31 = .ok (.invokevirtual 140, 3) := by decide +kernel
theorem dX5_writeLine_34 : decode cX5_writeLine 34 = .ok (.istore_n 3, 1) := by decide +kernel
theorem dX5_writeLine_35 : decode cX5_writeLine 35 = .ok (.iload_n 3, 1) := by decide +kernel
theorem dX5_writeLine_36 : decode cX5_writeLine 36 = .ok (.iconst (-1), 1) := by decide +kernel
theorem dX5_writeLine_37 : decode cX5_writeLine 37 = .ok (.if_icmp .eq 16, 3) := by decide +kernel
theorem dX5_writeLine_40 : decode cX5_writeLine 40 = .ok (.aload_n 0, 1) := by decide +kernel
theorem dX5_writeLine_41 : decode cX5_writeLine 41 = .ok (.getfield 41, 3) := by decide +kernel
theorem dX5_writeLine_44 : decode cX5_writeLine 44 = .ok (.iload_n 2, 1) := by decide +kernel
theorem dX5_writeLine_45 : decode cX5_writeLine 45 = .ok (.bipush 48, 2) := by decide +kernel
theorem dX5_writeLine_47 : decode cX5_writeLine 47 = .ok (.iload_n 3, 1) := by decide +kernel
theorem dX5_writeLine_48 : decode cX5_writeLine 48 = .ok (.iadd, 1) := by decide +kernel
theorem dX5_writeLine_49 : decode cX5_writeLine 49 = .ok (.iastore, 1) := by decide +kernel
theorem dX5_writeLine_50 : decode cX5_writeLine 50 = .ok (.goto 25, 3) := by decide +kernel
theorem dX5_writeLine_53 : decode cX5_writeLine 53 = .ok (.aload_n 0, 1) := by decide +kernel
theorem dX5_writeLine_54 : decode cX5_writeLine 54 = .ok (.getfield 41, 3) := by decide +kernel
theorem dX5_writeLine_57 : decode cX5_writeLine 57 = .ok (.iload_n 2, 1) := by decide +kernel
theorem dX5_writeLine_58 : decode cX5_writeLine 58 = .ok (.iload_n 1, 1) := by decide +kernel
theorem dX5_writeLine_59 : decode cX5_writeLine 59 = .ok (.iload_n 2, 1) := by decide +kernel
theorem dX5_writeLine_60 : decode cX5_writeLine 60 = .ok (.ishr, 1) := by decide +kernel
theorem dX5_writeLine_61 : decode cX5_writeLine 61 = .ok (.iconst 1, 1) := by decide +kernel
theorem dX5_writeLine_62 : decode cX5_writeLine 62 = .ok (.iand, 1) := by decide +kernel
theorem dX5_writeLine_63 : decode cX5_writeLine 63 = .ok (.iconst 1, 1) := by decide +kernel
theorem dX5_writeLine_64 : decode cX5_writeLine 64 = .ok (.if_icmp .ne 8, 3) := by decide +kernel
theorem dX5_writeLine_67 : decode cX5_writeLine 67 = .ok (.bipush 42, 2) := by decide +kernel
theorem dX5_writeLine_69 : decode cX5_writeLine 69 = .ok (.goto 5, 3) := by decide +kernel
theorem dX5_writeLine_72 : decode cX5_writeLine 72 = .ok (.bipush 45, 2) := by decide +kernel
theorem dX5_writeLine_74 : decode cX5_writeLine 74 = .ok (.iastore, 1) := by decide +kernel
theorem dX5_writeLine_75 : decode cX5_writeLine 75 = .ok (.iinc 2 1, 3) := by decide +kernel
theorem dX5_writeLine_78 : decode cX5_writeLine 78 = .ok (.goto (-58), 3) := by decide +kernel
theorem dX5_writeLine_81 : decode cX5_writeLine 81 = .ok (.aload_n 0, 1) := by decide +kernel
theorem dX5_writeLine_82 : decode cX5_writeLine 82 = .ok (.bipush 24, 2) := by decide +kernel
theorem dX5_writeLine_84 : decode cX5_writeLine 84 = .ok (.putfield 319, 3) := by decide +kernel
theorem dX5_writeLine_87 : decode cX5_writeLine 87 = .ok (.aload_n 0, 1) := by decide +kernel
theorem dX5_writeLine_88 : decode cX5_writeLine 88 = .ok (.getfield 319, 3) := by decide +kernel
theorem dX5_writeLine_91 : decode cX5_writeLine 91 = .ok (.ireturn, 1) := by decide +kernel
theorem dX5_outputByte_0 : decode cX5_outputByte 0 = .ok (.iload_n 1, 1) := by decide +kernel
theorem dX5_outputByte_1 : decode cX5_outputByte 1 = .ok (.ifCond .lt 11, 3) := by decide +kernel
theorem dX5_outputByte_4 : decode cX5_outputByte 4 = .ok (.iload_n 1, 1) := by decide +kernel
theorem dX5_outputByte_5 : decode cX5_outputByte 5 = .ok (.aload_n 0, 1) := by decide +kernel
theorem dX5_outputByte_6 : decode cX5_outputByte 6 = .ok (.getfield 319, 3) := by decide +kernel
theorem dX5_outputByte_9 : decode cX5_outputByte 9 = .ok (.if_icmp .lt 7, 3) := by decide +kernel
theorem dX5_outputByte_12 : decode cX5_outputByte 12 = .ok (.iconst (-1), 1) := by decide +kernel
theorem dX5_outputByte_13 : decode cX5_outputByte 13 = .ok (.goto 9, 3) := by decide +kernel
theorem dX5_outputByte_16 : decode cX5_outputByte 16 = .ok (.aload_n 0, 1) := by decide +kernel
theorem dX5_outputByte_17 : decode cX5_outputByte 17 = .ok (.getfield 41, 3) := by decide +kernel
theorem dX5_outputByte_20 : decode cX5_outputByte 20 = .ok (.iload_n 1, 1) := by decide +kernel
theorem dX5_outputByte_21 : decode cX5_outputByte 21 = .ok (.iaload, 1) := by decide +kernel
theorem dX5_outputByte_22 : decode cX5_outputByte 22 = .ok (.ireturn, 1) := by decide +kernel
theorem dX5_requireRange_0 : decode cX5_requireRange 0 = .ok (.iload_n 0, 1) := by decide +kernel
theorem dX5_requireRange_1 : decode cX5_requireRange 1 = .ok (.iload_n 1, 1) := by decide +kernel
theorem dX5_requireRange_2 : decode cX5_requireRange 2 = .ok (.if_icmp .lt 8, 3) := by decide +kernel
theorem dX5_requireRange_5 : decode cX5_requireRange 5 = .ok (.iload_n 0, 1) := by decide +kernel
theorem dX5_requireRange_6 : decode cX5_requireRange 6 = .ok (.iload_n 2, 1) := by decide +kernel
theorem dX5_requireRange_7 : decode cX5_requireRange 7 = .ok (.if_icmp .le 14, 3) := by decide +kernel
theorem dX5_requireRange_10 : decode cX5_requireRange 10 = .ok (.new 322, 3) := by decide +kernel
theorem dX5_requireRange_13 : decode cX5_requireRange 13 = .ok (.dup, 1) := by decide +kernel
theorem dX5_requireRange_14 : decode cX5_requireRange 14 = .ok (.ldc_w 324, 3) := by decide +kernel
theorem dX5_requireRange_17 : decode cX5_requireRange 17 = .ok (.invokespecial 326, 3) := by decide +kernel
theorem dX5_requireRange_20 : decode cX5_requireRange 20 = .ok (.athrow, 1) := by decide +kernel
theorem dX5_requireRange_21 : decode cX5_requireRange 21 = .ok (.return_, 1) := by decide +kernel
theorem dX5_requireState_0 : decode cX5_requireState 0 = .ok (.iload_n 0, 1) := by decide +kernel
theorem dX5_requireState_1 : decode cX5_requireState 1 = .ok (.ifCond .ne 14, 3) := by decide +kernel
theorem dX5_requireState_4 : decode cX5_requireState 4 = .ok (.new 327, 3) := by decide +kernel
theorem dX5_requireState_7 : decode cX5_requireState 7 = .ok (.dup, 1) := by decide +kernel
theorem dX5_requireState_8 : decode cX5_requireState 8 = .ok (.ldc_w 329, 3) := by decide +kernel
theorem dX5_requireState_11 : decode cX5_requireState 11 = .ok (.invokespecial 331, 3) := by decide +kernel
theorem dX5_requireState_14 : decode cX5_requireState 14 = .ok (.athrow, 1) := by decide +kernel
theorem dX5_requireState_15 : decode cX5_requireState 15 = .ok (.return_, 1) := by decide +kernel
theorem dX5_known_0 : decode cX5_known 0 = .ok (.iload_n 1, 1) := by decide +kernel
theorem dX5_known_1 : decode cX5_known 1 = .ok (.ifCond .lt 14, 3) := by decide +kernel
theorem dX5_known_4 : decode cX5_known 4 = .ok (.iload_n 1, 1) := by decide +kernel
theorem dX5_known_5 : decode cX5_known 5 = .ok (.aload_n 0, 1) := by decide +kernel
theorem dX5_known_6 : decode cX5_known 6 = .ok (.getfield 19, 3) := by decide +kernel
theorem dX5_known_9 : decode cX5_known 9 = .ok (.getfield 71, 3) := by decide +kernel
theorem dX5_known_12 : decode cX5_known 12 = .ok (.if_icmp .lt 14, 3) := by decide +kernel
theorem dX5_known_15 : decode cX5_known 15 = .ok (.new 302, 3) := by decide +kernel
theorem dX5_known_18 : decode cX5_known 18 = .ok (.dup, 1) := by decide +kernel
theorem dX5_known_19 : decode cX5_known 19 = .ok (.ldc_w 332, 3) := by decide +kernel
theorem dX5_known_22 : decode cX5_known 22 = .ok (.invokespecial 306, 3) := by decide +kernel
theorem dX5_known_25 : decode cX5_known 25 = .ok (.athrow, 1) := by decide +kernel
theorem dX5_known_26 : decode cX5_known 26 = .ok (.aload_n 0, 1) := by decide +kernel
theorem dX5_known_27 : decode cX5_known 27 = .ok (.getfield 19, 3) := by decide +kernel
theorem dX5_known_30 : decode cX5_known 30 = .ok (.getfield 192, 3) := by decide +kernel
theorem dX5_known_33 : decode cX5_known 33 = .ok (.iload_n 1, 1) := by decide +kernel
theorem dX5_known_34 : decode cX5_known 34 = .ok (.aaload, 1) := by decide +kernel
theorem dX5_known_35 : decode cX5_known 35 = .ok (.areturn, 1) := by decide +kernel
theorem dX5_waterSoonAt_0 : decode cX5_waterSoonAt 0 = .ok (.aload_n 0, 1) := by decide +kernel
theorem dX5_waterSoonAt_1 : decode cX5_waterSoonAt 1 = .ok (.getfield 23, 3) := by decide +kernel
theorem dX5_waterSoonAt_4 : decode cX5_waterSoonAt 4 = .ok (.aload_n 0, 1) := by decide +kernel
theorem dX5_waterSoonAt_5 : decode cX5_waterSoonAt 5 = .ok (.getfield 19, 3) := by decide +kernel
theorem dX5_waterSoonAt_8 : decode cX5_waterSoonAt 8 = .ok (.aload_n 1, 1) := by decide +kernel
theorem dX5_waterSoonAt_9 : decode cX5_waterSoonAt 9 = .ok (.invokevirtual 241, 3) := by decide +kernel
theorem dX5_waterSoonAt_12 : decode cX5_waterSoonAt 12 = .ok (.astore_n 3, 1) := by decide +kernel
theorem dX5_waterSoonAt_13 : decode cX5_waterSoonAt 13 = .ok (.aload_n 3, 1) := by decide +kernel
theorem dX5_waterSoonAt_14 : decode cX5_waterSoonAt 14 = .ok (.iload_n 2, 1) := by decide +kernel
theorem dX5_waterSoonAt_15 : decode cX5_waterSoonAt 15 = .ok (.iconst 0, 1) := by decide +kernel
theorem dX5_waterSoonAt_16 : decode cX5_waterSoonAt 16 = .ok (.iconst 5, 1) := by decide +kernel
theorem dX5_waterSoonAt_17 : decode cX5_waterSoonAt 17 = .ok (.invokevirtual 269, 3) := by decide +kernel
theorem dX5_waterSoonAt_20 : decode cX5_waterSoonAt 20 = .ok (.aload_n 0, 1) := by decide +kernel
theorem dX5_waterSoonAt_21 : decode cX5_waterSoonAt 21 = .ok (.getfield 23, 3) := by decide +kernel
theorem dX5_waterSoonAt_24 : decode cX5_waterSoonAt 24 = .ok (.bipush 60, 2) := by decide +kernel
theorem dX5_waterSoonAt_26 : decode cX5_waterSoonAt 26 = .ok (.invokevirtual 245, 3) := by decide +kernel
theorem dX5_waterSoonAt_29 : decode cX5_waterSoonAt 29 = .ok (.pop, 1) := by decide +kernel
theorem dX5_waterSoonAt_30 : decode cX5_waterSoonAt 30 = .ok (.aload_n 3, 1) := by decide +kernel
theorem dX5_waterSoonAt_31 : decode cX5_waterSoonAt 31 = .ok (.getfield 161, 3) := by decide +kernel
theorem dX5_waterSoonAt_34 : decode cX5_waterSoonAt 34 = .ok (.ireturn, 1) := by decide +kernel
theorem dX5_spotSet_0 : decode cX5_spotSet 0 = .ok (.iconst 1, 1) := by decide +kernel
theorem dX5_spotSet_1 : decode cX5_spotSet 1 = .ok (.iload_n 1, 1) := by decide +kernel
theorem dX5_spotSet_2 : decode cX5_spotSet 2 = .ok (.ishl, 1) := by decide +kernel
theorem dX5_spotSet_3 : decode cX5_spotSet 3 = .ok (.iconst 1, 1) := by decide +kernel
theorem dX5_spotSet_4 : decode cX5_spotSet 4 = .ok (.isub, 1) := by decide +kernel
theorem dX5_spotSet_5 : decode cX5_spotSet 5 = .ok (.iload_n 0, 1) := by decide +kernel
theorem dX5_spotSet_6 : decode cX5_spotSet 6 = .ok (.ishl, 1) := by decide +kernel
theorem dX5_spotSet_7 : decode cX5_spotSet 7 = .ok (.ireturn, 1) := by decide +kernel
theorem dX5_holdOfPegs_0 : decode cX5_holdOfPegs 0 = .ok (.iload_n 0, 1) := by decide +kernel
theorem dX5_holdOfPegs_1 : decode cX5_holdOfPegs 1 = .ok (.bipush 20, 2) := by decide +kernel
theorem dX5_holdOfPegs_3 : decode cX5_holdOfPegs 3 = .ok (.imul, 1) := by decide +kernel
theorem dX5_holdOfPegs_4 : decode cX5_holdOfPegs 4 = .ok (.iload_n 1, 1) := by decide +kernel
theorem dX5_holdOfPegs_5 : decode cX5_holdOfPegs 5 = .ok (.bipush 45, 2) := by decide +kernel
theorem dX5_holdOfPegs_7 : decode cX5_holdOfPegs 7 = .ok (.imul, 1) := by decide +kernel
theorem dX5_holdOfPegs_8 : decode cX5_holdOfPegs 8 = .ok (.iadd, 1) := by decide +kernel
theorem dX5_holdOfPegs_9 : decode cX5_holdOfPegs 9 = .ok (.ireturn, 1) := by decide +kernel
theorem dX6_init_0 : decode cX6_init 0 = .ok (.aload_n 0, 1) := by decide +kernel
theorem dX6_init_1 : decode cX6_init 1 = .ok (.invokespecial 1, 3) := by decide +kernel
theorem dX6_init_4 : decode cX6_init 4 = .ok (.aload_n 0, 1) := by decide +kernel
theorem dX6_init_5 : decode cX6_init 5 = .ok (.sipush 700, 3) := by decide +kernel
theorem dX6_init_8 : decode cX6_init 8 = .ok (.newarray .int, 2) := by decide +kernel
theorem dX6_init_10 : decode cX6_init 10 = .ok (.putfield 7, 3) := by decide +kernel
theorem dX6_init_13 : decode cX6_init 13 = .ok (.aload_n 0, 1) := by decide +kernel
theorem dX6_init_14 : decode cX6_init 14 = .ok (.iconst (-1), 1) := by decide +kernel
theorem dX6_init_15 : decode cX6_init 15 = .ok (.putfield 13, 3) := by decide +kernel
theorem dX6_init_18 : decode cX6_init 18 = .ok (.aload_n 0, 1) := by decide +kernel
theorem dX6_init_19 : decode cX6_init 19 = .ok (.sipush 149, 3) := by decide +kernel
theorem dX6_init_22 : decode cX6_init 22 = .ok (.newarray .int, 2) := by decide +kernel
theorem dX6_init_24 : decode cX6_init 24 = .ok (.putfield 17, 3) := by decide +kernel
theorem dX6_init_27 : decode cX6_init 27 = .ok (.aload_n 0, 1) := by decide +kernel
theorem dX6_init_28 : decode cX6_init 28 = .ok (.sipush 149, 3) := by decide +kernel
theorem dX6_init_31 : decode cX6_init 31 = .ok (.newarray .int, 2) := by decide +kernel
theorem dX6_init_33 : decode cX6_init 33 = .ok (.putfield 20, 3) := by decide +kernel
theorem dX6_init_36 : decode cX6_init 36 = .ok (.aload_n 0, 1) := by decide +kernel
theorem dX6_init_37 : decode cX6_init 37 = .ok (.sipush 149, 3) := by decide +kernel
theorem dX6_init_40 : decode cX6_init 40 = .ok (.newarray .int, 2) := by decide +kernel
theorem dX6_init_42 : decode cX6_init 42 = .ok (.putfield 23, 3) := by decide +kernel
theorem dX6_init_45 : decode cX6_init 45 = .ok (.aload_n 0, 1) := by decide +kernel
theorem dX6_init_46 : decode cX6_init 46 = .ok (.sipush 1192, 3) := by decide +kernel
theorem dX6_init_49 : decode cX6_init 49 = .ok (.newarray .int, 2) := by decide +kernel
theorem dX6_init_51 : decode cX6_init 51 = .ok (.putfield 26, 3) := by decide +kernel
theorem dX6_init_54 : decode cX6_init 54 = .ok (.aload_n 0, 1) := by decide +kernel
theorem dX6_init_55 : decode cX6_init 55 = .ok (.sipush 298, 3) := by decide +kernel
theorem dX6_init_58 : decode cX6_init 58 = .ok (.newarray .int, 2) := by decide +kernel
theorem dX6_init_60 : decode cX6_init 60 = .ok (.putfield 29, 3) := by decide +kernel
theorem dX6_init_63 : decode cX6_init 63 = .ok (.aload_n 0, 1) := by decide +kernel
theorem dX6_init_64 : decode cX6_init 64 = .ok (.iconst 2, 1) := by decide +kernel
theorem dX6_init_65 : decode cX6_init 65 = .ok (.newarray .boolean, 2) := by decide +kernel
theorem dX6_init_67 : decode cX6_init 67 = .ok (.putfield 32, 3) := by decide +kernel
theorem dX6_init_70 : decode cX6_init 70 = .ok (.aload_n 0, 1) := by decide +kernel
theorem dX6_init_71 : decode cX6_init 71 = .ok (.iconst 4, 1) := by decide +kernel
theorem dX6_init_72 : decode cX6_init 72 = .ok (.newarray .int, 2) := by decide +kernel
theorem dX6_init_74 : decode cX6_init 74 = .ok (.putfield 36, 3) := by decide +kernel
theorem dX6_init_77 : decode cX6_init 77 = .ok (.aload_n 0, 1) := by decide +kernel
theorem dX6_init_78 : decode cX6_init 78 = .ok (.bipush 24, 2) := by decide +kernel
theorem dX6_init_80 : decode cX6_init 80 = .ok (.newarray .int, 2) := by decide +kernel
theorem dX6_init_82 : decode cX6_init 82 = .ok (.putfield 39, 3) := by decide +kernel
theorem dX6_init_85 : decode cX6_init 85 = .ok (.ldc 42, 2) := by decide +kernel
theorem dX6_init_87 : decode cX6_init 87 = .ok (.astore_n 1, 1) := by decide +kernel
theorem dX6_init_88 : decode cX6_init 88 = .ok (.iconst 0, 1) := by decide +kernel
theorem dX6_init_89 : decode cX6_init 89 = .ok (.istore_n 2, 1) := by decide +kernel
theorem dX6_init_90 : decode cX6_init 90 = .ok (.iload_n 2, 1) := by decide +kernel
theorem dX6_init_91 : decode cX6_init 91 = .ok (.aload_n 1, 1) := by decide +kernel
theorem dX6_init_92 : decode cX6_init 92 = .ok (.invokevirtual 44, 3) := by decide +kernel
theorem dX6_init_95 : decode cX6_init 95 = .ok (.if_icmp .ge 20, 3) := by decide +kernel
theorem dX6_init_98 : decode cX6_init 98 = .ok (.aload_n 0, 1) := by decide +kernel
theorem dX6_init_99 : decode cX6_init 99 = .ok (.getfield 7, 3) := by decide +kernel
theorem dX6_init_102 : decode cX6_init 102 = .ok (.iload_n 2, 1) := by decide +kernel
theorem dX6_init_103 : decode cX6_init 103 = .ok (.aload_n 1, 1) := by decide +kernel
theorem dX6_init_104 : decode cX6_init 104 = .ok (.iload_n 2, 1) := by decide +kernel
theorem dX6_init_105 : decode cX6_init 105 = .ok (.invokevirtual 50, 3) := by decide +kernel
theorem dX6_init_108 : decode cX6_init 108 = .ok (.iastore, 1) := by decide +kernel
theorem dX6_init_109 : decode cX6_init 109 = .ok (.iinc 2 1, 3) := by decide +kernel
theorem dX6_init_112 : decode cX6_init 112 = .ok (.goto (-22), 3) := by decide +kernel
theorem dX6_init_115 : decode cX6_init 115 = .ok (.aload_n 0, 1) := by decide +kernel
theorem dX6_init_116 : decode cX6_init 116 = .ok (.aload_n 1, 1) := by decide +kernel
theorem dX6_init_117 : decode cX6_init 117 = .ok (.invokevirtual 44, 3) := by decide +kernel
theorem dX6_init_120 : decode cX6_init 120 = .ok (.putfield 54, 3) := by decide +kernel
theorem dX6_init_123 : decode cX6_init 123 = .ok (.aload_n 0, 1) := by decide +kernel
theorem dX6_init_124 : decode cX6_init 124 = .ok (.invokevirtual 57, 3) := by decide +kernel
theorem dX6_init_127 : decode cX6_init 127 = .ok (.istore_n 2, 1) := by decide +kernel
theorem dX6_init_128 : decode cX6_init 128 = .ok (.return_, 1) := by decide +kernel
theorem dX6_thrown_0 : decode cX6_thrown 0 = .ok (.aload_n 0, 1) := by decide +kernel
theorem dX6_thrown_1 : decode cX6_thrown 1 = .ok (.getfield 60, 3) := by decide +kernel
theorem dX6_thrown_4 : decode cX6_thrown 4 = .ok (.ireturn, 1) := by decide +kernel
theorem dX6_inRange_0 : decode cX6_inRange 0 = .ok (.iload_n 0, 1) := by decide +kernel
theorem dX6_inRange_1 : decode cX6_inRange 1 = .ok (.iload_n 1, 1) := by decide +kernel
theorem dX6_inRange_2 : decode cX6_inRange 2 = .ok (.if_icmp .lt 12, 3) := by decide +kernel
theorem dX6_inRange_5 : decode cX6_inRange 5 = .ok (.iload_n 0, 1) := by decide +kernel
theorem dX6_inRange_6 : decode cX6_inRange 6 = .ok (.iload_n 2, 1) := by decide +kernel
theorem dX6_inRange_7 : decode cX6_inRange 7 = .ok (.if_icmp .gt 7, 3) := by decide +kernel
theorem dX6_inRange_10 : decode cX6_inRange 10 = .ok (.iconst 1, 1) := by decide +kernel
theorem dX6_inRange_11 : decode cX6_inRange 11 = .ok (.goto 4, 3) := by decide +kernel
theorem dX6_inRange_14 : decode cX6_inRange 14 = .ok (.iconst 0, 1) := by decide +kernel
theorem dX6_inRange_15 : decode cX6_inRange 15 = .ok (.ireturn, 1) := by decide +kernel
theorem dX6_fails_0 : decode cX6_fails 0 = .ok (.iload_n 1, 1) := by decide +kernel
theorem dX6_fails_1 : decode cX6_fails 1 = .ok (.ifCond .ne 8, 3) := by decide +kernel
theorem dX6_fails_4 : decode cX6_fails 4 = .ok (.aload_n 0, 1) := by decide +kernel
theorem dX6_fails_5 : decode cX6_fails 5 = .ok (.iload_n 2, 1) := by decide +kernel
theorem dX6_fails_6 : decode cX6_fails 6 = .ok (.putfield 60, 3) := by decide +kernel
theorem dX6_fails_9 : decode cX6_fails 9 = .ok (.iload_n 1, 1) := by decide +kernel
theorem dX6_fails_10 : decode cX6_fails 10 = .ok (.ifCond .ne 7, 3) := by decide +kernel
theorem dX6_fails_13 : decode cX6_fails 13 = .ok (.iconst 1, 1) := by decide +kernel
theorem dX6_fails_14 : decode cX6_fails 14 = .ok (.goto 4, 3) := by decide +kernel
theorem dX6_fails_17 : decode cX6_fails 17 = .ok (.iconst 0, 1) := by decide +kernel
theorem dX6_fails_18 : decode cX6_fails 18 = .ok (.ireturn, 1) := by decide +kernel
theorem dX6_flag_0 : decode cX6_flag 0 = .ok (.iload_n 0, 1) := by decide +kernel
theorem dX6_flag_1 : decode cX6_flag 1 = .ok (.ifCond .eq 7, 3) := by decide +kernel
theorem dX6_flag_4 : decode cX6_flag 4 = .ok (.iconst 1, 1) := by decide +kernel
theorem dX6_flag_5 : decode cX6_flag 5 = .ok (.goto 4, 3) := by decide +kernel
theorem dX6_flag_8 : decode cX6_flag 8 = .ok (.iconst 0, 1) := by decide +kernel
theorem dX6_flag_9 : decode cX6_flag 9 = .ok (.ireturn, 1) := by decide +kernel
theorem dX6_windAt_0 : decode cX6_windAt 0 = .ok (.aload_n 0, 1) := by decide +kernel
theorem dX6_windAt_1 : decode cX6_windAt 1 = .ok (.getfield 17, 3) := by decide +kernel
theorem dX6_windAt_4 : decode cX6_windAt 4 = .ok (.bipush 11, 2) := by decide +kernel
theorem dX6_windAt_6 : decode cX6_windAt 6 = .ok (.iload_n 1, 1) := by decide +kernel
theorem dX6_windAt_7 : decode cX6_windAt 7 = .ok (.bipush 60, 2) := by decide +kernel
theorem dX6_windAt_9 : decode cX6_windAt 9 = .ok (.idiv, 1) := by decide +kernel
theorem dX6_windAt_10 : decode cX6_windAt 10 = .ok (.aload_n 0, 1) := by decide +kernel
theorem dX6_windAt_11 : decode cX6_windAt 11 = .ok (.getfield 17, 3) := by decide +kernel
theorem dX6_windAt_14 : decode cX6_windAt 14 = .ok (.iconst 4, 1) := by decide +kernel
theorem dX6_windAt_15 : decode cX6_windAt 15 = .ok (.iaload, 1) := by decide +kernel
theorem dX6_windAt_16 : decode cX6_windAt 16 = .ok (.irem, 1) := by decide +kernel
theorem dX6_windAt_17 : decode cX6_windAt 17 = .ok (.iadd, 1) := by decide +kernel
theorem dX6_windAt_18 : decode cX6_windAt 18 = .ok (.iaload, 1) := by decide +kernel
theorem dX6_windAt_19 : decode cX6_windAt 19 = .ok (.ireturn, 1) := by decide +kernel
theorem dX6_rainAt_0 : decode cX6_rainAt 0 = .ok (.iconst 0, 1) := by decide +kernel
theorem dX6_rainAt_1 : decode cX6_rainAt 1 = .ok (.istore_n 2, 1) := by decide +kernel
theorem dX6_rainAt_2 : decode cX6_rainAt 2 = .ok (.iconst 0, 1) := by decide +kernel
theorem dX6_rainAt_3 : decode cX6_rainAt 3 = .ok (.istore_n 3, 1) := by decide +kernel
theorem dX6_rainAt_4 : decode cX6_rainAt 4 = .ok (.iload_n 3, 1) := by decide +kernel
theorem dX6_rainAt_5 : decode cX6_rainAt 5 = .ok (.aload_n 0, 1) := by decide +kernel
theorem dX6_rainAt_6 : decode cX6_rainAt 6 = .ok (.getfield 17, 3) := by decide +kernel
theorem dX6_rainAt_9 : decode cX6_rainAt 9 = .ok (.iconst 5, 1) := by decide +kernel
theorem dX6_rainAt_10 : decode cX6_rainAt 10 = .ok (.iaload, 1) := by decide +kernel
theorem dX6_rainAt_11 : decode cX6_rainAt 11 = .ok (.if_icmp .ge 68, 3) := by decide +kernel
theorem dX6_rainAt_14 : decode cX6_rainAt 14 = .ok (.iload_n 1, 1) := by decide +kernel
theorem dX6_rainAt_15 : decode cX6_rainAt 15 = .ok (.aload_n 0, 1) := by decide +kernel
theorem dX6_rainAt_16 : decode cX6_rainAt 16 = .ok (.getfield 17, 3) := by decide +kernel
theorem dX6_rainAt_19 : decode cX6_rainAt 19 = .ok (.bipush 19, 2) := by decide +kernel
theorem dX6_rainAt_21 : decode cX6_rainAt 21 = .ok (.iconst 3, 1) := by decide +kernel
theorem dX6_rainAt_22 : decode cX6_rainAt 22 = .ok (.iload_n 3, 1) := by decide +kernel
theorem dX6_rainAt_23 : decode cX6_rainAt 23 = .ok (.imul, 1) := by decide +kernel
theorem dX6_rainAt_24 : decode cX6_rainAt 24 = .ok (.iadd, 1) := by decide +kernel
theorem dX6_rainAt_25 : decode cX6_rainAt 25 = .ok (.iaload, 1) := by decide +kernel
theorem dX6_rainAt_26 : decode cX6_rainAt 26 = .ok (.isub, 1) := by decide +kernel
theorem dX6_rainAt_27 : decode cX6_rainAt 27 = .ok (.istore 4, 2) := by decide +kernel
theorem dX6_rainAt_29 : decode cX6_rainAt 29 = .ok (.iload_n 2, 1) := by decide +kernel
theorem dX6_rainAt_30 : decode cX6_rainAt 30 = .ok (.iload 4, 2) := by decide +kernel
theorem dX6_rainAt_32 : decode cX6_rainAt 32 = .ok (.iconst 0, 1) := by decide +kernel
theorem dX6_rainAt_33 : decode cX6_rainAt 33 = .ok (.aload_n 0, 1) := by decide +kernel
theorem dX6_rainAt_34 : decode cX6_rainAt 34 = .ok (.getfield 17, 3) := by decide +kernel
theorem dX6_rainAt_37 : decode cX6_rainAt 37 = .ok (.bipush 19, 2) := by decide +kernel
theorem dX6_rainAt_39 : decode cX6_rainAt 39 = .ok (.iconst 3, 1) := by decide +kernel
theorem dX6_rainAt_40 : decode cX6_rainAt 40 = .ok (.iload_n 3, 1) := by decide +kernel
theorem dX6_rainAt_41 : decode cX6_rainAt 41 = .ok (.imul, 1) := by decide +kernel
theorem dX6_rainAt_42 : decode cX6_rainAt 42 = .ok (.iadd, 1) := by decide +kernel
theorem dX6_rainAt_43 : decode cX6_rainAt 43 = .ok (.iconst 1, 1) := by decide +kernel
theorem dX6_rainAt_44 : decode cX6_rainAt 44 = .ok (.iadd, 1) := by decide +kernel
theorem dX6_rainAt_45 : decode cX6_rainAt 45 = .ok (.iaload, 1) := by decide +kernel
theorem dX6_rainAt_46 : decode cX6_rainAt 46 = .ok (.iconst 1, 1) := by decide +kernel
theorem dX6_rainAt_47 : decode cX6_rainAt 47 = .ok (.isub, 1) := by decide +kernel
theorem dX6_rainAt_48 : decode cX6_rainAt 48 = .ok (.invokestatic 63, 3) := by decide +kernel
theorem dX6_rainAt_51 : decode cX6_rainAt 51 = .ok (.ifCond .eq 19, 3) := by decide +kernel
theorem dX6_rainAt_54 : decode cX6_rainAt 54 = .ok (.aload_n 0, 1) := by decide +kernel
theorem dX6_rainAt_55 : decode cX6_rainAt 55 = .ok (.getfield 17, 3) := by decide +kernel
theorem dX6_rainAt_58 : decode cX6_rainAt 58 = .ok (.bipush 19, 2) := by decide +kernel
theorem dX6_rainAt_60 : decode cX6_rainAt 60 = .ok (.iconst 3, 1) := by decide +kernel
theorem dX6_rainAt_61 : decode cX6_rainAt 61 = .ok (.iload_n 3, 1) := by decide +kernel
theorem dX6_rainAt_62 : decode cX6_rainAt 62 = .ok (.imul, 1) := by decide +kernel
theorem dX6_rainAt_63 : decode cX6_rainAt 63 = .ok (.iadd, 1) := by decide +kernel
theorem dX6_rainAt_64 : decode cX6_rainAt 64 = .ok (.iconst 2, 1) := by decide +kernel
theorem dX6_rainAt_65 : decode cX6_rainAt 65 = .ok (.iadd, 1) := by decide +kernel
theorem dX6_rainAt_66 : decode cX6_rainAt 66 = .ok (.iaload, 1) := by decide +kernel
theorem dX6_rainAt_67 : decode cX6_rainAt 67 = .ok (.goto 4, 3) := by decide +kernel
theorem dX6_rainAt_70 : decode cX6_rainAt 70 = .ok (.iconst 0, 1) := by decide +kernel
theorem dX6_rainAt_71 : decode cX6_rainAt 71 = .ok (.iadd, 1) := by decide +kernel
theorem dX6_rainAt_72 : decode cX6_rainAt 72 = .ok (.istore_n 2, 1) := by decide +kernel
theorem dX6_rainAt_73 : decode cX6_rainAt 73 = .ok (.iinc 3 1, 3) := by decide +kernel
theorem dX6_rainAt_76 : decode cX6_rainAt 76 = .ok (.goto (-72), 3) := by decide +kernel
theorem dX6_rainAt_79 : decode cX6_rainAt 79 = .ok (.iload_n 2, 1) := by decide +kernel
theorem dX6_rainAt_80 : decode cX6_rainAt 80 = .ok (.ireturn, 1) := by decide +kernel
theorem dX6_sunnyAt_0 : decode cX6_sunnyAt 0 = .ok (.aload_n 0, 1) := by decide +kernel
theorem dX6_sunnyAt_1 : decode cX6_sunnyAt 1 = .ok (.iload_n 1, 1) := by decide +kernel
theorem dX6_sunnyAt_2 : decode cX6_sunnyAt 2 = .ok (.invokevirtual 67, 3) := by decide +kernel
theorem dX6_sunnyAt_5 : decode cX6_sunnyAt 5 = .ok (.ifCond .le 5, 3) := by decide +kernel
theorem dX6_sunnyAt_8 : decode cX6_sunnyAt 8 = .ok (.iconst 0, 1) := by decide +kernel
theorem dX6_sunnyAt_9 : decode cX6_sunnyAt 9 = .ok (.ireturn, 1) := by decide +kernel
theorem dX6_sunnyAt_10 : decode cX6_sunnyAt 10 = .ok (.ldc 71, 2) := by decide +kernel
theorem dX6_sunnyAt_12 : decode cX6_sunnyAt 12 = .ok (.istore_n 2, 1) := by decide +kernel
theorem dX6_sunnyAt_13 : decode cX6_sunnyAt 13 = .ok (.iconst 0, 1) := by decide +kernel
theorem dX6_sunnyAt_14 : decode cX6_sunnyAt 14 = .ok (.istore_n 3, 1) := by decide +kernel
theorem dX6_sunnyAt_15 : decode cX6_sunnyAt 15 = .ok (.iload_n 3, 1) := by decide +kernel
theorem dX6_sunnyAt_16 : decode cX6_sunnyAt 16 = .ok (.aload_n 0, 1) := by decide +kernel
theorem dX6_sunnyAt_17 : decode cX6_sunnyAt 17 = .ok (.getfield 17, 3) := by decide +kernel
theorem dX6_sunnyAt_20 : decode cX6_sunnyAt 20 = .ok (.iconst 1, 1) := by decide +kernel
theorem dX6_sunnyAt_21 : decode cX6_sunnyAt 21 = .ok (.iaload, 1) := by decide +kernel
theorem dX6_sunnyAt_22 : decode cX6_sunnyAt 22 = .ok (.if_icmp .ge 25, 3) := by decide +kernel
theorem dX6_sunnyAt_25 : decode cX6_sunnyAt 25 = .ok (.iload_n 2, 1) := by decide +kernel
theorem dX6_sunnyAt_26 : decode cX6_sunnyAt 26 = .ok (.iconst 1, 1) := by decide +kernel
theorem dX6_sunnyAt_27 : decode cX6_sunnyAt 27 = .ok (.iload_n 1, 1) := by decide +kernel
theorem dX6_sunnyAt_28 : decode cX6_sunnyAt 28 = .ok (.bipush 30, 2) := by decide +kernel
theorem dX6_sunnyAt_30 : decode cX6_sunnyAt 30 = .ok (.idiv, 1) := by decide +kernel
theorem dX6_sunnyAt_31 : decode cX6_sunnyAt 31 = .ok (.iload_n 3, 1) := by decide +kernel
theorem dX6_sunnyAt_32 : decode cX6_sunnyAt 32 = .ok (.iadd, 1) := by decide +kernel
theorem dX6_sunnyAt_33 : decode cX6_sunnyAt 33 = .ok (.bipush 24, 2) := by decide +kernel
theorem dX6_sunnyAt_35 : decode cX6_sunnyAt 35 = .ok (.irem, 1) := by decide +kernel
theorem dX6_sunnyAt_36 : decode cX6_sunnyAt 36 = .ok (.ishl, 1) := by decide +kernel
theorem dX6_sunnyAt_37 : decode cX6_sunnyAt 37 = .ok (.iconst (-1), 1) := by decide +kernel
theorem dX6_sunnyAt_38 : decode cX6_sunnyAt 38 = .ok (.ixor, 1) := by decide +kernel
theorem dX6_sunnyAt_39 : decode cX6_sunnyAt 39 = .ok (.iand, 1) := by decide +kernel
theorem dX6_sunnyAt_40 : decode cX6_sunnyAt 40 = .ok (.istore_n 2, 1) := by decide +kernel
theorem dX6_sunnyAt_41 : decode cX6_sunnyAt 41 = .ok (.iinc 3 1, 3) := by decide +kernel
theorem dX6_sunnyAt_44 : decode cX6_sunnyAt 44 = .ok (.goto (-29), 3) := by decide +kernel
theorem dX6_sunnyAt_47 : decode cX6_sunnyAt 47 = .ok (.iload_n 2, 1) := by decide +kernel
theorem dX6_sunnyAt_48 : decode cX6_sunnyAt 48 = .ok (.ireturn, 1) := by decide +kernel
theorem dX6_smokyAt_0 : decode cX6_smokyAt 0 = .ok (.iconst 0, 1) := by decide +kernel
theorem dX6_smokyAt_1 : decode cX6_smokyAt 1 = .ok (.istore_n 2, 1) := by decide +kernel
theorem dX6_smokyAt_2 : decode cX6_smokyAt 2 = .ok (.iconst 0, 1) := by decide +kernel
theorem dX6_smokyAt_3 : decode cX6_smokyAt 3 = .ok (.istore_n 3, 1) := by decide +kernel
theorem dX6_smokyAt_4 : decode cX6_smokyAt 4 = .ok (.iload_n 3, 1) := by decide +kernel
theorem dX6_smokyAt_5 : decode cX6_smokyAt 5 = .ok (.aload_n 0, 1) := by decide +kernel
theorem dX6_smokyAt_6 : decode cX6_smokyAt 6 = .ok (.getfield 17, 3) := by decide +kernel
theorem dX6_smokyAt_9 : decode cX6_smokyAt 9 = .ok (.bipush 6, 2) := by decide +kernel
theorem dX6_smokyAt_11 : decode cX6_smokyAt 11 = .ok (.iaload, 1) := by decide +kernel
theorem dX6_smokyAt_12 : decode cX6_smokyAt 12 = .ok (.if_icmp .ge 50, 3) := by decide +kernel
theorem dX6_smokyAt_15 : decode cX6_smokyAt 15 = .ok (.iload_n 2, 1) := by decide +kernel
theorem dX6_smokyAt_16 : decode cX6_smokyAt 16 = .ok (.ifCond .ne 34, 3) := by decide +kernel
theorem dX6_smokyAt_19 : decode cX6_smokyAt 19 = .ok (.iload_n 1, 1) := by decide +kernel
theorem dX6_smokyAt_20 : decode cX6_smokyAt 20 = .ok (.aload_n 0, 1) := by decide +kernel
theorem dX6_smokyAt_21 : decode cX6_smokyAt 21 = .ok (.getfield 17, 3) := by decide +kernel
theorem dX6_smokyAt_24 : decode cX6_smokyAt 24 = .ok (.bipush 31, 2) := by decide +kernel
theorem dX6_smokyAt_26 : decode cX6_smokyAt 26 = .ok (.iconst 2, 1) := by decide +kernel
theorem dX6_smokyAt_27 : decode cX6_smokyAt 27 = .ok (.iload_n 3, 1) := by decide +kernel
theorem dX6_smokyAt_28 : decode cX6_smokyAt 28 = .ok (.imul, 1) := by decide +kernel
theorem dX6_smokyAt_29 : decode cX6_smokyAt 29 = .ok (.iadd, 1) := by decide +kernel
theorem dX6_smokyAt_30 : decode cX6_smokyAt 30 = .ok (.iaload, 1) := by decide +kernel
theorem dX6_smokyAt_31 : decode cX6_smokyAt 31 = .ok (.aload_n 0, 1) := by decide +kernel
theorem dX6_smokyAt_32 : decode cX6_smokyAt 32 = .ok (.getfield 17, 3) := by decide +kernel
theorem dX6_smokyAt_35 : decode cX6_smokyAt 35 = .ok (.bipush 31, 2) := by decide +kernel
theorem dX6_smokyAt_37 : decode cX6_smokyAt 37 = .ok (.iconst 2, 1) := by decide +kernel
theorem dX6_smokyAt_38 : decode cX6_smokyAt 38 = .ok (.iload_n 3, 1) := by decide +kernel
theorem dX6_smokyAt_39 : decode cX6_smokyAt 39 = .ok (.imul, 1) := by decide +kernel
theorem dX6_smokyAt_40 : decode cX6_smokyAt 40 = .ok (.iadd, 1) := by decide +kernel
theorem dX6_smokyAt_41 : decode cX6_smokyAt 41 = .ok (.iconst 1, 1) := by decide +kernel
theorem dX6_smokyAt_42 : decode cX6_smokyAt 42 = .ok (.iadd, 1) := by decide +kernel
theorem dX6_smokyAt_43 : decode cX6_smokyAt 43 = .ok (.iaload, 1) := by decide +kernel
theorem dX6_smokyAt_44 : decode cX6_smokyAt 44 = .ok (.invokestatic 63, 3) := by decide +kernel
theorem dX6_smokyAt_47 : decode cX6_smokyAt 47 = .ok (.ifCond .eq 7, 3) := by decide +kernel
theorem dX6_smokyAt_50 : decode cX6_smokyAt 50 = .ok (.iconst 1, 1) := by decide +kernel
theorem dX6_smokyAt_51 : decode cX6_smokyAt 51 = .ok (.goto 4, 3) := by decide +kernel
theorem dX6_smokyAt_54 : decode cX6_smokyAt 54 = .ok (.iconst 0, 1) := by decide +kernel
theorem dX6_smokyAt_55 : decode cX6_smokyAt 55 = .ok (.istore_n 2, 1) := by decide +kernel
theorem dX6_smokyAt_56 : decode cX6_smokyAt 56 = .ok (.iinc 3 1, 3) := by decide +kernel
theorem dX6_smokyAt_59 : decode cX6_smokyAt 59 = .ok (.goto (-55), 3) := by decide +kernel
theorem dX6_smokyAt_62 : decode cX6_smokyAt 62 = .ok (.iload_n 2, 1) := by decide +kernel
theorem dX6_smokyAt_63 : decode cX6_smokyAt 63 = .ok (.ifCond .eq 22, 3) := by decide +kernel
theorem dX6_smokyAt_66 : decode cX6_smokyAt 66 = .ok (.iconst 1, 1) := by decide +kernel
theorem dX6_smokyAt_67 : decode cX6_smokyAt 67 = .ok (.bipush 24, 2) := by decide +kernel
theorem dX6_smokyAt_69 : decode cX6_smokyAt 69 = .ok (.iconst 4, 1) := by decide +kernel
theorem dX6_smokyAt_70 : decode cX6_smokyAt 70 = .ok (.aload_n 0, 1) := by decide +kernel
theorem dX6_smokyAt_71 : decode cX6_smokyAt 71 = .ok (.iload_n 1, 1) := by decide +kernel
theorem dX6_smokyAt_72 : decode cX6_smokyAt 72 = .ok (.invokevirtual 72, 3) := by decide +kernel
theorem dX6_smokyAt_75 : decode cX6_smokyAt 75 = .ok (.imul, 1) := by decide +kernel
theorem dX6_smokyAt_76 : decode cX6_smokyAt 76 = .ok (.invokestatic 75, 3) := by decide +kernel
theorem dX6_smokyAt_79 : decode cX6_smokyAt 79 = .ok (.ishl, 1) := by decide +kernel
theorem dX6_smokyAt_80 : decode cX6_smokyAt 80 = .ok (.iconst 1, 1) := by decide +kernel
theorem dX6_smokyAt_81 : decode cX6_smokyAt 81 = .ok (.isub, 1) := by decide +kernel
theorem dX6_smokyAt_82 : decode cX6_smokyAt 82 = .ok (.goto 4, 3) := by decide +kernel
theorem dX6_smokyAt_85 : decode cX6_smokyAt 85 = .ok (.iconst 0, 1) := by decide +kernel
theorem dX6_smokyAt_86 : decode cX6_smokyAt 86 = .ok (.ireturn, 1) := by decide +kernel
theorem dX6_many_0 : decode cX6_many 0 = .ok (.iconst 0, 1) := by decide +kernel
theorem dX6_many_1 : decode cX6_many 1 = .ok (.istore_n 1, 1) := by decide +kernel
theorem dX6_many_2 : decode cX6_many 2 = .ok (.iconst 0, 1) := by decide +kernel
theorem dX6_many_3 : decode cX6_many 3 = .ok (.istore_n 2, 1) := by decide +kernel
theorem dX6_many_4 : decode cX6_many 4 = .ok (.iload_n 2, 1) := by decide +kernel
theorem dX6_many_5 : decode cX6_many 5 = .ok (.bipush 24, 2) := by decide +kernel
theorem dX6_many_7 : decode cX6_many 7 = .ok (.if_icmp .ge 17, 3) := by decide +kernel
theorem dX6_many_10 : decode cX6_many 10 = .ok (.iload_n 1, 1) := by decide +kernel
theorem dX6_many_11 : decode cX6_many 11 = .ok (.iload_n 0, 1) := by decide +kernel
theorem dX6_many_12 : decode cX6_many 12 = .ok (.iload_n 2, 1) := by decide +kernel
theorem dX6_many_13 : decode cX6_many 13 = .ok (.ishr, 1) := by decide +kernel
theorem dX6_many_14 : decode cX6_many 14 = .ok (.iconst 1, 1) := by decide +kernel
theorem dX6_many_15 : decode cX6_many 15 = .ok (.iand, 1) := by decide +kernel
theorem dX6_many_16 : decode cX6_many 16 = .ok (.iadd, 1) := by decide +kernel
theorem dX6_many_17 : decode cX6_many 17 = .ok (.istore_n 1, 1) := by decide +kernel
theorem dX6_many_18 : decode cX6_many 18 = .ok (.iinc 2 1, 3) := by decide +kernel
theorem dX6_many_21 : decode cX6_many 21 = .ok (.goto (-17), 3) := by decide +kernel
theorem dX6_many_24 : decode cX6_many 24 = .ok (.iload_n 1, 1) := by decide +kernel
theorem dX6_many_25 : decode cX6_many 25 = .ok (.ireturn, 1) := by decide +kernel
theorem dX6_has_0 : decode cX6_has 0 = .ok (.iload_n 0, 1) := by decide +kernel
theorem dX6_has_1 : decode cX6_has 1 = .ok (.iload_n 1, 1) := by decide +kernel
theorem dX6_has_2 : decode cX6_has 2 = .ok (.ishr, 1) := by decide +kernel
theorem dX6_has_3 : decode cX6_has 3 = .ok (.iconst 1, 1) := by decide +kernel
theorem dX6_has_4 : decode cX6_has 4 = .ok (.iand, 1) := by decide +kernel
theorem dX6_has_5 : decode cX6_has 5 = .ok (.iconst 1, 1) := by decide +kernel
theorem dX6_has_6 : decode cX6_has 6 = .ok (.if_icmp .ne 7, 3) := by decide +kernel
theorem dX6_has_9 : decode cX6_has 9 = .ok (.iconst 1, 1) := by decide +kernel
theorem dX6_has_10 : decode cX6_has 10 = .ok (.goto 4, 3) := by decide +kernel
theorem dX6_has_13 : decode cX6_has 13 = .ok (.iconst 0, 1) := by decide +kernel
theorem dX6_has_14 : decode cX6_has 14 = .ok (.ireturn, 1) := by decide +kernel
theorem dX6_of_0 : decode cX6_of 0 = .ok (.aload_n 0, 1) := by decide +kernel
theorem dX6_of_1 : decode cX6_of 1 = .ok (.getfield 17, 3) := by decide +kernel
theorem dX6_of_4 : decode cX6_of 4 = .ok (.bipush 39, 2) := by decide +kernel
theorem dX6_of_6 : decode cX6_of 6 = .ok (.bipush 11, 2) := by decide +kernel
theorem dX6_of_8 : decode cX6_of 8 = .ok (.iload_n 1, 1) := by decide +kernel
theorem dX6_of_9 : decode cX6_of 9 = .ok (.imul, 1) := by decide +kernel
theorem dX6_of_10 : decode cX6_of 10 = .ok (.iadd, 1) := by decide +kernel
theorem dX6_of_11 : decode cX6_of 11 = .ok (.iload_n 2, 1) := by decide +kernel
theorem dX6_of_12 : decode cX6_of 12 = .ok (.iadd, 1) := by decide +kernel
theorem dX6_of_13 : decode cX6_of 13 = .ok (.iaload, 1) := by decide +kernel
theorem dX6_of_14 : decode cX6_of 14 = .ok (.ireturn, 1) := by decide +kernel
theorem dX6_put_0 : decode cX6_put 0 = .ok (.aload_n 0, 1) := by decide +kernel
theorem dX6_put_1 : decode cX6_put 1 = .ok (.getfield 17, 3) := by decide +kernel
theorem dX6_put_4 : decode cX6_put 4 = .ok (.bipush 39, 2) := by decide +kernel
theorem dX6_put_6 : decode cX6_put 6 = .ok (.bipush 11, 2) := by decide +kernel
theorem dX6_put_8 : decode cX6_put 8 = .ok (.iload_n 1, 1) := by decide +kernel
theorem dX6_put_9 : decode cX6_put 9 = .ok (.imul, 1) := by decide +kernel
theorem dX6_put_10 : decode cX6_put 10 = .ok (.iadd, 1) := by decide +kernel
theorem dX6_put_11 : decode cX6_put 11 = .ok (.iload_n 2, 1) := by decide +kernel
theorem dX6_put_12 : decode cX6_put 12 = .ok (.iadd, 1) := by decide +kernel
theorem dX6_put_13 : decode cX6_put 13 = .ok (.iload_n 3, 1) := by decide +kernel
theorem dX6_put_14 : decode cX6_put 14 = .ok (.iastore, 1) := by decide +kernel
theorem dX6_put_15 : decode cX6_put 15 = .ok (.return_, 1) := by decide +kernel
theorem dX6_isIn_0 : decode cX6_isIn 0 = .ok (.aload_n 0, 1) := by decide +kernel
theorem dX6_isIn_1 : decode cX6_isIn 1 = .ok (.iload_n 1, 1) := by decide +kernel
theorem dX6_isIn_2 : decode cX6_isIn 2 = .ok (.bipush 6, 2) := by decide +kernel
theorem dX6_isIn_4 : decode cX6_isIn 4 = .ok (.invokevirtual 81, 3) := by decide +kernel
theorem dX6_isIn_7 : decode cX6_isIn 7 = .ok (.iload_n 2, 1) := by decide +kernel
theorem dX6_isIn_8 : decode cX6_isIn 8 = .ok (.if_icmp .ne 7, 3) := by decide +kernel
theorem dX6_isIn_11 : decode cX6_isIn 11 = .ok (.iconst 1, 1) := by decide +kernel
theorem dX6_isIn_12 : decode cX6_isIn 12 = .ok (.goto 4, 3) := by decide +kernel
theorem dX6_isIn_15 : decode cX6_isIn 15 = .ok (.iconst 0, 1) := by decide +kernel
theorem dX6_isIn_16 : decode cX6_isIn 16 = .ok (.ireturn, 1) := by decide +kernel
theorem dX6_spotsFrom_0 : decode cX6_spotsFrom 0 = .ok (.iconst 1, 1) := by decide +kernel
theorem dX6_spotsFrom_1 : decode cX6_spotsFrom 1 = .ok (.aload_n 0, 1) := by decide +kernel
theorem dX6_spotsFrom_2 : decode cX6_spotsFrom 2 = .ok (.iload_n 1, 1) := by decide +kernel
theorem dX6_spotsFrom_3 : decode cX6_spotsFrom 3 = .ok (.iconst 0, 1) := by decide +kernel
theorem dX6_spotsFrom_4 : decode cX6_spotsFrom 4 = .ok (.invokevirtual 81, 3) := by decide +kernel
theorem dX6_spotsFrom_7 : decode cX6_spotsFrom 7 = .ok (.ishl, 1) := by decide +kernel
theorem dX6_spotsFrom_8 : decode cX6_spotsFrom 8 = .ok (.iconst 1, 1) := by decide +kernel
theorem dX6_spotsFrom_9 : decode cX6_spotsFrom 9 = .ok (.isub, 1) := by decide +kernel
theorem dX6_spotsFrom_10 : decode cX6_spotsFrom 10 = .ok (.iload_n 2, 1) := by decide +kernel
theorem dX6_spotsFrom_11 : decode cX6_spotsFrom 11 = .ok (.ishl, 1) := by decide +kernel
theorem dX6_spotsFrom_12 : decode cX6_spotsFrom 12 = .ok (.ireturn, 1) := by decide +kernel
theorem dX6_spotsOf_0 : decode cX6_spotsOf 0 = .ok (.aload_n 0, 1) := by decide +kernel
theorem dX6_spotsOf_1 : decode cX6_spotsOf 1 = .ok (.iload_n 1, 1) := by decide +kernel
theorem dX6_spotsOf_2 : decode cX6_spotsOf 2 = .ok (.iconst 1, 1) := by decide +kernel
theorem dX6_spotsOf_3 : decode cX6_spotsOf 3 = .ok (.invokevirtual 84, 3) := by decide +kernel
theorem dX6_spotsOf_6 : decode cX6_spotsOf 6 = .ok (.ifCond .eq 18, 3) := by decide +kernel
theorem dX6_spotsOf_9 : decode cX6_spotsOf 9 = .ok (.aload_n 0, 1) := by decide +kernel
theorem dX6_spotsOf_10 : decode cX6_spotsOf 10 = .ok (.iload_n 1, 1) := by decide +kernel
theorem dX6_spotsOf_11 : decode cX6_spotsOf 11 = .ok (.aload_n 0, 1) := by decide +kernel
theorem dX6_spotsOf_12 : decode cX6_spotsOf 12 = .ok (.iload_n 1, 1) := by decide +kernel
theorem dX6_spotsOf_13 : decode cX6_spotsOf 13 = .ok (.bipush 7, 2) := by decide +kernel
theorem dX6_spotsOf_15 : decode cX6_spotsOf 15 = .ok (.invokevirtual 81, 3) := by decide +kernel
theorem dX6_spotsOf_18 : decode cX6_spotsOf 18 = .ok (.invokevirtual 88, 3) := by decide +kernel
theorem dX6_spotsOf_21 : decode cX6_spotsOf 21 = .ok (.goto 4, 3) := by decide +kernel
theorem dX6_spotsOf_24 : decode cX6_spotsOf 24 = .ok (.iconst 0, 1) := by decide +kernel
theorem dX6_spotsOf_25 : decode cX6_spotsOf 25 = .ok (.ireturn, 1) := by decide +kernel
theorem dX6_taken_0 : decode cX6_taken 0 = .ok (.iconst 0, 1) := by decide +kernel
theorem dX6_taken_1 : decode cX6_taken 1 = .ok (.istore_n 2, 1) := by decide +kernel
theorem dX6_taken_2 : decode cX6_taken 2 = .ok (.iconst 0, 1) := by decide +kernel
theorem dX6_taken_3 : decode cX6_taken 3 = .ok (.istore_n 3, 1) := by decide +kernel
theorem dX6_taken_4 : decode cX6_taken 4 = .ok (.iload_n 3, 1) := by decide +kernel
theorem dX6_taken_5 : decode cX6_taken 5 = .ok (.aload_n 0, 1) := by decide +kernel
theorem dX6_taken_6 : decode cX6_taken 6 = .ok (.getfield 17, 3) := by decide +kernel
theorem dX6_taken_9 : decode cX6_taken 9 = .ok (.bipush 7, 2) := by decide +kernel
theorem dX6_taken_11 : decode cX6_taken 11 = .ok (.iaload, 1) := by decide +kernel
theorem dX6_taken_12 : decode cX6_taken 12 = .ok (.if_icmp .ge 26, 3) := by decide +kernel
theorem dX6_taken_15 : decode cX6_taken 15 = .ok (.iload_n 2, 1) := by decide +kernel
theorem dX6_taken_16 : decode cX6_taken 16 = .ok (.iload_n 3, 1) := by decide +kernel
theorem dX6_taken_17 : decode cX6_taken 17 = .ok (.iload_n 1, 1) := by decide +kernel
theorem dX6_taken_18 : decode cX6_taken 18 = .ok (.if_icmp .ne 7, 3) := by decide +kernel
theorem dX6_taken_21 : decode cX6_taken 21 = .ok (.iconst 0, 1) := by decide +kernel
theorem dX6_taken_22 : decode cX6_taken 22 = .ok (.goto 8, 3) := by decide +kernel
theorem dX6_taken_25 : decode cX6_taken 25 = .ok (.aload_n 0, 1) := by decide +kernel
theorem dX6_taken_26 : decode cX6_taken 26 = .ok (.iload_n 3, 1) := by decide +kernel
theorem dX6_taken_27 : decode cX6_taken 27 = .ok (.invokevirtual 91, 3) := by decide +kernel
theorem dX6_taken_30 : decode cX6_taken 30 = .ok (.ior, 1) := by decide +kernel
theorem dX6_taken_31 : decode cX6_taken 31 = .ok (.istore_n 2, 1) := by decide +kernel
theorem dX6_taken_32 : decode cX6_taken 32 = .ok (.iinc 3 1, 3) := by decide +kernel
theorem dX6_taken_35 : decode cX6_taken 35 = .ok (.goto (-31), 3) := by decide +kernel
theorem dX6_taken_38 : decode cX6_taken 38 = .ok (.iload_n 2, 1) := by decide +kernel
theorem dX6_taken_39 : decode cX6_taken 39 = .ok (.ireturn, 1) := by decide +kernel
theorem dX6_weight_0 : decode cX6_weight 0 = .ok (.aload_n 0, 1) := by decide +kernel
theorem dX6_weight_1 : decode cX6_weight 1 = .ok (.iload_n 1, 1) := by decide +kernel
theorem dX6_weight_2 : decode cX6_weight 2 = .ok (.iconst 1, 1) := by decide +kernel
theorem dX6_weight_3 : decode cX6_weight 3 = .ok (.invokevirtual 81, 3) := by decide +kernel
theorem dX6_weight_6 : decode cX6_weight 6 = .ok (.aload_n 0, 1) := by decide +kernel
theorem dX6_weight_7 : decode cX6_weight 7 = .ok (.iload_n 1, 1) := by decide +kernel
theorem dX6_weight_8 : decode cX6_weight 8 = .ok (.iconst 3, 1) := by decide +kernel
theorem dX6_weight_9 : decode cX6_weight 9 = .ok (.invokevirtual 81, 3) := by decide +kernel
theorem dX6_weight_12 : decode cX6_weight 12 = .ok (.bipush 10, 2) := by decide +kernel
theorem dX6_weight_14 : decode cX6_weight 14 = .ok (.idiv, 1) := by decide +kernel
theorem dX6_weight_15 : decode cX6_weight 15 = .ok (.iadd, 1) := by decide +kernel
theorem dX6_weight_16 : decode cX6_weight 16 = .ok (.ireturn, 1) := by decide +kernel
theorem dX6_holdBy_0 : decode cX6_holdBy 0 = .ok (.bipush 20, 2) := by decide +kernel
theorem dX6_holdBy_2 : decode cX6_holdBy 2 = .ok (.iload_n 0, 1) := by decide +kernel
theorem dX6_holdBy_3 : decode cX6_holdBy 3 = .ok (.imul, 1) := by decide +kernel
theorem dX6_holdBy_4 : decode cX6_holdBy 4 = .ok (.bipush 45, 2) := by decide +kernel
theorem dX6_holdBy_6 : decode cX6_holdBy 6 = .ok (.iload_n 1, 1) := by decide +kernel
theorem dX6_holdBy_7 : decode cX6_holdBy 7 = .ok (.imul, 1) := by decide +kernel
theorem dX6_holdBy_8 : decode cX6_holdBy 8 = .ok (.iadd, 1) := by decide +kernel
theorem dX6_holdBy_9 : decode cX6_holdBy 9 = .ok (.ireturn, 1) := by decide +kernel
theorem dX6_hold_0 : decode cX6_hold 0 = .ok (.aload_n 0, 1) := by decide +kernel
theorem dX6_hold_1 : decode cX6_hold 1 = .ok (.iload_n 1, 1) := by decide +kernel
theorem dX6_hold_2 : decode cX6_hold 2 = .ok (.bipush 8, 2) := by decide +kernel
theorem dX6_hold_4 : decode cX6_hold 4 = .ok (.invokevirtual 81, 3) := by decide +kernel
theorem dX6_hold_7 : decode cX6_hold 7 = .ok (.aload_n 0, 1) := by decide +kernel
theorem dX6_hold_8 : decode cX6_hold 8 = .ok (.iload_n 1, 1) := by decide +kernel
theorem dX6_hold_9 : decode cX6_hold 9 = .ok (.bipush 9, 2) := by decide +kernel
theorem dX6_hold_11 : decode cX6_hold 11 = .ok (.invokevirtual 81, 3) := by decide +kernel
theorem dX6_hold_14 : decode cX6_hold 14 = .ok (.invokestatic 94, 3) := by decide +kernel
theorem dX6_hold_17 : decode cX6_hold 17 = .ok (.ireturn, 1) := by decide +kernel
theorem dX6_reaches_0 : decode cX6_reaches 0 = .ok (.iload_n 2, 1) := by decide +kernel
theorem dX6_reaches_1 : decode cX6_reaches 1 = .ok (.aload_n 0, 1) := by decide +kernel
theorem dX6_reaches_2 : decode cX6_reaches 2 = .ok (.iload_n 1, 1) := by decide +kernel
theorem dX6_reaches_3 : decode cX6_reaches 3 = .ok (.iconst 0, 1) := by decide +kernel
theorem dX6_reaches_4 : decode cX6_reaches 4 = .ok (.invokevirtual 81, 3) := by decide +kernel
theorem dX6_reaches_7 : decode cX6_reaches 7 = .ok (.iadd, 1) := by decide +kernel
theorem dX6_reaches_8 : decode cX6_reaches 8 = .ok (.bipush 24, 2) := by decide +kernel
theorem dX6_reaches_10 : decode cX6_reaches 10 = .ok (.if_icmp .gt 7, 3) := by decide +kernel
theorem dX6_reaches_13 : decode cX6_reaches 13 = .ok (.iconst 1, 1) := by decide +kernel
theorem dX6_reaches_14 : decode cX6_reaches 14 = .ok (.goto 4, 3) := by decide +kernel
theorem dX6_reaches_17 : decode cX6_reaches 17 = .ok (.iconst 0, 1) := by decide +kernel
theorem dX6_reaches_18 : decode cX6_reaches 18 = .ok (.ireturn, 1) := by decide +kernel
theorem dX6_obstacle_0 : decode cX6_obstacle 0 = .ok (.aload_n 0, 1) := by decide +kernel
theorem dX6_obstacle_1 : decode cX6_obstacle 1 = .ok (.iload_n 1, 1) := by decide +kernel
theorem dX6_obstacle_2 : decode cX6_obstacle 2 = .ok (.iconst 0, 1) := by decide +kernel
theorem dX6_obstacle_3 : decode cX6_obstacle 3 = .ok (.invokevirtual 84, 3) := by decide +kernel
theorem dX6_obstacle_6 : decode cX6_obstacle 6 = .ok (.ifCond .ne 5, 3) := by decide +kernel
theorem dX6_obstacle_9 : decode cX6_obstacle 9 = .ok (.iconst 1, 1) := by decide +kernel
theorem dX6_obstacle_10 : decode cX6_obstacle 10 = .ok (.ireturn, 1) := by decide +kernel
theorem dX6_obstacle_11 : decode cX6_obstacle 11 = .ok (.aload_n 0, 1) := by decide +kernel
theorem dX6_obstacle_12 : decode cX6_obstacle 12 = .ok (.iload_n 1, 1) := by decide +kernel
theorem dX6_obstacle_13 : decode cX6_obstacle 13 = .ok (.iload_n 2, 1) := by decide +kernel
theorem dX6_obstacle_14 : decode cX6_obstacle 14 = .ok (.invokevirtual 97, 3) := by decide +kernel
theorem dX6_obstacle_17 : decode cX6_obstacle 17 = .ok (.ifCond .ne 5, 3) := by decide +kernel
theorem dX6_obstacle_20 : decode cX6_obstacle 20 = .ok (.iconst 2, 1) := by decide +kernel
theorem dX6_obstacle_21 : decode cX6_obstacle 21 = .ok (.ireturn, 1) := by decide +kernel
theorem dX6_obstacle_22 : decode cX6_obstacle 22 = .ok (.aload_n 0, 1) := by decide +kernel
theorem dX6_obstacle_23 : decode cX6_obstacle 23 = .ok (.iload_n 1, 1) := by decide +kernel
theorem dX6_obstacle_24 : decode cX6_obstacle 24 = .ok (.iload_n 2, 1) := by decide +kernel
theorem dX6_obstacle_25 : decode cX6_obstacle 25 = .ok (.invokevirtual 88, 3) := by decide +kernel
theorem dX6_obstacle_28 : decode cX6_obstacle 28 = .ok (.aload_n 0, 1) := by decide +kernel
theorem dX6_obstacle_29 : decode cX6_obstacle 29 = .ok (.iconst (-1), 1) := by decide +kernel
theorem dX6_obstacle_30 : decode cX6_obstacle 30 = .ok (.invokevirtual 100, 3) := by decide +kernel
theorem dX6_obstacle_33 : decode cX6_obstacle 33 = .ok (.iand, 1) := by decide +kernel
theorem dX6_obstacle_34 : decode cX6_obstacle 34 = .ok (.ifCond .eq 5, 3) := by decide +kernel
theorem dX6_obstacle_37 : decode cX6_obstacle 37 = .ok (.iconst 3, 1) := by decide +kernel
theorem dX6_obstacle_38 : decode cX6_obstacle 38 = .ok (.ireturn, 1) := by decide +kernel
theorem dX6_obstacle_39 : decode cX6_obstacle 39 = .ok (.iload_n 3, 1) := by decide +kernel
theorem dX6_obstacle_40 : decode cX6_obstacle 40 = .ok (.iload 4, 2) := by decide +kernel
theorem dX6_obstacle_42 : decode cX6_obstacle 42 = .ok (.iadd, 1) := by decide +kernel
theorem dX6_obstacle_43 : decode cX6_obstacle 43 = .ok (.iconst 1, 1) := by decide +kernel
theorem dX6_obstacle_44 : decode cX6_obstacle 44 = .ok (.iconst 4, 1) := by decide +kernel
theorem dX6_obstacle_45 : decode cX6_obstacle 45 = .ok (.invokestatic 63, 3) := by decide +kernel
theorem dX6_obstacle_48 : decode cX6_obstacle 48 = .ok (.ifCond .ne 5, 3) := by decide +kernel
theorem dX6_obstacle_51 : decode cX6_obstacle 51 = .ok (.iconst 4, 1) := by decide +kernel
theorem dX6_obstacle_52 : decode cX6_obstacle 52 = .ok (.ireturn, 1) := by decide +kernel
theorem dX6_obstacle_53 : decode cX6_obstacle 53 = .ok (.iload_n 3, 1) := by decide +kernel
theorem dX6_obstacle_54 : decode cX6_obstacle 54 = .ok (.aload_n 0, 1) := by decide +kernel
theorem dX6_obstacle_55 : decode cX6_obstacle 55 = .ok (.getfield 17, 3) := by decide +kernel
theorem dX6_obstacle_58 : decode cX6_obstacle 58 = .ok (.iconst 2, 1) := by decide +kernel
theorem dX6_obstacle_59 : decode cX6_obstacle 59 = .ok (.iaload, 1) := by decide +kernel
theorem dX6_obstacle_60 : decode cX6_obstacle 60 = .ok (.if_icmp .gt 14, 3) := by decide +kernel
theorem dX6_obstacle_63 : decode cX6_obstacle 63 = .ok (.iload 4, 2) := by decide +kernel
theorem dX6_obstacle_65 : decode cX6_obstacle 65 = .ok (.aload_n 0, 1) := by decide +kernel
theorem dX6_obstacle_66 : decode cX6_obstacle 66 = .ok (.getfield 17, 3) := by decide +kernel
theorem dX6_obstacle_69 : decode cX6_obstacle 69 = .ok (.iconst 3, 1) := by decide +kernel
theorem dX6_obstacle_70 : decode cX6_obstacle 70 = .ok (.iaload, 1) := by decide +kernel
theorem dX6_obstacle_71 : decode cX6_obstacle 71 = .ok (.if_icmp .le 5, 3) := by decide +kernel
theorem dX6_obstacle_74 : decode cX6_obstacle 74 = .ok (.iconst 5, 1) := by decide +kernel
theorem dX6_obstacle_75 : decode cX6_obstacle 75 = .ok (.ireturn, 1) := by decide +kernel
theorem dX6_obstacle_76 : decode cX6_obstacle 76 = .ok (.aload_n 0, 1) := by decide +kernel
theorem dX6_obstacle_77 : decode cX6_obstacle 77 = .ok (.iload_n 1, 1) := by decide +kernel
theorem dX6_obstacle_78 : decode cX6_obstacle 78 = .ok (.invokevirtual 103, 3) := by decide +kernel
theorem dX6_obstacle_81 : decode cX6_obstacle 81 = .ok (.iload_n 3, 1) := by decide +kernel
theorem dX6_obstacle_82 : decode cX6_obstacle 82 = .ok (.iload 4, 2) := by decide +kernel
theorem dX6_obstacle_84 : decode cX6_obstacle 84 = .ok (.invokestatic 94, 3) := by decide +kernel
theorem dX6_obstacle_87 : decode cX6_obstacle 87 = .ok (.if_icmp .le 8, 3) := by decide +kernel
theorem dX6_obstacle_90 : decode cX6_obstacle 90 = .ok (.bipush 6, 2) := by decide +kernel
theorem dX6_obstacle_92 : decode cX6_obstacle 92 = .ok (.goto 4, 3) := by decide +kernel
theorem dX6_obstacle_95 : decode cX6_obstacle 95 = .ok (.iconst 0, 1) := by decide +kernel
theorem dX6_obstacle_96 : decode cX6_obstacle 96 = .ok (.ireturn, 1) := by decide +kernel
theorem dX6_add_0 : decode cX6_add 0 = .ok (.aload_n 0, 1) := by decide +kernel
theorem dX6_add_1 : decode cX6_add 1 = .ok (.iload_n 1, 1) := by decide +kernel
theorem dX6_add_2 : decode cX6_add 2 = .ok (.iconst 3, 1) := by decide +kernel
theorem dX6_add_3 : decode cX6_add 3 = .ok (.aload_n 0, 1) := by decide +kernel
theorem dX6_add_4 : decode cX6_add 4 = .ok (.iload_n 1, 1) := by decide +kernel
theorem dX6_add_5 : decode cX6_add 5 = .ok (.iconst 3, 1) := by decide +kernel
theorem dX6_add_6 : decode cX6_add 6 = .ok (.invokevirtual 81, 3) := by decide +kernel
theorem dX6_add_9 : decode cX6_add 9 = .ok (.iload_n 2, 1) := by decide +kernel
theorem dX6_add_10 : decode cX6_add 10 = .ok (.iadd, 1) := by decide +kernel
theorem dX6_add_11 : decode cX6_add 11 = .ok (.invokevirtual 106, 3) := by decide +kernel
theorem dX6_add_14 : decode cX6_add 14 = .ok (.aload_n 0, 1) := by decide +kernel
theorem dX6_add_15 : decode cX6_add 15 = .ok (.getfield 17, 3) := by decide +kernel
theorem dX6_add_18 : decode cX6_add 18 = .ok (.bipush 8, 2) := by decide +kernel
theorem dX6_add_20 : decode cX6_add 20 = .ok (.dup2, 1) := by decide +kernel
theorem dX6_add_21 : decode cX6_add 21 = .ok (.iaload, 1) := by decide +kernel
theorem dX6_add_22 : decode cX6_add 22 = .ok (.iload_n 2, 1) := by decide +kernel
theorem dX6_add_23 : decode cX6_add 23 = .ok (.iadd, 1) := by decide +kernel
theorem dX6_add_24 : decode cX6_add 24 = .ok (.iastore, 1) := by decide +kernel
theorem dX6_add_25 : decode cX6_add 25 = .ok (.return_, 1) := by decide +kernel
theorem dX6_dry_0 : decode cX6_dry 0 = .ok (.iload_n 2, 1) := by decide +kernel
theorem dX6_dry_1 : decode cX6_dry 1 = .ok (.aload_n 0, 1) := by decide +kernel
theorem dX6_dry_2 : decode cX6_dry 2 = .ok (.iload_n 1, 1) := by decide +kernel
theorem dX6_dry_3 : decode cX6_dry 3 = .ok (.iconst 3, 1) := by decide +kernel
theorem dX6_dry_4 : decode cX6_dry 4 = .ok (.invokevirtual 81, 3) := by decide +kernel
theorem dX6_dry_7 : decode cX6_dry 7 = .ok (.invokestatic 75, 3) := by decide +kernel
theorem dX6_dry_10 : decode cX6_dry 10 = .ok (.istore 4, 2) := by decide +kernel
theorem dX6_dry_12 : decode cX6_dry 12 = .ok (.aload_n 0, 1) := by decide +kernel
theorem dX6_dry_13 : decode cX6_dry 13 = .ok (.iload_n 1, 1) := by decide +kernel
theorem dX6_dry_14 : decode cX6_dry 14 = .ok (.iconst 3, 1) := by decide +kernel
theorem dX6_dry_15 : decode cX6_dry 15 = .ok (.aload_n 0, 1) := by decide +kernel
theorem dX6_dry_16 : decode cX6_dry 16 = .ok (.iload_n 1, 1) := by decide +kernel
theorem dX6_dry_17 : decode cX6_dry 17 = .ok (.iconst 3, 1) := by decide +kernel
theorem dX6_dry_18 : decode cX6_dry 18 = .ok (.invokevirtual 81, 3) := by decide +kernel
theorem dX6_dry_21 : decode cX6_dry 21 = .ok (.iload 4, 2) := by decide +kernel
theorem dX6_dry_23 : decode cX6_dry 23 = .ok (.isub, 1) := by decide +kernel
theorem dX6_dry_24 : decode cX6_dry 24 = .ok (.invokevirtual 106, 3) := by decide +kernel
theorem dX6_dry_27 : decode cX6_dry 27 = .ok (.aload_n 0, 1) := by decide +kernel
theorem dX6_dry_28 : decode cX6_dry 28 = .ok (.getfield 17, 3) := by decide +kernel
theorem dX6_dry_31 : decode cX6_dry 31 = .ok (.iload_n 3, 1) := by decide +kernel
theorem dX6_dry_32 : decode cX6_dry 32 = .ok (.dup2, 1) := by decide +kernel
theorem dX6_dry_33 : decode cX6_dry 33 = .ok (.iaload, 1) := by decide +kernel
theorem dX6_dry_34 : decode cX6_dry 34 = .ok (.iload 4, 2) := by decide +kernel
theorem dX6_dry_36 : decode cX6_dry 36 = .ok (.iadd, 1) := by decide +kernel
theorem dX6_dry_37 : decode cX6_dry 37 = .ok (.iastore, 1) := by decide +kernel
theorem dX6_dry_38 : decode cX6_dry 38 = .ok (.return_, 1) := by decide +kernel
theorem dX6_freePegs_0 : decode cX6_freePegs 0 = .ok (.aload_n 0, 1) := by decide +kernel
theorem dX6_freePegs_1 : decode cX6_freePegs 1 = .ok (.getfield 17, 3) := by decide +kernel
theorem dX6_freePegs_4 : decode cX6_freePegs 4 = .ok (.iconst 2, 1) := by decide +kernel
theorem dX6_freePegs_5 : decode cX6_freePegs 5 = .ok (.dup2, 1) := by decide +kernel
theorem dX6_freePegs_6 : decode cX6_freePegs 6 = .ok (.iaload, 1) := by decide +kernel
theorem dX6_freePegs_7 : decode cX6_freePegs 7 = .ok (.aload_n 0, 1) := by decide +kernel
theorem dX6_freePegs_8 : decode cX6_freePegs 8 = .ok (.iload_n 1, 1) := by decide +kernel
theorem dX6_freePegs_9 : decode cX6_freePegs 9 = .ok (.bipush 8, 2) := by decide +kernel
theorem dX6_freePegs_11 : decode cX6_freePegs 11 = .ok (.invokevirtual 81, 3) := by decide +kernel
theorem dX6_freePegs_14 : decode cX6_freePegs 14 = .ok (.iadd, 1) := by decide +kernel
theorem dX6_freePegs_15 : decode cX6_freePegs 15 = .ok (.iastore, 1) := by decide +kernel
theorem dX6_freePegs_16 : decode cX6_freePegs 16 = .ok (.aload_n 0, 1) := by decide +kernel
theorem dX6_freePegs_17 : decode cX6_freePegs 17 = .ok (.getfield 17, 3) := by decide +kernel
theorem dX6_freePegs_20 : decode cX6_freePegs 20 = .ok (.iconst 3, 1) := by decide +kernel
theorem dX6_freePegs_21 : decode cX6_freePegs 21 = .ok (.dup2, 1) := by decide +kernel
theorem dX6_freePegs_22 : decode cX6_freePegs 22 = .ok (.iaload, 1) := by decide +kernel
theorem dX6_freePegs_23 : decode cX6_freePegs 23 = .ok (.aload_n 0, 1) := by decide +kernel
theorem dX6_freePegs_24 : decode cX6_freePegs 24 = .ok (.iload_n 1, 1) := by decide +kernel
theorem dX6_freePegs_25 : decode cX6_freePegs 25 = .ok (.bipush 9, 2) := by decide +kernel
theorem dX6_freePegs_27 : decode cX6_freePegs 27 = .ok (.invokevirtual 81, 3) := by decide +kernel
theorem dX6_freePegs_30 : decode cX6_freePegs 30 = .ok (.iadd, 1) := by decide +kernel
theorem dX6_freePegs_31 : decode cX6_freePegs 31 = .ok (.iastore, 1) := by decide +kernel
theorem dX6_freePegs_32 : decode cX6_freePegs 32 = .ok (.aload_n 0, 1) := by decide +kernel
theorem dX6_freePegs_33 : decode cX6_freePegs 33 = .ok (.iload_n 1, 1) := by decide +kernel
theorem dX6_freePegs_34 : decode cX6_freePegs 34 = .ok (.bipush 8, 2) := by decide +kernel
theorem dX6_freePegs_36 : decode cX6_freePegs 36 = .ok (.iconst 0, 1) := by decide +kernel
theorem dX6_freePegs_37 : decode cX6_freePegs 37 = .ok (.invokevirtual 106, 3) := by decide +kernel
theorem dX6_freePegs_40 : decode cX6_freePegs 40 = .ok (.aload_n 0, 1) := by decide +kernel
theorem dX6_freePegs_41 : decode cX6_freePegs 41 = .ok (.iload_n 1, 1) := by decide +kernel
theorem dX6_freePegs_42 : decode cX6_freePegs 42 = .ok (.bipush 9, 2) := by decide +kernel
theorem dX6_freePegs_44 : decode cX6_freePegs 44 = .ok (.iconst 0, 1) := by decide +kernel
theorem dX6_freePegs_45 : decode cX6_freePegs 45 = .ok (.invokevirtual 106, 3) := by decide +kernel
theorem dX6_freePegs_48 : decode cX6_freePegs 48 = .ok (.aload_n 0, 1) := by decide +kernel
theorem dX6_freePegs_49 : decode cX6_freePegs 49 = .ok (.iload_n 1, 1) := by decide +kernel
theorem dX6_freePegs_50 : decode cX6_freePegs 50 = .ok (.bipush 7, 2) := by decide +kernel
theorem dX6_freePegs_52 : decode cX6_freePegs 52 = .ok (.iconst (-1), 1) := by decide +kernel
theorem dX6_freePegs_53 : decode cX6_freePegs 53 = .ok (.invokevirtual 106, 3) := by decide +kernel
theorem dX6_freePegs_56 : decode cX6_freePegs 56 = .ok (.return_, 1) := by decide +kernel
theorem dX6_water_0 : decode cX6_water 0 = .ok (.aload_n 0, 1) := by decide +kernel
theorem dX6_water_1 : decode cX6_water 1 = .ok (.iload_n 2, 1) := by decide +kernel
theorem dX6_water_2 : decode cX6_water 2 = .ok (.invokevirtual 67, 3) := by decide +kernel
theorem dX6_water_5 : decode cX6_water 5 = .ok (.istore_n 3, 1) := by decide +kernel
theorem dX6_water_6 : decode cX6_water 6 = .ok (.iload_n 3, 1) := by decide +kernel
theorem dX6_water_7 : decode cX6_water 7 = .ok (.ifCond .le 33, 3) := by decide +kernel
theorem dX6_water_10 : decode cX6_water 10 = .ok (.aload_n 0, 1) := by decide +kernel
theorem dX6_water_11 : decode cX6_water 11 = .ok (.iload_n 1, 1) := by decide +kernel
theorem dX6_water_12 : decode cX6_water 12 = .ok (.iload_n 3, 1) := by decide +kernel
theorem dX6_water_13 : decode cX6_water 13 = .ok (.aload_n 0, 1) := by decide +kernel
theorem dX6_water_14 : decode cX6_water 14 = .ok (.iload_n 1, 1) := by decide +kernel
theorem dX6_water_15 : decode cX6_water 15 = .ok (.iconst 0, 1) := by decide +kernel
theorem dX6_water_16 : decode cX6_water 16 = .ok (.invokevirtual 81, 3) := by decide +kernel
theorem dX6_water_19 : decode cX6_water 19 = .ok (.imul, 1) := by decide +kernel
theorem dX6_water_20 : decode cX6_water 20 = .ok (.aload_n 0, 1) := by decide +kernel
theorem dX6_water_21 : decode cX6_water 21 = .ok (.iload_n 1, 1) := by decide +kernel
theorem dX6_water_22 : decode cX6_water 22 = .ok (.iconst 2, 1) := by decide +kernel
theorem dX6_water_23 : decode cX6_water 23 = .ok (.invokevirtual 81, 3) := by decide +kernel
theorem dX6_water_26 : decode cX6_water 26 = .ok (.aload_n 0, 1) := by decide +kernel
theorem dX6_water_27 : decode cX6_water 27 = .ok (.iload_n 1, 1) := by decide +kernel
theorem dX6_water_28 : decode cX6_water 28 = .ok (.iconst 3, 1) := by decide +kernel
theorem dX6_water_29 : decode cX6_water 29 = .ok (.invokevirtual 81, 3) := by decide +kernel
theorem dX6_water_32 : decode cX6_water 32 = .ok (.isub, 1) := by decide +kernel
theorem dX6_water_33 : decode cX6_water 33 = .ok (.invokestatic 75, 3) := by decide +kernel
theorem dX6_water_36 : decode cX6_water 36 = .ok (.invokevirtual 110, 3) := by decide +kernel
theorem dX6_water_39 : decode cX6_water 39 = .ok (.return_, 1) := by decide +kernel
theorem dX6_water_40 : decode cX6_water 40 = .ok (.aload_n 0, 1) := by decide +kernel
theorem dX6_water_41 : decode cX6_water 41 = .ok (.iload_n 1, 1) := by decide +kernel
theorem dX6_water_42 : decode cX6_water 42 = .ok (.aload_n 0, 1) := by decide +kernel
theorem dX6_water_43 : decode cX6_water 43 = .ok (.iload_n 2, 1) := by decide +kernel
theorem dX6_water_44 : decode cX6_water 44 = .ok (.invokevirtual 114, 3) := by decide +kernel
theorem dX6_water_47 : decode cX6_water 47 = .ok (.aload_n 0, 1) := by decide +kernel
theorem dX6_water_48 : decode cX6_water 48 = .ok (.iload_n 1, 1) := by decide +kernel
theorem dX6_water_49 : decode cX6_water 49 = .ok (.invokevirtual 91, 3) := by decide +kernel
theorem dX6_water_52 : decode cX6_water 52 = .ok (.iand, 1) := by decide +kernel
theorem dX6_water_53 : decode cX6_water 53 = .ok (.invokestatic 117, 3) := by decide +kernel
theorem dX6_water_56 : decode cX6_water 56 = .ok (.bipush 9, 2) := by decide +kernel
theorem dX6_water_58 : decode cX6_water 58 = .ok (.invokevirtual 120, 3) := by decide +kernel
theorem dX6_water_61 : decode cX6_water 61 = .ok (.aload_n 0, 1) := by decide +kernel
theorem dX6_water_62 : decode cX6_water 62 = .ok (.iload_n 1, 1) := by decide +kernel
theorem dX6_water_63 : decode cX6_water 63 = .ok (.aload_n 0, 1) := by decide +kernel
theorem dX6_water_64 : decode cX6_water 64 = .ok (.iload_n 2, 1) := by decide +kernel
theorem dX6_water_65 : decode cX6_water 65 = .ok (.invokevirtual 72, 3) := by decide +kernel
theorem dX6_water_68 : decode cX6_water 68 = .ok (.bipush 10, 2) := by decide +kernel
theorem dX6_water_70 : decode cX6_water 70 = .ok (.invokevirtual 120, 3) := by decide +kernel
theorem dX6_water_73 : decode cX6_water 73 = .ok (.return_, 1) := by decide +kernel
theorem dX6_smell_0 : decode cX6_smell 0 = .ok (.aload_n 0, 1) := by decide +kernel
theorem dX6_smell_1 : decode cX6_smell 1 = .ok (.iload_n 1, 1) := by decide +kernel
theorem dX6_smell_2 : decode cX6_smell 2 = .ok (.iconst 4, 1) := by decide +kernel
theorem dX6_smell_3 : decode cX6_smell 3 = .ok (.invokevirtual 81, 3) := by decide +kernel
theorem dX6_smell_6 : decode cX6_smell 6 = .ok (.istore_n 3, 1) := by decide +kernel
theorem dX6_smell_7 : decode cX6_smell 7 = .ok (.aload_n 0, 1) := by decide +kernel
theorem dX6_smell_8 : decode cX6_smell 8 = .ok (.iload_n 2, 1) := by decide +kernel
theorem dX6_smell_9 : decode cX6_smell 9 = .ok (.invokevirtual 123, 3) := by decide +kernel
theorem dX6_smell_12 : decode cX6_smell 12 = .ok (.aload_n 0, 1) := by decide +kernel
theorem dX6_smell_13 : decode cX6_smell 13 = .ok (.iload_n 1, 1) := by decide +kernel
theorem dX6_smell_14 : decode cX6_smell 14 = .ok (.invokevirtual 91, 3) := by decide +kernel
theorem dX6_smell_17 : decode cX6_smell 17 = .ok (.iand, 1) := by decide +kernel
theorem dX6_smell_18 : decode cX6_smell 18 = .ok (.ifCond .eq 20, 3) := by decide +kernel
theorem dX6_smell_21 : decode cX6_smell 21 = .ok (.aload_n 0, 1) := by decide +kernel
theorem dX6_smell_22 : decode cX6_smell 22 = .ok (.iload_n 1, 1) := by decide +kernel
theorem dX6_smell_23 : decode cX6_smell 23 = .ok (.iconst 4, 1) := by decide +kernel
theorem dX6_smell_24 : decode cX6_smell 24 = .ok (.bipush 99, 2) := by decide +kernel
theorem dX6_smell_26 : decode cX6_smell 26 = .ok (.iload_n 3, 1) := by decide +kernel
theorem dX6_smell_27 : decode cX6_smell 27 = .ok (.iconst 1, 1) := by decide +kernel
theorem dX6_smell_28 : decode cX6_smell 28 = .ok (.iadd, 1) := by decide +kernel
theorem dX6_smell_29 : decode cX6_smell 29 = .ok (.invokestatic 75, 3) := by decide +kernel
theorem dX6_smell_32 : decode cX6_smell 32 = .ok (.invokevirtual 106, 3) := by decide +kernel
theorem dX6_smell_35 : decode cX6_smell 35 = .ok (.goto 24, 3) := by decide +kernel
theorem dX6_smell_38 : decode cX6_smell 38 = .ok (.aload_n 0, 1) := by decide +kernel
theorem dX6_smell_39 : decode cX6_smell 39 = .ok (.iload_n 2, 1) := by decide +kernel
theorem dX6_smell_40 : decode cX6_smell 40 = .ok (.invokevirtual 72, 3) := by decide +kernel
theorem dX6_smell_43 : decode cX6_smell 43 = .ok (.ifCond .le 16, 3) := by decide +kernel
theorem dX6_smell_46 : decode cX6_smell 46 = .ok (.aload_n 0, 1) := by decide +kernel
theorem dX6_smell_47 : decode cX6_smell 47 = .ok (.iload_n 1, 1) := by decide +kernel
theorem dX6_smell_48 : decode cX6_smell 48 = .ok (.iconst 4, 1) := by decide +kernel
theorem dX6_smell_49 : decode cX6_smell 49 = .ok (.iconst 0, 1) := by decide +kernel
theorem dX6_smell_50 : decode cX6_smell 50 = .ok (.iload_n 3, 1) := by decide +kernel
theorem dX6_smell_51 : decode cX6_smell 51 = .ok (.iconst 1, 1) := by decide +kernel
theorem dX6_smell_52 : decode cX6_smell 52 = .ok (.isub, 1) := by decide +kernel
theorem dX6_smell_53 : decode cX6_smell 53 = .ok (.invokestatic 126, 3) := by decide +kernel
theorem dX6_smell_56 : decode cX6_smell 56 = .ok (.invokevirtual 106, 3) := by decide +kernel
theorem dX6_smell_59 : decode cX6_smell 59 = .ok (.return_, 1) := by decide +kernel
theorem dX6_falls_0 : decode cX6_falls 0 = .ok (.aload_n 0, 1) := by decide +kernel
theorem dX6_falls_1 : decode cX6_falls 1 = .ok (.iload_n 1, 1) := by decide +kernel
theorem dX6_falls_2 : decode cX6_falls 2 = .ok (.invokevirtual 103, 3) := by decide +kernel
theorem dX6_falls_5 : decode cX6_falls 5 = .ok (.aload_n 0, 1) := by decide +kernel
theorem dX6_falls_6 : decode cX6_falls 6 = .ok (.iload_n 1, 1) := by decide +kernel
theorem dX6_falls_7 : decode cX6_falls 7 = .ok (.invokevirtual 129, 3) := by decide +kernel
theorem dX6_falls_10 : decode cX6_falls 10 = .ok (.if_icmp .gt 5, 3) := by decide +kernel
theorem dX6_falls_13 : decode cX6_falls 13 = .ok (.iconst 0, 1) := by decide +kernel
theorem dX6_falls_14 : decode cX6_falls 14 = .ok (.ireturn, 1) := by decide +kernel
theorem dX6_falls_15 : decode cX6_falls 15 = .ok (.aload_n 0, 1) := by decide +kernel
theorem dX6_falls_16 : decode cX6_falls 16 = .ok (.iload_n 1, 1) := by decide +kernel
theorem dX6_falls_17 : decode cX6_falls 17 = .ok (.invokevirtual 132, 3) := by decide +kernel
theorem dX6_falls_20 : decode cX6_falls 20 = .ok (.aload_n 0, 1) := by decide +kernel
theorem dX6_falls_21 : decode cX6_falls 21 = .ok (.iload_n 1, 1) := by decide +kernel
theorem dX6_falls_22 : decode cX6_falls 22 = .ok (.bipush 6, 2) := by decide +kernel
theorem dX6_falls_24 : decode cX6_falls 24 = .ok (.iconst 2, 1) := by decide +kernel
theorem dX6_falls_25 : decode cX6_falls 25 = .ok (.invokevirtual 106, 3) := by decide +kernel
theorem dX6_falls_28 : decode cX6_falls 28 = .ok (.aload_n 0, 1) := by decide +kernel
theorem dX6_falls_29 : decode cX6_falls 29 = .ok (.iload_n 1, 1) := by decide +kernel
theorem dX6_falls_30 : decode cX6_falls 30 = .ok (.iconst 5, 1) := by decide +kernel
theorem dX6_falls_31 : decode cX6_falls 31 = .ok (.iconst 1, 1) := by decide +kernel
theorem dX6_falls_32 : decode cX6_falls 32 = .ok (.invokevirtual 106, 3) := by decide +kernel
theorem dX6_falls_35 : decode cX6_falls 35 = .ok (.aload_n 0, 1) := by decide +kernel
theorem dX6_falls_36 : decode cX6_falls 36 = .ok (.iload_n 1, 1) := by decide +kernel
theorem dX6_falls_37 : decode cX6_falls 37 = .ok (.bipush 10, 2) := by decide +kernel
theorem dX6_falls_39 : decode cX6_falls 39 = .ok (.aload_n 0, 1) := by decide +kernel
theorem dX6_falls_40 : decode cX6_falls 40 = .ok (.iload_n 1, 1) := by decide +kernel
theorem dX6_falls_41 : decode cX6_falls 41 = .ok (.bipush 10, 2) := by decide +kernel
theorem dX6_falls_43 : decode cX6_falls 43 = .ok (.invokevirtual 81, 3) := by decide +kernel
theorem dX6_falls_46 : decode cX6_falls 46 = .ok (.iconst 1, 1) := by decide +kernel
theorem dX6_falls_47 : decode cX6_falls 47 = .ok (.iadd, 1) := by decide +kernel
theorem dX6_falls_48 : decode cX6_falls 48 = .ok (.invokevirtual 106, 3) := by decide +kernel
theorem dX6_falls_51 : decode cX6_falls 51 = .ok (.iconst 1, 1) := by decide +kernel
theorem dX6_falls_52 : decode cX6_falls 52 = .ok (.ireturn, 1) := by decide +kernel
theorem dX6_passMinute_0 : decode cX6_passMinute 0 = .ok (.iconst 0, 1) := by decide +kernel
theorem dX6_passMinute_1 : decode cX6_passMinute 1 = .ok (.istore_n 1, 1) := by decide +kernel
theorem dX6_passMinute_2 : decode cX6_passMinute 2 = .ok (.aload_n 0, 1) := by decide +kernel
theorem dX6_passMinute_3 : decode cX6_passMinute 3 = .ok (.getfield 17, 3) := by decide +kernel
theorem dX6_passMinute_6 : decode cX6_passMinute 6 = .ok (.iconst 0, 1) := by decide +kernel
theorem dX6_passMinute_7 : decode cX6_passMinute 7 = .ok (.iaload, 1) := by decide +kernel
theorem dX6_passMinute_8 : decode cX6_passMinute 8 = .ok (.istore_n 2, 1) := by decide +kernel
theorem dX6_passMinute_9 : decode cX6_passMinute 9 = .ok (.iconst 0, 1) := by decide +kernel
theorem dX6_passMinute_10 : decode cX6_passMinute 10 = .ok (.istore_n 3, 1) := by decide +kernel
theorem dX6_passMinute_11 : decode cX6_passMinute 11 = .ok (.iload_n 3, 1) := by decide +kernel
theorem dX6_passMinute_12 : decode cX6_passMinute 12 = .ok (.aload_n 0, 1) := by decide +kernel
theorem dX6_passMinute_13 : decode cX6_passMinute 13 = .ok (.getfield 17, 3) := by decide +kernel
theorem dX6_passMinute_16 : decode cX6_passMinute 16 = .ok (.bipush 7, 2) := by decide +kernel
theorem dX6_passMinute_18 : decode cX6_passMinute 18 = .ok (.iaload, 1) := by decide +kernel
theorem dX6_passMinute_19 : decode cX6_passMinute 19 = .ok (.if_icmp .ge 41, 3) := by decide +kernel
theorem dX6_passMinute_22 : decode cX6_passMinute 22 = .ok (.aload_n 0, 1) := by decide +kernel
theorem dX6_passMinute_23 : decode cX6_passMinute 23 = .ok (.iload_n 3, 1) := by decide +kernel
theorem dX6_passMinute_24 : decode cX6_passMinute 24 = .ok (.iconst 1, 1) := by decide +kernel
theorem dX6_passMinute_25 : decode cX6_passMinute 25 = .ok (.invokevirtual 84, 3) := by decide +kernel
theorem dX6_passMinute_28 : decode cX6_passMinute 28 = .ok (.ifCond .eq 26, 3) := by decide +kernel
theorem dX6_passMinute_31 : decode cX6_passMinute 31 = .ok (.aload_n 0, 1) := by decide +kernel
theorem dX6_passMinute_32 : decode cX6_passMinute 32 = .ok (.iload_n 3, 1) := by decide +kernel
theorem dX6_passMinute_33 : decode cX6_passMinute 33 = .ok (.iload_n 2, 1) := by decide +kernel
theorem dX6_passMinute_34 : decode cX6_passMinute 34 = .ok (.invokevirtual 136, 3) := by decide +kernel
theorem dX6_passMinute_37 : decode cX6_passMinute 37 = .ok (.aload_n 0, 1) := by decide +kernel
theorem dX6_passMinute_38 : decode cX6_passMinute 38 = .ok (.iload_n 3, 1) := by decide +kernel
theorem dX6_passMinute_39 : decode cX6_passMinute 39 = .ok (.iload_n 2, 1) := by decide +kernel
theorem dX6_passMinute_40 : decode cX6_passMinute 40 = .ok (.invokevirtual 139, 3) := by decide +kernel
theorem dX6_passMinute_43 : decode cX6_passMinute 43 = .ok (.iload_n 1, 1) := by decide +kernel
theorem dX6_passMinute_44 : decode cX6_passMinute 44 = .ok (.aload_n 0, 1) := by decide +kernel
theorem dX6_passMinute_45 : decode cX6_passMinute 45 = .ok (.iload_n 3, 1) := by decide +kernel
theorem dX6_passMinute_46 : decode cX6_passMinute 46 = .ok (.invokevirtual 142, 3) := by decide +kernel
theorem dX6_passMinute_49 : decode cX6_passMinute 49 = .ok (.invokestatic 146, 3) := by decide +kernel
theorem dX6_passMinute_52 : decode cX6_passMinute 52 = .ok (.iadd, 1) := by decide +kernel
theorem dX6_passMinute_53 : decode cX6_passMinute 53 = .ok (.istore_n 1, 1) := by decide +kernel
theorem dX6_passMinute_54 : decode cX6_passMinute 54 = .ok (.iinc 3 1, 3) := by decide +kernel
theorem dX6_passMinute_57 : decode cX6_passMinute 57 = .ok (.goto (-46), 3) := by decide +kernel
theorem dX6_passMinute_60 : decode cX6_passMinute 60 = .ok (.aload_n 0, 1) := by decide +kernel
theorem dX6_passMinute_61 : decode cX6_passMinute 61 = .ok (.getfield 17, 3) := by decide +kernel
theorem dX6_passMinute_64 : decode cX6_passMinute 64 = .ok (.iconst 0, 1) := by decide +kernel
theorem dX6_passMinute_65 : decode cX6_passMinute 65 = .ok (.dup2, 1) := by decide +kernel
theorem dX6_passMinute_66 : decode cX6_passMinute 66 = .ok (.iaload, 1) := by decide +kernel
theorem dX6_passMinute_67 : decode cX6_passMinute 67 = .ok (.iconst 1, 1) := by decide +kernel
theorem dX6_passMinute_68 : decode cX6_passMinute 68 = .ok (.iadd, 1) := by decide +kernel
theorem dX6_passMinute_69 : decode cX6_passMinute 69 = .ok (.iastore, 1) := by decide +kernel
theorem dX6_passMinute_70 : decode cX6_passMinute 70 = .ok (.iload_n 1, 1) := by decide +kernel
theorem dX6_passMinute_71 : decode cX6_passMinute 71 = .ok (.ireturn, 1) := by decide +kernel
theorem dX6_passAll_0 : decode cX6_passAll 0 = .ok (.iconst 0, 1) := by decide +kernel
theorem dX6_passAll_1 : decode cX6_passAll 1 = .ok (.istore_n 2, 1) := by decide +kernel
theorem dX6_passAll_2 : decode cX6_passAll 2 = .ok (.iconst 0, 1) := by decide +kernel
theorem dX6_passAll_3 : decode cX6_passAll 3 = .ok (.istore_n 3, 1) := by decide +kernel
theorem dX6_passAll_4 : decode cX6_passAll 4 = .ok (.iload_n 3, 1) := by decide +kernel
theorem dX6_passAll_5 : decode cX6_passAll 5 = .ok (.iload_n 1, 1) := by decide +kernel
theorem dX6_passAll_6 : decode cX6_passAll 6 = .ok (.if_icmp .ge 16, 3) := by decide +kernel
theorem dX6_passAll_9 : decode cX6_passAll 9 = .ok (.iload_n 2, 1) := by decide +kernel
theorem dX6_passAll_10 : decode cX6_passAll 10 = .ok (.aload_n 0, 1) := by decide +kernel
theorem dX6_passAll_11 : decode cX6_passAll 11 = .ok (.invokevirtual 150, 3) := by decide +kernel
theorem dX6_passAll_14 : decode cX6_passAll 14 = .ok (.iadd, 1) := by decide +kernel
theorem dX6_passAll_15 : decode cX6_passAll 15 = .ok (.istore_n 2, 1) := by decide +kernel
theorem dX6_passAll_16 : decode cX6_passAll 16 = .ok (.iinc 3 1, 3) := by decide +kernel
theorem dX6_passAll_19 : decode cX6_passAll 19 = .ok (.goto (-15), 3) := by decide +kernel
theorem dX6_passAll_22 : decode cX6_passAll 22 = .ok (.iload_n 2, 1) := by decide +kernel
theorem dX6_passAll_23 : decode cX6_passAll 23 = .ok (.ireturn, 1) := by decide +kernel
theorem dX6_doGarment_0 : decode cX6_doGarment 0 = .ok (.aload_n 0, 1) := by decide +kernel
theorem dX6_doGarment_1 : decode cX6_doGarment 1 = .ok (.getfield 17, 3) := by decide +kernel
theorem dX6_doGarment_4 : decode cX6_doGarment 4 = .ok (.bipush 7, 2) := by decide +kernel
theorem dX6_doGarment_6 : decode cX6_doGarment 6 = .ok (.iaload, 1) := by decide +kernel
theorem dX6_doGarment_7 : decode cX6_doGarment 7 = .ok (.istore 5, 2) := by decide +kernel
theorem dX6_doGarment_9 : decode cX6_doGarment 9 = .ok (.iconst 0, 1) := by decide +kernel
theorem dX6_doGarment_10 : decode cX6_doGarment 10 = .ok (.istore 6, 2) := by decide +kernel
theorem dX6_doGarment_12 : decode cX6_doGarment 12 = .ok (.iload 6, 2) := by decide +kernel
theorem dX6_doGarment_14 : decode cX6_doGarment 14 = .ok (.bipush 11, 2) := by decide +kernel
theorem dX6_doGarment_16 : decode cX6_doGarment 16 = .ok (.if_icmp .ge 18, 3) := by decide +kernel
theorem dX6_doGarment_19 : decode cX6_doGarment 19 = .ok (.aload_n 0, 1) := by decide +kernel
theorem dX6_doGarment_20 : decode cX6_doGarment 20 = .ok (.iload 5, 2) := by decide +kernel
theorem dX6_doGarment_22 : decode cX6_doGarment 22 = .ok (.iload 6, 2) := by decide +kernel
theorem dX6_doGarment_24 : decode cX6_doGarment 24 = .ok (.iconst 0, 1) := by decide +kernel
theorem dX6_doGarment_25 : decode cX6_doGarment 25 = .ok (.invokevirtual 106, 3) := by decide +kernel
theorem dX6_doGarment_28 : decode cX6_doGarment 28 = .ok (.iinc 6 1, 3) := by decide +kernel
theorem dX6_doGarment_31 : decode cX6_doGarment 31 = .ok (.goto (-19), 3) := by decide +kernel
theorem dX6_doGarment_34 : decode cX6_doGarment 34 = .ok (.aload_n 0, 1) := by decide +kernel
theorem dX6_doGarment_35 : decode cX6_doGarment 35 = .ok (.iload 5, 2) := by decide +kernel
theorem dX6_doGarment_37 : decode cX6_doGarment 37 = .ok (.iconst 0, 1) := by decide +kernel
theorem dX6_doGarment_38 : decode cX6_doGarment 38 = .ok (.iload_n 1, 1) := by decide +kernel
theorem dX6_doGarment_39 : decode cX6_doGarment 39 = .ok (.invokevirtual 106, 3) := by decide +kernel
theorem dX6_doGarment_42 : decode cX6_doGarment 42 = .ok (.aload_n 0, 1) := by decide +kernel
theorem dX6_doGarment_43 : decode cX6_doGarment 43 = .ok (.iload 5, 2) := by decide +kernel
theorem dX6_doGarment_45 : decode cX6_doGarment 45 = .ok (.iconst 1, 1) := by decide +kernel
theorem dX6_doGarment_46 : decode cX6_doGarment 46 = .ok (.iload_n 2, 1) := by decide +kernel
theorem dX6_doGarment_47 : decode cX6_doGarment 47 = .ok (.invokevirtual 106, 3) := by decide +kernel
theorem dX6_doGarment_50 : decode cX6_doGarment 50 = .ok (.aload_n 0, 1) := by decide +kernel
theorem dX6_doGarment_51 : decode cX6_doGarment 51 = .ok (.iload 5, 2) := by decide +kernel
theorem dX6_doGarment_53 : decode cX6_doGarment 53 = .ok (.iconst 2, 1) := by decide +kernel
theorem dX6_doGarment_54 : decode cX6_doGarment 54 = .ok (.iload_n 3, 1) := by decide +kernel
theorem dX6_doGarment_55 : decode cX6_doGarment 55 = .ok (.invokevirtual 106, 3) := by decide +kernel
theorem dX6_doGarment_58 : decode cX6_doGarment 58 = .ok (.aload_n 0, 1) := by decide +kernel
theorem dX6_doGarment_59 : decode cX6_doGarment 59 = .ok (.iload 5, 2) := by decide +kernel
theorem dX6_doGarment_61 : decode cX6_doGarment 61 = .ok (.bipush 7, 2) := by decide +kernel
theorem dX6_doGarment_63 : decode cX6_doGarment 63 = .ok (.iconst (-1), 1) := by decide +kernel
theorem dX6_doGarment_64 : decode cX6_doGarment 64 = .ok (.invokevirtual 106, 3) := by decide +kernel
theorem dX6_doGarment_67 : decode cX6_doGarment 67 = .ok (.aload_n 0, 1) := by decide +kernel
theorem dX6_doGarment_68 : decode cX6_doGarment 68 = .ok (.getfield 17, 3) := by decide +kernel
theorem dX6_doGarment_71 : decode cX6_doGarment 71 = .ok (.bipush 7, 2) := by decide +kernel
theorem dX6_doGarment_73 : decode cX6_doGarment 73 = .ok (.dup2, 1) := by decide +kernel
theorem dX6_doGarment_74 : decode cX6_doGarment 74 = .ok (.iaload, 1) := by decide +kernel
theorem dX6_doGarment_75 : decode cX6_doGarment 75 = .ok (.iconst 1, 1) := by decide +kernel
theorem dX6_doGarment_76 : decode cX6_doGarment 76 = .ok (.iadd, 1) := by decide +kernel
theorem dX6_doGarment_77 : decode cX6_doGarment 77 = .ok (.iastore, 1) := by decide +kernel
theorem dX6_doGarment_78 : decode cX6_doGarment 78 = .ok (.aload_n 0, 1) := by decide +kernel
theorem dX6_doGarment_79 : decode cX6_doGarment 79 = .ok (.iload 5, 2) := by decide +kernel
theorem dX6_doGarment_81 : decode cX6_doGarment 81 = .ok (.iload 4, 2) := by decide +kernel
theorem dX6_doGarment_83 : decode cX6_doGarment 83 = .ok (.invokevirtual 110, 3) := by decide +kernel
theorem dX6_doGarment_86 : decode cX6_doGarment 86 = .ok (.iload 5, 2) := by decide +kernel
theorem dX6_doGarment_88 : decode cX6_doGarment 88 = .ok (.ireturn, 1) := by decide +kernel
theorem dX6_doHang_0 : decode cX6_doHang 0 = .ok (.aload_n 0, 1) := by decide +kernel
theorem dX6_doHang_1 : decode cX6_doHang 1 = .ok (.iload_n 1, 1) := by decide +kernel
theorem dX6_doHang_2 : decode cX6_doHang 2 = .ok (.bipush 6, 2) := by decide +kernel
theorem dX6_doHang_4 : decode cX6_doHang 4 = .ok (.iconst 1, 1) := by decide +kernel
theorem dX6_doHang_5 : decode cX6_doHang 5 = .ok (.invokevirtual 106, 3) := by decide +kernel
theorem dX6_doHang_8 : decode cX6_doHang 8 = .ok (.aload_n 0, 1) := by decide +kernel
theorem dX6_doHang_9 : decode cX6_doHang 9 = .ok (.iload_n 1, 1) := by decide +kernel
theorem dX6_doHang_10 : decode cX6_doHang 10 = .ok (.bipush 7, 2) := by decide +kernel
theorem dX6_doHang_12 : decode cX6_doHang 12 = .ok (.iload_n 2, 1) := by decide +kernel
theorem dX6_doHang_13 : decode cX6_doHang 13 = .ok (.invokevirtual 106, 3) := by decide +kernel
theorem dX6_doHang_16 : decode cX6_doHang 16 = .ok (.aload_n 0, 1) := by decide +kernel
theorem dX6_doHang_17 : decode cX6_doHang 17 = .ok (.iload_n 1, 1) := by decide +kernel
theorem dX6_doHang_18 : decode cX6_doHang 18 = .ok (.bipush 8, 2) := by decide +kernel
theorem dX6_doHang_20 : decode cX6_doHang 20 = .ok (.iload_n 3, 1) := by decide +kernel
theorem dX6_doHang_21 : decode cX6_doHang 21 = .ok (.invokevirtual 106, 3) := by decide +kernel
theorem dX6_doHang_24 : decode cX6_doHang 24 = .ok (.aload_n 0, 1) := by decide +kernel
theorem dX6_doHang_25 : decode cX6_doHang 25 = .ok (.iload_n 1, 1) := by decide +kernel
theorem dX6_doHang_26 : decode cX6_doHang 26 = .ok (.bipush 9, 2) := by decide +kernel
theorem dX6_doHang_28 : decode cX6_doHang 28 = .ok (.iload 4, 2) := by decide +kernel
theorem dX6_doHang_30 : decode cX6_doHang 30 = .ok (.invokevirtual 106, 3) := by decide +kernel
theorem dX6_doHang_33 : decode cX6_doHang 33 = .ok (.aload_n 0, 1) := by decide +kernel
theorem dX6_doHang_34 : decode cX6_doHang 34 = .ok (.getfield 17, 3) := by decide +kernel
theorem dX6_doHang_37 : decode cX6_doHang 37 = .ok (.iconst 2, 1) := by decide +kernel
theorem dX6_doHang_38 : decode cX6_doHang 38 = .ok (.dup2, 1) := by decide +kernel
theorem dX6_doHang_39 : decode cX6_doHang 39 = .ok (.iaload, 1) := by decide +kernel
theorem dX6_doHang_40 : decode cX6_doHang 40 = .ok (.iload_n 3, 1) := by decide +kernel
theorem dX6_doHang_41 : decode cX6_doHang 41 = .ok (.isub, 1) := by decide +kernel
theorem dX6_doHang_42 : decode cX6_doHang 42 = .ok (.iastore, 1) := by decide +kernel
theorem dX6_doHang_43 : decode cX6_doHang 43 = .ok (.aload_n 0, 1) := by decide +kernel
theorem dX6_doHang_44 : decode cX6_doHang 44 = .ok (.getfield 17, 3) := by decide +kernel
theorem dX6_doHang_47 : decode cX6_doHang 47 = .ok (.iconst 3, 1) := by decide +kernel
theorem dX6_doHang_48 : decode cX6_doHang 48 = .ok (.dup2, 1) := by decide +kernel
theorem dX6_doHang_49 : decode cX6_doHang 49 = .ok (.iaload, 1) := by decide +kernel
theorem dX6_doHang_50 : decode cX6_doHang 50 = .ok (.iload 4, 2) := by decide +kernel
theorem dX6_doHang_52 : decode cX6_doHang 52 = .ok (.isub, 1) := by decide +kernel
theorem dX6_doHang_53 : decode cX6_doHang 53 = .ok (.iastore, 1) := by decide +kernel
theorem dX6_doHang_54 : decode cX6_doHang 54 = .ok (.aload_n 0, 1) := by decide +kernel
theorem dX6_doHang_55 : decode cX6_doHang 55 = .ok (.iload_n 1, 1) := by decide +kernel
theorem dX6_doHang_56 : decode cX6_doHang 56 = .ok (.invokevirtual 129, 3) := by decide +kernel
theorem dX6_doHang_59 : decode cX6_doHang 59 = .ok (.ireturn, 1) := by decide +kernel
theorem dX6_doTake_0 : decode cX6_doTake 0 = .ok (.aload_n 0, 1) := by decide +kernel
theorem dX6_doTake_1 : decode cX6_doTake 1 = .ok (.iload_n 1, 1) := by decide +kernel
theorem dX6_doTake_2 : decode cX6_doTake 2 = .ok (.invokevirtual 132, 3) := by decide +kernel
theorem dX6_doTake_5 : decode cX6_doTake 5 = .ok (.aload_n 0, 1) := by decide +kernel
theorem dX6_doTake_6 : decode cX6_doTake 6 = .ok (.iload_n 1, 1) := by decide +kernel
theorem dX6_doTake_7 : decode cX6_doTake 7 = .ok (.bipush 6, 2) := by decide +kernel
theorem dX6_doTake_9 : decode cX6_doTake 9 = .ok (.iconst 0, 1) := by decide +kernel
theorem dX6_doTake_10 : decode cX6_doTake 10 = .ok (.invokevirtual 106, 3) := by decide +kernel
theorem dX6_doTake_13 : decode cX6_doTake 13 = .ok (.aload_n 0, 1) := by decide +kernel
theorem dX6_doTake_14 : decode cX6_doTake 14 = .ok (.iload_n 1, 1) := by decide +kernel
theorem dX6_doTake_15 : decode cX6_doTake 15 = .ok (.iconst 3, 1) := by decide +kernel
theorem dX6_doTake_16 : decode cX6_doTake 16 = .ok (.invokevirtual 81, 3) := by decide +kernel
theorem dX6_doTake_19 : decode cX6_doTake 19 = .ok (.ireturn, 1) := by decide +kernel
theorem dX6_doPick_0 : decode cX6_doPick 0 = .ok (.aload_n 0, 1) := by decide +kernel
theorem dX6_doPick_1 : decode cX6_doPick 1 = .ok (.iload_n 1, 1) := by decide +kernel
theorem dX6_doPick_2 : decode cX6_doPick 2 = .ok (.bipush 6, 2) := by decide +kernel
theorem dX6_doPick_4 : decode cX6_doPick 4 = .ok (.iconst 0, 1) := by decide +kernel
theorem dX6_doPick_5 : decode cX6_doPick 5 = .ok (.invokevirtual 106, 3) := by decide +kernel
theorem dX6_doPick_8 : decode cX6_doPick 8 = .ok (.aload_n 0, 1) := by decide +kernel
theorem dX6_doPick_9 : decode cX6_doPick 9 = .ok (.iconst 2, 1) := by decide +kernel
theorem dX6_doPick_10 : decode cX6_doPick 10 = .ok (.invokevirtual 153, 3) := by decide +kernel
theorem dX6_doPick_13 : decode cX6_doPick 13 = .ok (.invokestatic 117, 3) := by decide +kernel
theorem dX6_doPick_16 : decode cX6_doPick 16 = .ok (.ireturn, 1) := by decide +kernel
theorem dX6_doWash_0 : decode cX6_doWash 0 = .ok (.aload_n 0, 1) := by decide +kernel
theorem dX6_doWash_1 : decode cX6_doWash 1 = .ok (.iload_n 1, 1) := by decide +kernel
theorem dX6_doWash_2 : decode cX6_doWash 2 = .ok (.iconst 2, 1) := by decide +kernel
theorem dX6_doWash_3 : decode cX6_doWash 3 = .ok (.invokevirtual 81, 3) := by decide +kernel
theorem dX6_doWash_6 : decode cX6_doWash 6 = .ok (.aload_n 0, 1) := by decide +kernel
theorem dX6_doWash_7 : decode cX6_doWash 7 = .ok (.iload_n 1, 1) := by decide +kernel
theorem dX6_doWash_8 : decode cX6_doWash 8 = .ok (.iconst 3, 1) := by decide +kernel
theorem dX6_doWash_9 : decode cX6_doWash 9 = .ok (.invokevirtual 81, 3) := by decide +kernel
theorem dX6_doWash_12 : decode cX6_doWash 12 = .ok (.isub, 1) := by decide +kernel
theorem dX6_doWash_13 : decode cX6_doWash 13 = .ok (.istore_n 2, 1) := by decide +kernel
theorem dX6_doWash_14 : decode cX6_doWash 14 = .ok (.aload_n 0, 1) := by decide +kernel
theorem dX6_doWash_15 : decode cX6_doWash 15 = .ok (.iload_n 1, 1) := by decide +kernel
theorem dX6_doWash_16 : decode cX6_doWash 16 = .ok (.iload_n 2, 1) := by decide +kernel
theorem dX6_doWash_17 : decode cX6_doWash 17 = .ok (.invokevirtual 110, 3) := by decide +kernel
theorem dX6_doWash_20 : decode cX6_doWash 20 = .ok (.aload_n 0, 1) := by decide +kernel
theorem dX6_doWash_21 : decode cX6_doWash 21 = .ok (.iload_n 1, 1) := by decide +kernel
theorem dX6_doWash_22 : decode cX6_doWash 22 = .ok (.iconst 4, 1) := by decide +kernel
theorem dX6_doWash_23 : decode cX6_doWash 23 = .ok (.iconst 0, 1) := by decide +kernel
theorem dX6_doWash_24 : decode cX6_doWash 24 = .ok (.invokevirtual 106, 3) := by decide +kernel
theorem dX6_doWash_27 : decode cX6_doWash 27 = .ok (.aload_n 0, 1) := by decide +kernel
theorem dX6_doWash_28 : decode cX6_doWash 28 = .ok (.iload_n 1, 1) := by decide +kernel
theorem dX6_doWash_29 : decode cX6_doWash 29 = .ok (.iconst 5, 1) := by decide +kernel
theorem dX6_doWash_30 : decode cX6_doWash 30 = .ok (.iconst 0, 1) := by decide +kernel
theorem dX6_doWash_31 : decode cX6_doWash 31 = .ok (.invokevirtual 106, 3) := by decide +kernel
theorem dX6_doWash_34 : decode cX6_doWash 34 = .ok (.iload_n 2, 1) := by decide +kernel
theorem dX6_doWash_35 : decode cX6_doWash 35 = .ok (.ireturn, 1) := by decide +kernel
theorem dX6_canShift_0 : decode cX6_canShift 0 = .ok (.aload_n 0, 1) := by decide +kernel
theorem dX6_canShift_1 : decode cX6_canShift 1 = .ok (.iload_n 1, 1) := by decide +kernel
theorem dX6_canShift_2 : decode cX6_canShift 2 = .ok (.iconst 1, 1) := by decide +kernel
theorem dX6_canShift_3 : decode cX6_canShift 3 = .ok (.invokevirtual 84, 3) := by decide +kernel
theorem dX6_canShift_6 : decode cX6_canShift 6 = .ok (.ifCond .eq 31, 3) := by decide +kernel
theorem dX6_canShift_9 : decode cX6_canShift 9 = .ok (.aload_n 0, 1) := by decide +kernel
theorem dX6_canShift_10 : decode cX6_canShift 10 = .ok (.iload_n 1, 1) := by decide +kernel
theorem dX6_canShift_11 : decode cX6_canShift 11 = .ok (.iload_n 2, 1) := by decide +kernel
theorem dX6_canShift_12 : decode cX6_canShift 12 = .ok (.invokevirtual 97, 3) := by decide +kernel
theorem dX6_canShift_15 : decode cX6_canShift 15 = .ok (.ifCond .eq 22, 3) := by decide +kernel
theorem dX6_canShift_18 : decode cX6_canShift 18 = .ok (.aload_n 0, 1) := by decide +kernel
theorem dX6_canShift_19 : decode cX6_canShift 19 = .ok (.iload_n 1, 1) := by decide +kernel
theorem dX6_canShift_20 : decode cX6_canShift 20 = .ok (.iload_n 2, 1) := by decide +kernel
theorem dX6_canShift_21 : decode cX6_canShift 21 = .ok (.invokevirtual 88, 3) := by decide +kernel
theorem dX6_canShift_24 : decode cX6_canShift 24 = .ok (.aload_n 0, 1) := by decide +kernel
theorem dX6_canShift_25 : decode cX6_canShift 25 = .ok (.iload_n 1, 1) := by decide +kernel
theorem dX6_canShift_26 : decode cX6_canShift 26 = .ok (.invokevirtual 100, 3) := by decide +kernel
theorem dX6_canShift_29 : decode cX6_canShift 29 = .ok (.iand, 1) := by decide +kernel
theorem dX6_canShift_30 : decode cX6_canShift 30 = .ok (.ifCond .ne 7, 3) := by decide +kernel
theorem dX6_canShift_33 : decode cX6_canShift 33 = .ok (.iconst 1, 1) := by decide +kernel
theorem dX6_canShift_34 : decode cX6_canShift 34 = .ok (.goto 4, 3) := by decide +kernel
theorem dX6_canShift_37 : decode cX6_canShift 37 = .ok (.iconst 0, 1) := by decide +kernel
theorem dX6_canShift_38 : decode cX6_canShift 38 = .ok (.ireturn, 1) := by decide +kernel
theorem dX6_doShift_0 : decode cX6_doShift 0 = .ok (.aload_n 0, 1) := by decide +kernel
theorem dX6_doShift_1 : decode cX6_doShift 1 = .ok (.iload_n 1, 1) := by decide +kernel
theorem dX6_doShift_2 : decode cX6_doShift 2 = .ok (.bipush 7, 2) := by decide +kernel
theorem dX6_doShift_4 : decode cX6_doShift 4 = .ok (.invokevirtual 81, 3) := by decide +kernel
theorem dX6_doShift_7 : decode cX6_doShift 7 = .ok (.istore_n 3, 1) := by decide +kernel
theorem dX6_doShift_8 : decode cX6_doShift 8 = .ok (.aload_n 0, 1) := by decide +kernel
theorem dX6_doShift_9 : decode cX6_doShift 9 = .ok (.iload_n 1, 1) := by decide +kernel
theorem dX6_doShift_10 : decode cX6_doShift 10 = .ok (.bipush 7, 2) := by decide +kernel
theorem dX6_doShift_12 : decode cX6_doShift 12 = .ok (.iload_n 2, 1) := by decide +kernel
theorem dX6_doShift_13 : decode cX6_doShift 13 = .ok (.invokevirtual 106, 3) := by decide +kernel
theorem dX6_doShift_16 : decode cX6_doShift 16 = .ok (.iload_n 3, 1) := by decide +kernel
theorem dX6_doShift_17 : decode cX6_doShift 17 = .ok (.ireturn, 1) := by decide +kernel
theorem dX6_doShower_0 : decode cX6_doShower 0 = .ok (.bipush 19, 2) := by decide +kernel
theorem dX6_doShower_2 : decode cX6_doShower 2 = .ok (.iconst 3, 1) := by decide +kernel
theorem dX6_doShower_3 : decode cX6_doShower 3 = .ok (.aload_n 0, 1) := by decide +kernel
theorem dX6_doShower_4 : decode cX6_doShower 4 = .ok (.getfield 17, 3) := by decide +kernel
theorem dX6_doShower_7 : decode cX6_doShower 7 = .ok (.iconst 5, 1) := by decide +kernel
theorem dX6_doShower_8 : decode cX6_doShower 8 = .ok (.iaload, 1) := by decide +kernel
theorem dX6_doShower_9 : decode cX6_doShower 9 = .ok (.imul, 1) := by decide +kernel
theorem dX6_doShower_10 : decode cX6_doShower 10 = .ok (.iadd, 1) := by decide +kernel
theorem dX6_doShower_11 : decode cX6_doShower 11 = .ok (.istore 4, 2) := by decide +kernel
theorem dX6_doShower_13 : decode cX6_doShower 13 = .ok (.aload_n 0, 1) := by decide +kernel
theorem dX6_doShower_14 : decode cX6_doShower 14 = .ok (.getfield 17, 3) := by decide +kernel
theorem dX6_doShower_17 : decode cX6_doShower 17 = .ok (.iload 4, 2) := by decide +kernel
theorem dX6_doShower_19 : decode cX6_doShower 19 = .ok (.iload_n 1, 1) := by decide +kernel
theorem dX6_doShower_20 : decode cX6_doShower 20 = .ok (.iastore, 1) := by decide +kernel
theorem dX6_doShower_21 : decode cX6_doShower 21 = .ok (.aload_n 0, 1) := by decide +kernel
theorem dX6_doShower_22 : decode cX6_doShower 22 = .ok (.getfield 17, 3) := by decide +kernel
theorem dX6_doShower_25 : decode cX6_doShower 25 = .ok (.iload 4, 2) := by decide +kernel
theorem dX6_doShower_27 : decode cX6_doShower 27 = .ok (.iconst 1, 1) := by decide +kernel
theorem dX6_doShower_28 : decode cX6_doShower 28 = .ok (.iadd, 1) := by decide +kernel
theorem dX6_doShower_29 : decode cX6_doShower 29 = .ok (.iload_n 2, 1) := by decide +kernel
theorem dX6_doShower_30 : decode cX6_doShower 30 = .ok (.iastore, 1) := by decide +kernel
theorem dX6_doShower_31 : decode cX6_doShower 31 = .ok (.aload_n 0, 1) := by decide +kernel
theorem dX6_doShower_32 : decode cX6_doShower 32 = .ok (.getfield 17, 3) := by decide +kernel
theorem dX6_doShower_35 : decode cX6_doShower 35 = .ok (.iload 4, 2) := by decide +kernel
theorem dX6_doShower_37 : decode cX6_doShower 37 = .ok (.iconst 2, 1) := by decide +kernel
theorem dX6_doShower_38 : decode cX6_doShower 38 = .ok (.iadd, 1) := by decide +kernel
theorem dX6_doShower_39 : decode cX6_doShower 39 = .ok (.iload_n 3, 1) := by decide +kernel
theorem dX6_doShower_40 : decode cX6_doShower 40 = .ok (.iastore, 1) := by decide +kernel
theorem dX6_doShower_41 : decode cX6_doShower 41 = .ok (.aload_n 0, 1) := by decide +kernel
theorem dX6_doShower_42 : decode cX6_doShower 42 = .ok (.getfield 17, 3) := by decide +kernel
theorem dX6_doShower_45 : decode cX6_doShower 45 = .ok (.iconst 5, 1) := by decide +kernel
theorem dX6_doShower_46 : decode cX6_doShower 46 = .ok (.dup2, 1) := by decide +kernel
theorem dX6_doShower_47 : decode cX6_doShower 47 = .ok (.iaload, 1) := by decide +kernel
theorem dX6_doShower_48 : decode cX6_doShower 48 = .ok (.iconst 1, 1) := by decide +kernel
theorem dX6_doShower_49 : decode cX6_doShower 49 = .ok (.iadd, 1) := by decide +kernel
theorem dX6_doShower_50 : decode cX6_doShower 50 = .ok (.iastore, 1) := by decide +kernel
theorem dX6_doShower_51 : decode cX6_doShower 51 = .ok (.aload_n 0, 1) := by decide +kernel
theorem dX6_doShower_52 : decode cX6_doShower 52 = .ok (.getfield 17, 3) := by decide +kernel
theorem dX6_doShower_55 : decode cX6_doShower 55 = .ok (.iconst 5, 1) := by decide +kernel
theorem dX6_doShower_56 : decode cX6_doShower 56 = .ok (.iaload, 1) := by decide +kernel
theorem dX6_doShower_57 : decode cX6_doShower 57 = .ok (.ireturn, 1) := by decide +kernel
theorem dX6_doSmoke_0 : decode cX6_doSmoke 0 = .ok (.bipush 31, 2) := by decide +kernel
theorem dX6_doSmoke_2 : decode cX6_doSmoke 2 = .ok (.iconst 2, 1) := by decide +kernel
theorem dX6_doSmoke_3 : decode cX6_doSmoke 3 = .ok (.aload_n 0, 1) := by decide +kernel
theorem dX6_doSmoke_4 : decode cX6_doSmoke 4 = .ok (.getfield 17, 3) := by decide +kernel
theorem dX6_doSmoke_7 : decode cX6_doSmoke 7 = .ok (.bipush 6, 2) := by decide +kernel
theorem dX6_doSmoke_9 : decode cX6_doSmoke 9 = .ok (.iaload, 1) := by decide +kernel
theorem dX6_doSmoke_10 : decode cX6_doSmoke 10 = .ok (.imul, 1) := by decide +kernel
theorem dX6_doSmoke_11 : decode cX6_doSmoke 11 = .ok (.iadd, 1) := by decide +kernel
theorem dX6_doSmoke_12 : decode cX6_doSmoke 12 = .ok (.istore_n 3, 1) := by decide +kernel
theorem dX6_doSmoke_13 : decode cX6_doSmoke 13 = .ok (.aload_n 0, 1) := by decide +kernel
theorem dX6_doSmoke_14 : decode cX6_doSmoke 14 = .ok (.getfield 17, 3) := by decide +kernel
theorem dX6_doSmoke_17 : decode cX6_doSmoke 17 = .ok (.iload_n 3, 1) := by decide +kernel
theorem dX6_doSmoke_18 : decode cX6_doSmoke 18 = .ok (.iload_n 1, 1) := by decide +kernel
theorem dX6_doSmoke_19 : decode cX6_doSmoke 19 = .ok (.iastore, 1) := by decide +kernel
theorem dX6_doSmoke_20 : decode cX6_doSmoke 20 = .ok (.aload_n 0, 1) := by decide +kernel
theorem dX6_doSmoke_21 : decode cX6_doSmoke 21 = .ok (.getfield 17, 3) := by decide +kernel
theorem dX6_doSmoke_24 : decode cX6_doSmoke 24 = .ok (.iload_n 3, 1) := by decide +kernel
theorem dX6_doSmoke_25 : decode cX6_doSmoke 25 = .ok (.iconst 1, 1) := by decide +kernel
theorem dX6_doSmoke_26 : decode cX6_doSmoke 26 = .ok (.iadd, 1) := by decide +kernel
theorem dX6_doSmoke_27 : decode cX6_doSmoke 27 = .ok (.iload_n 2, 1) := by decide +kernel
theorem dX6_doSmoke_28 : decode cX6_doSmoke 28 = .ok (.iastore, 1) := by decide +kernel
theorem dX6_doSmoke_29 : decode cX6_doSmoke 29 = .ok (.aload_n 0, 1) := by decide +kernel
theorem dX6_doSmoke_30 : decode cX6_doSmoke 30 = .ok (.getfield 17, 3) := by decide +kernel
theorem dX6_doSmoke_33 : decode cX6_doSmoke 33 = .ok (.bipush 6, 2) := by decide +kernel
theorem dX6_doSmoke_35 : decode cX6_doSmoke 35 = .ok (.dup2, 1) := by decide +kernel
theorem dX6_doSmoke_36 : decode cX6_doSmoke 36 = .ok (.iaload, 1) := by decide +kernel
theorem dX6_doSmoke_37 : decode cX6_doSmoke 37 = .ok (.iconst 1, 1) := by decide +kernel
theorem dX6_doSmoke_38 : decode cX6_doSmoke 38 = .ok (.iadd, 1) := by decide +kernel
theorem dX6_doSmoke_39 : decode cX6_doSmoke 39 = .ok (.iastore, 1) := by decide +kernel
theorem dX6_doSmoke_40 : decode cX6_doSmoke 40 = .ok (.aload_n 0, 1) := by decide +kernel
theorem dX6_doSmoke_41 : decode cX6_doSmoke 41 = .ok (.getfield 17, 3) := by decide +kernel
theorem dX6_doSmoke_44 : decode cX6_doSmoke 44 = .ok (.bipush 6, 2) := by decide +kernel
theorem dX6_doSmoke_46 : decode cX6_doSmoke 46 = .ok (.iaload, 1) := by decide +kernel
theorem dX6_doSmoke_47 : decode cX6_doSmoke 47 = .ok (.ireturn, 1) := by decide +kernel
theorem dX6_doWind_0 : decode cX6_doWind 0 = .ok (.aload_n 0, 1) := by decide +kernel
theorem dX6_doWind_1 : decode cX6_doWind 1 = .ok (.getfield 17, 3) := by decide +kernel
theorem dX6_doWind_4 : decode cX6_doWind 4 = .ok (.bipush 11, 2) := by decide +kernel
theorem dX6_doWind_6 : decode cX6_doWind 6 = .ok (.iload_n 1, 1) := by decide +kernel
theorem dX6_doWind_7 : decode cX6_doWind 7 = .ok (.iadd, 1) := by decide +kernel
theorem dX6_doWind_8 : decode cX6_doWind 8 = .ok (.iaload, 1) := by decide +kernel
theorem dX6_doWind_9 : decode cX6_doWind 9 = .ok (.istore_n 3, 1) := by decide +kernel
theorem dX6_doWind_10 : decode cX6_doWind 10 = .ok (.aload_n 0, 1) := by decide +kernel
theorem dX6_doWind_11 : decode cX6_doWind 11 = .ok (.getfield 17, 3) := by decide +kernel
theorem dX6_doWind_14 : decode cX6_doWind 14 = .ok (.bipush 11, 2) := by decide +kernel
theorem dX6_doWind_16 : decode cX6_doWind 16 = .ok (.iload_n 1, 1) := by decide +kernel
theorem dX6_doWind_17 : decode cX6_doWind 17 = .ok (.iadd, 1) := by decide +kernel
theorem dX6_doWind_18 : decode cX6_doWind 18 = .ok (.iload_n 2, 1) := by decide +kernel
theorem dX6_doWind_19 : decode cX6_doWind 19 = .ok (.iastore, 1) := by decide +kernel
theorem dX6_doWind_20 : decode cX6_doWind 20 = .ok (.iload_n 3, 1) := by decide +kernel
theorem dX6_doWind_21 : decode cX6_doWind 21 = .ok (.ireturn, 1) := by decide +kernel
theorem dX6_setIn_0 : decode cX6_setIn 0 = .ok (.iconst 0, 1) := by decide +kernel
theorem dX6_setIn_1 : decode cX6_setIn 1 = .ok (.istore_n 2, 1) := by decide +kernel
theorem dX6_setIn_2 : decode cX6_setIn 2 = .ok (.iconst 0, 1) := by decide +kernel
theorem dX6_setIn_3 : decode cX6_setIn 3 = .ok (.istore_n 3, 1) := by decide +kernel
theorem dX6_setIn_4 : decode cX6_setIn 4 = .ok (.iload_n 3, 1) := by decide +kernel
theorem dX6_setIn_5 : decode cX6_setIn 5 = .ok (.aload_n 0, 1) := by decide +kernel
theorem dX6_setIn_6 : decode cX6_setIn 6 = .ok (.getfield 17, 3) := by decide +kernel
theorem dX6_setIn_9 : decode cX6_setIn 9 = .ok (.bipush 7, 2) := by decide +kernel
theorem dX6_setIn_11 : decode cX6_setIn 11 = .ok (.iaload, 1) := by decide +kernel
theorem dX6_setIn_12 : decode cX6_setIn 12 = .ok (.if_icmp .ge 28, 3) := by decide +kernel
theorem dX6_setIn_15 : decode cX6_setIn 15 = .ok (.iload_n 2, 1) := by decide +kernel
theorem dX6_setIn_16 : decode cX6_setIn 16 = .ok (.aload_n 0, 1) := by decide +kernel
theorem dX6_setIn_17 : decode cX6_setIn 17 = .ok (.iload_n 3, 1) := by decide +kernel
theorem dX6_setIn_18 : decode cX6_setIn 18 = .ok (.iload_n 1, 1) := by decide +kernel
theorem dX6_setIn_19 : decode cX6_setIn 19 = .ok (.invokevirtual 84, 3) := by decide +kernel
theorem dX6_setIn_22 : decode cX6_setIn 22 = .ok (.ifCond .eq 9, 3) := by decide +kernel
theorem dX6_setIn_25 : decode cX6_setIn 25 = .ok (.iconst 1, 1) := by decide +kernel
theorem dX6_setIn_26 : decode cX6_setIn 26 = .ok (.iload_n 3, 1) := by decide +kernel
theorem dX6_setIn_27 : decode cX6_setIn 27 = .ok (.ishl, 1) := by decide +kernel
theorem dX6_setIn_28 : decode cX6_setIn 28 = .ok (.goto 4, 3) := by decide +kernel
theorem dX6_setIn_31 : decode cX6_setIn 31 = .ok (.iconst 0, 1) := by decide +kernel
theorem dX6_setIn_32 : decode cX6_setIn 32 = .ok (.ior, 1) := by decide +kernel
theorem dX6_setIn_33 : decode cX6_setIn 33 = .ok (.istore_n 2, 1) := by decide +kernel
theorem dX6_setIn_34 : decode cX6_setIn 34 = .ok (.iinc 3 1, 3) := by decide +kernel
theorem dX6_setIn_37 : decode cX6_setIn 37 = .ok (.goto (-33), 3) := by decide +kernel
theorem dX6_setIn_40 : decode cX6_setIn 40 = .ok (.iload_n 2, 1) := by decide +kernel
theorem dX6_setIn_41 : decode cX6_setIn 41 = .ok (.ireturn, 1) := by decide +kernel
theorem dX6_feed_0 : decode cX6_feed 0 = .ok (.aload_n 0, 1) := by decide +kernel
theorem dX6_feed_1 : decode cX6_feed 1 = .ok (.iconst 0, 1) := by decide +kernel
theorem dX6_feed_2 : decode cX6_feed 2 = .ok (.putfield 60, 3) := by decide +kernel
theorem dX6_feed_5 : decode cX6_feed 5 = .ok (.iconst 0, 1) := by decide +kernel
theorem dX6_feed_6 : decode cX6_feed 6 = .ok (.istore 6, 2) := by decide +kernel
theorem dX6_feed_8 : decode cX6_feed 8 = .ok (.iconst 0, 1) := by decide +kernel
theorem dX6_feed_9 : decode cX6_feed 9 = .ok (.istore 7, 2) := by decide +kernel
theorem dX6_feed_11 : decode cX6_feed 11 = .ok (.iload 7, 2) := by decide +kernel
theorem dX6_feed_13 : decode cX6_feed 13 = .ok (.bipush 20, 2) := by decide +kernel
theorem dX6_feed_15 : decode cX6_feed 15 = .ok (.if_icmp .ge 37, 3) := by decide +kernel
theorem dX6_feed_18 : decode cX6_feed 18 = .ok (.iload 6, 2) := by decide +kernel
theorem dX6_feed_20 : decode cX6_feed 20 = .ok (.iload_n 1, 1) := by decide +kernel
theorem dX6_feed_21 : decode cX6_feed 21 = .ok (.iload_n 2, 1) := by decide +kernel
theorem dX6_feed_22 : decode cX6_feed 22 = .ok (.iload_n 3, 1) := by decide +kernel
theorem dX6_feed_23 : decode cX6_feed 23 = .ok (.iload 4, 2) := by decide +kernel
theorem dX6_feed_25 : decode cX6_feed 25 = .ok (.iload 5, 2) := by decide +kernel
theorem dX6_feed_27 : decode cX6_feed 27 = .ok (.iload 7, 2) := by decide +kernel
theorem dX6_feed_29 : decode cX6_feed 29 = .ok (.invokestatic 156, 3) := by decide +kernel
theorem dX6_feed_32 : decode cX6_feed 32 = .ok (.ifCond .eq 7, 3) := by decide +kernel
theorem dX6_feed_35 : decode cX6_feed 35 = .ok (.iconst 1, 1) := by decide +kernel
theorem dX6_feed_36 : decode cX6_feed 36 = .ok (.goto 4, 3) := by decide +kernel
theorem dX6_feed_39 : decode cX6_feed 39 = .ok (.iconst 0, 1) := by decide +kernel
theorem dX6_feed_40 : decode cX6_feed 40 = .ok (.invokestatic 146, 3) := by decide +kernel
theorem dX6_feed_43 : decode cX6_feed 43 = .ok (.iadd, 1) := by decide +kernel
theorem dX6_feed_44 : decode cX6_feed 44 = .ok (.istore 6, 2) := by decide +kernel
theorem dX6_feed_46 : decode cX6_feed 46 = .ok (.iinc 7 1, 3) := by decide +kernel
theorem dX6_feed_49 : decode cX6_feed 49 = .ok (.goto (-38), 3) := by decide +kernel
theorem dX6_feed_52 : decode cX6_feed 52 = .ok (.aload_n 0, 1) := by decide +kernel
theorem dX6_feed_53 : decode cX6_feed 53 = .ok (.getfield 54, 3) := by decide +kernel
theorem dX6_feed_56 : decode cX6_feed 56 = .ok (.iload 6, 2) := by decide +kernel
theorem dX6_feed_58 : decode cX6_feed 58 = .ok (.iadd, 1) := by decide +kernel
theorem dX6_feed_59 : decode cX6_feed 59 = .ok (.sipush 700, 3) := by decide +kernel
theorem dX6_feed_62 : decode cX6_feed 62 = .ok (.if_icmp .le 5, 3) := by decide +kernel
theorem dX6_feed_65 : decode cX6_feed 65 = .ok (.iconst (-1), 1) := by decide +kernel
theorem dX6_feed_66 : decode cX6_feed 66 = .ok (.ireturn, 1) := by decide +kernel
theorem dX6_feed_67 : decode cX6_feed 67 = .ok (.iconst 0, 1) := by decide +kernel
theorem dX6_feed_68 : decode cX6_feed 68 = .ok (.istore 7, 2) := by decide +kernel
theorem dX6_feed_70 : decode cX6_feed 70 = .ok (.iload 7, 2) := by decide +kernel
theorem dX6_feed_72 : decode cX6_feed 72 = .ok (.bipush 20, 2) := by decide +kernel
theorem dX6_feed_74 : decode cX6_feed 74 = .ok (.if_icmp .ge 49, 3) := by decide +kernel
theorem dX6_feed_77 : decode cX6_feed 77 = .ok (.iload_n 1, 1) := by decide +kernel
theorem dX6_feed_78 : decode cX6_feed 78 = .ok (.iload_n 2, 1) := by decide +kernel
theorem dX6_feed_79 : decode cX6_feed 79 = .ok (.iload_n 3, 1) := by decide +kernel
theorem dX6_feed_80 : decode cX6_feed 80 = .ok (.iload 4, 2) := by decide +kernel
theorem dX6_feed_82 : decode cX6_feed 82 = .ok (.iload 5, 2) := by decide +kernel
theorem dX6_feed_84 : decode cX6_feed 84 = .ok (.iload 7, 2) := by decide +kernel
theorem dX6_feed_86 : decode cX6_feed 86 = .ok (.invokestatic 156, 3) := by decide +kernel
theorem dX6_feed_89 : decode cX6_feed 89 = .ok (.istore 8, 2) := by decide +kernel
theorem dX6_feed_91 : decode cX6_feed 91 = .ok (.iload 8, 2) := by decide +kernel
theorem dX6_feed_93 : decode cX6_feed 93 = .ok (.ifCond .eq 24, 3) := by decide +kernel
theorem dX6_feed_96 : decode cX6_feed 96 = .ok (.aload_n 0, 1) := by decide +kernel
theorem dX6_feed_97 : decode cX6_feed 97 = .ok (.getfield 7, 3) := by decide +kernel
theorem dX6_feed_100 : decode cX6_feed 100 = .ok (.aload_n 0, 1) := by decide +kernel
theorem dX6_feed_101 : decode cX6_feed 101 = .ok (.getfield 54, 3) := by decide +kernel
theorem dX6_feed_104 : decode cX6_feed 104 = .ok (.iload 8, 2) := by decide +kernel
theorem dX6_feed_106 : decode cX6_feed 106 = .ok (.iastore, 1) := by decide +kernel
theorem dX6_feed_107 : decode cX6_feed 107 = .ok (.aload_n 0, 1) := by decide +kernel
theorem dX6_feed_108 : decode cX6_feed 108 = .ok (.dup, 1) := by decide +kernel
theorem dX6_feed_109 : decode cX6_feed 109 = .ok (.getfield 54, 3) := by decide +kernel
theorem dX6_feed_112 : decode cX6_feed 112 = .ok (.iconst 1, 1) := by decide +kernel
theorem dX6_feed_113 : decode cX6_feed 113 = .ok (.iadd, 1) := by decide +kernel
theorem dX6_feed_114 : decode cX6_feed 114 = .ok (.putfield 54, 3) := by decide +kernel
theorem dX6_feed_117 : decode cX6_feed 117 = .ok (.iinc 7 1, 3) := by decide +kernel
theorem dX6_feed_120 : decode cX6_feed 120 = .ok (.goto (-50), 3) := by decide +kernel
theorem dX6_feed_123 : decode cX6_feed 123 = .ok (.aload_n 0, 1) := by decide +kernel
theorem dX6_feed_124 : decode cX6_feed 124 = .ok (.getfield 54, 3) := by decide +kernel
theorem dX6_feed_127 : decode cX6_feed 127 = .ok (.ireturn, 1) := by decide +kernel
theorem dX6_byteOf_0 : decode cX6_byteOf 0 = .ok (.iload 5, 2) := by decide +kernel
theorem dX6_byteOf_2 : decode cX6_byteOf 2 = .ok (.iconst 4, 1) := by decide +kernel
theorem dX6_byteOf_3 : decode cX6_byteOf 3 = .ok (.if_icmp .ge 7, 3) := by decide +kernel
theorem dX6_byteOf_6 : decode cX6_byteOf 6 = .ok (.iload_n 0, 1) := by decide +kernel
theorem dX6_byteOf_7 : decode cX6_byteOf 7 = .ok (.goto 38, 3) := by decide +kernel
theorem dX6_byteOf_10 : decode cX6_byteOf 10 = .ok (.iload 5, 2) := by decide +kernel
theorem dX6_byteOf_12 : decode cX6_byteOf 12 = .ok (.bipush 8, 2) := by decide +kernel
theorem dX6_byteOf_14 : decode cX6_byteOf 14 = .ok (.if_icmp .ge 7, 3) := by decide +kernel
theorem dX6_byteOf_17 : decode cX6_byteOf 17 = .ok (.iload_n 1, 1) := by decide +kernel
theorem dX6_byteOf_18 : decode cX6_byteOf 18 = .ok (.goto 27, 3) := by decide +kernel
theorem dX6_byteOf_21 : decode cX6_byteOf 21 = .ok (.iload 5, 2) := by decide +kernel
theorem dX6_byteOf_23 : decode cX6_byteOf 23 = .ok (.bipush 12, 2) := by decide +kernel
theorem dX6_byteOf_25 : decode cX6_byteOf 25 = .ok (.if_icmp .ge 7, 3) := by decide +kernel
theorem dX6_byteOf_28 : decode cX6_byteOf 28 = .ok (.iload_n 2, 1) := by decide +kernel
theorem dX6_byteOf_29 : decode cX6_byteOf 29 = .ok (.goto 16, 3) := by decide +kernel
theorem dX6_byteOf_32 : decode cX6_byteOf 32 = .ok (.iload 5, 2) := by decide +kernel
theorem dX6_byteOf_34 : decode cX6_byteOf 34 = .ok (.bipush 16, 2) := by decide +kernel
theorem dX6_byteOf_36 : decode cX6_byteOf 36 = .ok (.if_icmp .ge 7, 3) := by decide +kernel
theorem dX6_byteOf_39 : decode cX6_byteOf 39 = .ok (.iload_n 3, 1) := by decide +kernel
theorem dX6_byteOf_40 : decode cX6_byteOf 40 = .ok (.goto 5, 3) := by decide +kernel
theorem dX6_byteOf_43 : decode cX6_byteOf 43 = .ok (.iload 4, 2) := by decide +kernel
theorem dX6_byteOf_45 : decode cX6_byteOf 45 = .ok (.istore 6, 2) := by decide +kernel
theorem dX6_byteOf_47 : decode cX6_byteOf 47 = .ok (.iload 6, 2) := by decide +kernel
theorem dX6_byteOf_49 : decode cX6_byteOf 49 = .ok (.bipush 24, 2) := by decide +kernel
theorem dX6_byteOf_51 : decode cX6_byteOf 51 = .ok (.bipush 8, 2) := by decide +kernel
theorem dX6_byteOf_53 : decode cX6_byteOf 53 = .ok (.iload 5, 2) := by decide +kernel
theorem dX6_byteOf_55 : decode cX6_byteOf 55 = .ok (.iconst 4, 1) := by decide +kernel
theorem dX6_byteOf_56 : decode cX6_byteOf 56 = .ok (.irem, 1) := by decide +kernel
theorem dX6_byteOf_57 : decode cX6_byteOf 57 = .ok (.imul, 1) := by decide +kernel
theorem dX6_byteOf_58 : decode cX6_byteOf 58 = .ok (.isub, 1) := by decide +kernel
theorem dX6_byteOf_59 : decode cX6_byteOf 59 = .ok (.ishr, 1) := by decide +kernel
theorem dX6_byteOf_60 : decode cX6_byteOf 60 = .ok (.sipush 255, 3) := by decide +kernel
theorem dX6_byteOf_63 : decode cX6_byteOf 63 = .ok (.iand, 1) := by decide +kernel
theorem dX6_byteOf_64 : decode cX6_byteOf 64 = .ok (.ireturn, 1) := by decide +kernel
theorem dX6_isSmall_0 : decode cX6_isSmall 0 = .ok (.iload_n 0, 1) := by decide +kernel
theorem dX6_isSmall_1 : decode cX6_isSmall 1 = .ok (.bipush 97, 2) := by decide +kernel
theorem dX6_isSmall_3 : decode cX6_isSmall 3 = .ok (.bipush 122, 2) := by decide +kernel
theorem dX6_isSmall_5 : decode cX6_isSmall 5 = .ok (.invokestatic 63, 3) := by decide +kernel
theorem dX6_isSmall_8 : decode cX6_isSmall 8 = .ok (.ireturn, 1) := by decide +kernel
theorem dX6_isDigit_0 : decode cX6_isDigit 0 = .ok (.iload_n 0, 1) := by decide +kernel
theorem dX6_isDigit_1 : decode cX6_isDigit 1 = .ok (.bipush 48, 2) := by decide +kernel
theorem dX6_isDigit_3 : decode cX6_isDigit 3 = .ok (.bipush 57, 2) := by decide +kernel
theorem dX6_isDigit_5 : decode cX6_isDigit 5 = .ok (.invokestatic 63, 3) := by decide +kernel
theorem dX6_isDigit_8 : decode cX6_isDigit 8 = .ok (.ireturn, 1) := by decide +kernel
theorem dX6_next_0 : decode cX6_next 0 = .ok (.aload_n 0, 1) := by decide +kernel
theorem dX6_next_1 : decode cX6_next 1 = .ok (.getfield 160, 3) := by decide +kernel
theorem dX6_next_4 : decode cX6_next 4 = .ok (.aload_n 0, 1) := by decide +kernel
theorem dX6_next_5 : decode cX6_next 5 = .ok (.getfield 54, 3) := by decide +kernel
theorem dX6_next_8 : decode cX6_next 8 = .ok (.if_icmp .ge 44, 3) := by decide +kernel
theorem dX6_next_11 : decode cX6_next 11 = .ok (.aload_n 0, 1) := by decide +kernel
theorem dX6_next_12 : decode cX6_next 12 = .ok (.getfield 7, 3) := by decide +kernel
theorem dX6_next_15 : decode cX6_next 15 = .ok (.aload_n 0, 1) := by decide +kernel
theorem dX6_next_16 : decode cX6_next 16 = .ok (.getfield 160, 3) := by decide +kernel
theorem dX6_next_19 : decode cX6_next 19 = .ok (.iaload, 1) := by decide +kernel
theorem dX6_next_20 : decode cX6_next 20 = .ok (.bipush 32, 2) := by decide +kernel
theorem dX6_next_22 : decode cX6_next 22 = .ok (.if_icmp .eq 17, 3) := by decide +kernel
theorem dX6_next_25 : decode cX6_next 25 = .ok (.aload_n 0, 1) := by decide +kernel
theorem dX6_next_26 : decode cX6_next 26 = .ok (.getfield 7, 3) := by decide +kernel
theorem dX6_next_29 : decode cX6_next 29 = .ok (.aload_n 0, 1) := by decide +kernel
theorem dX6_next_30 : decode cX6_next 30 = .ok (.getfield 160, 3) := by decide +kernel
theorem dX6_next_33 : decode cX6_next 33 = .ok (.iaload, 1) := by decide +kernel
theorem dX6_next_34 : decode cX6_next 34 = .ok (.bipush 10, 2) := by decide +kernel
theorem dX6_next_36 : decode cX6_next 36 = .ok (.if_icmp .ne 16, 3) := by decide +kernel
theorem dX6_next_39 : decode cX6_next 39 = .ok (.aload_n 0, 1) := by decide +kernel
theorem dX6_next_40 : decode cX6_next 40 = .ok (.dup, 1) := by decide +kernel
theorem dX6_next_41 : decode cX6_next 41 = .ok (.getfield 160, 3) := by decide +kernel
theorem dX6_next_44 : decode cX6_next 44 = .ok (.iconst 1, 1) := by decide +kernel
theorem dX6_next_45 : decode cX6_next 45 = .ok (.iadd, 1) := by decide +kernel
theorem dX6_next_46 : decode cX6_next 46 = .ok (.putfield 160, 3) := by decide +kernel
theorem dX6_next_49 : decode cX6_next 49 = .ok (.goto (-49), 3) := by decide +kernel
theorem dX6_next_52 : decode cX6_next 52 = .ok (.aload_n 0, 1) := by decide +kernel
theorem dX6_next_53 : decode cX6_next 53 = .ok (.aload_n 0, 1) := by decide +kernel
theorem dX6_next_54 : decode cX6_next 54 = .ok (.getfield 160, 3) := by decide +kernel
theorem dX6_next_57 : decode cX6_next 57 = .ok (.putfield 163, 3) := by decide +kernel
theorem dX6_next_60 : decode cX6_next 60 = .ok (.aload_n 0, 1) := by decide +kernel
theorem dX6_next_61 : decode cX6_next 61 = .ok (.getfield 160, 3) := by decide +kernel
theorem dX6_next_64 : decode cX6_next 64 = .ok (.aload_n 0, 1) := by decide +kernel
theorem dX6_next_65 : decode cX6_next 65 = .ok (.getfield 54, 3) := by decide +kernel
theorem dX6_next_68 : decode cX6_next 68 = .ok (.if_icmp .ne 9, 3) := by decide +kernel
theorem dX6_next_71 : decode cX6_next 71 = .ok (.aload_n 0, 1) := by decide +kernel
theorem dX6_next_72 : decode cX6_next 72 = .ok (.iconst 4, 1) := by decide +kernel
theorem dX6_next_73 : decode cX6_next 73 = .ok (.putfield 166, 3) := by decide +kernel
theorem dX6_next_76 : decode cX6_next 76 = .ok (.return_, 1) := by decide +kernel
theorem dX6_next_77 : decode cX6_next 77 = .ok (.aload_n 0, 1) := by decide +kernel
theorem dX6_next_78 : decode cX6_next 78 = .ok (.getfield 7, 3) := by decide +kernel
theorem dX6_next_81 : decode cX6_next 81 = .ok (.aload_n 0, 1) := by decide +kernel
theorem dX6_next_82 : decode cX6_next 82 = .ok (.getfield 160, 3) := by decide +kernel
theorem dX6_next_85 : decode cX6_next 85 = .ok (.iaload, 1) := by decide +kernel
theorem dX6_next_86 : decode cX6_next 86 = .ok (.istore_n 1, 1) := by decide +kernel
theorem dX6_next_87 : decode cX6_next 87 = .ok (.aload_n 0, 1) := by decide +kernel
theorem dX6_next_88 : decode cX6_next 88 = .ok (.dup, 1) := by decide +kernel
theorem dX6_next_89 : decode cX6_next 89 = .ok (.getfield 160, 3) := by decide +kernel
theorem dX6_next_92 : decode cX6_next 92 = .ok (.iconst 1, 1) := by decide +kernel
theorem dX6_next_93 : decode cX6_next 93 = .ok (.iadd, 1) := by decide +kernel
theorem dX6_next_94 : decode cX6_next 94 = .ok (.putfield 160, 3) := by decide +kernel
theorem dX6_next_97 : decode cX6_next 97 = .ok (.iload_n 1, 1) := by decide +kernel
theorem dX6_next_98 : decode cX6_next 98 = .ok (.invokestatic 169, 3) := by decide +kernel
theorem dX6_next_101 : decode cX6_next 101 = .ok (.ifCond .eq 47, 3) := by decide +kernel
theorem dX6_next_104 : decode cX6_next 104 = .ok (.aload_n 0, 1) := by decide +kernel
theorem dX6_next_105 : decode cX6_next 105 = .ok (.iconst 0, 1) := by decide +kernel
theorem dX6_next_106 : decode cX6_next 106 = .ok (.putfield 166, 3) := by decide +kernel
theorem dX6_next_109 : decode cX6_next 109 = .ok (.aload_n 0, 1) := by decide +kernel
theorem dX6_next_110 : decode cX6_next 110 = .ok (.getfield 160, 3) := by decide +kernel
theorem dX6_next_113 : decode cX6_next 113 = .ok (.aload_n 0, 1) := by decide +kernel
theorem dX6_next_114 : decode cX6_next 114 = .ok (.getfield 54, 3) := by decide +kernel
theorem dX6_next_117 : decode cX6_next 117 = .ok (.if_icmp .ge 144, 3) := by decide +kernel
theorem dX6_next_120 : decode cX6_next 120 = .ok (.aload_n 0, 1) := by decide +kernel
theorem dX6_next_121 : decode cX6_next 121 = .ok (.getfield 7, 3) := by decide +kernel
theorem dX6_next_124 : decode cX6_next 124 = .ok (.aload_n 0, 1) := by decide +kernel
theorem dX6_next_125 : decode cX6_next 125 = .ok (.getfield 160, 3) := by decide +kernel
theorem dX6_next_128 : decode cX6_next 128 = .ok (.iaload, 1) := by decide +kernel
theorem dX6_next_129 : decode cX6_next 129 = .ok (.invokestatic 169, 3) := by decide +kernel
theorem dX6_next_132 : decode cX6_next 132 = .ok (.ifCond .eq 129, 3) := by decide +kernel
theorem dX6_next_135 : decode cX6_next 135 = .ok (.aload_n 0, 1) := by decide +kernel
theorem dX6_next_136 : decode cX6_next 136 = .ok (.dup, 1) := by decide +kernel
theorem dX6_next_137 : decode cX6_next 137 = .ok (.getfield 160, 3) := by decide +kernel
theorem dX6_next_140 : decode cX6_next 140 = .ok (.iconst 1, 1) := by decide +kernel
theorem dX6_next_141 : decode cX6_next 141 = .ok (.iadd, 1) := by decide +kernel
theorem dX6_next_142 : decode cX6_next 142 = .ok (.putfield 160, 3) := by decide +kernel
theorem dX6_next_145 : decode cX6_next 145 = .ok (.goto (-36), 3) := by decide +kernel
theorem dX6_next_148 : decode cX6_next 148 = .ok (.iload_n 1, 1) := by decide +kernel
theorem dX6_next_149 : decode cX6_next 149 = .ok (.invokestatic 172, 3) := by decide +kernel
theorem dX6_next_152 : decode cX6_next 152 = .ok (.ifCond .eq 94, 3) := by decide +kernel
theorem dX6_next_155 : decode cX6_next 155 = .ok (.aload_n 0, 1) := by decide +kernel
theorem dX6_next_156 : decode cX6_next 156 = .ok (.iconst 1, 1) := by decide +kernel
theorem dX6_next_157 : decode cX6_next 157 = .ok (.putfield 166, 3) := by decide +kernel
theorem dX6_next_160 : decode cX6_next 160 = .ok (.aload_n 0, 1) := by decide +kernel
theorem dX6_next_161 : decode cX6_next 161 = .ok (.iload_n 1, 1) := by decide +kernel
theorem dX6_next_162 : decode cX6_next 162 = .ok (.bipush 48, 2) := by decide +kernel
theorem dX6_next_164 : decode cX6_next 164 = .ok (.isub, 1) := by decide +kernel
theorem dX6_next_165 : decode cX6_next 165 = .ok (.putfield 175, 3) := by decide +kernel
theorem dX6_next_168 : decode cX6_next 168 = .ok (.aload_n 0, 1) := by decide +kernel
theorem dX6_next_169 : decode cX6_next 169 = .ok (.getfield 160, 3) := by decide +kernel
theorem dX6_next_172 : decode cX6_next 172 = .ok (.aload_n 0, 1) := by decide +kernel
theorem dX6_next_173 : decode cX6_next 173 = .ok (.getfield 54, 3) := by decide +kernel
theorem dX6_next_176 : decode cX6_next 176 = .ok (.if_icmp .ge 85, 3) := by decide +kernel
theorem dX6_next_179 : decode cX6_next 179 = .ok (.aload_n 0, 1) := by decide +kernel
theorem dX6_next_180 : decode cX6_next 180 = .ok (.getfield 7, 3) := by decide +kernel
theorem dX6_next_183 : decode cX6_next 183 = .ok (.aload_n 0, 1) := by decide +kernel
theorem dX6_next_184 : decode cX6_next 184 = .ok (.getfield 160, 3) := by decide +kernel
theorem dX6_next_187 : decode cX6_next 187 = .ok (.iaload, 1) := by decide +kernel
theorem dX6_next_188 : decode cX6_next 188 = .ok (.invokestatic 172, 3) := by decide +kernel
theorem dX6_next_191 : decode cX6_next 191 = .ok (.ifCond .eq 70, 3) := by decide +kernel
theorem dX6_next_194 : decode cX6_next 194 = .ok (.aload_n 0, 1) := by decide +kernel
theorem dX6_next_195 : decode cX6_next 195 = .ok (.aload_n 0, 1) := by decide +kernel
theorem dX6_next_196 : decode cX6_next 196 = .ok (.getfield 175, 3) := by decide +kernel
theorem dX6_next_199 : decode cX6_next 199 = .ok (.sipush 9999, 3) := by decide +kernel
theorem dX6_next_202 : decode cX6_next 202 = .ok (.if_icmp .le 8, 3) := by decide +kernel
theorem dX6_next_205 : decode cX6_next 205 = .ok (.ldc 178, 2) := by decide +kernel
theorem dX6_next_207 : decode cX6_next 207 = .ok (.goto 23, 3) := by decide +kernel
theorem dX6_next_210 : decode cX6_next 210 = .ok (.bipush 10, 2) := by decide +kernel
theorem dX6_next_212 : decode cX6_next 212 = .ok (.aload_n 0, 1) := by decide +kernel
theorem dX6_next_213 : decode cX6_next 213 = .ok (.getfield 175, 3) := by decide +kernel
theorem dX6_next_216 : decode cX6_next 216 = .ok (.imul, 1) := by decide +kernel
theorem dX6_next_217 : decode cX6_next 217 = .ok (.aload_n 0, 1) := by decide +kernel
theorem dX6_next_218 : decode cX6_next 218 = .ok (.getfield 7, 3) := by decide +kernel
theorem dX6_next_221 : decode cX6_next 221 = .ok (.aload_n 0, 1) := by decide +kernel
theorem dX6_next_222 : decode cX6_next 222 = .ok (.getfield 160, 3) := by decide +kernel
theorem dX6_next_225 : decode cX6_next 225 = .ok (.iaload, 1) := by decide +kernel
theorem dX6_next_226 : decode cX6_next 226 = .ok (.iadd, 1) := by decide +kernel
theorem dX6_next_227 : decode cX6_next 227 = .ok (.bipush 48, 2) := by decide +kernel
theorem dX6_next_229 : decode cX6_next 229 = .ok (.isub, 1) := by decide +kernel
theorem dX6_next_230 : decode cX6_next 230 = .ok (.putfield 175, 3) := by decide +kernel
theorem dX6_next_233 : decode cX6_next 233 = .ok (.aload_n 0, 1) := by decide +kernel
theorem dX6_next_234 : decode cX6_next 234 = .ok (.dup, 1) := by decide +kernel
theorem dX6_next_235 : decode cX6_next 235 = .ok (.getfield 160, 3) := by decide +kernel
theorem dX6_next_238 : decode cX6_next 238 = .ok (.iconst 1, 1) := by decide +kernel
theorem dX6_next_239 : decode cX6_next 239 = .ok (.iadd, 1) := by decide +kernel
theorem dX6_next_240 : decode cX6_next 240 = .ok (.putfield 160, 3) := by decide +kernel
theorem dX6_next_243 : decode cX6_next 243 = .ok (.goto (-75), 3) := by decide +kernel
theorem dX6_next_246 : decode cX6_next 246 = .ok (.aload_n 0, 1) := by decide +kernel
theorem dX6_next_247 : decode cX6_next 247 = .ok (.iload_n 1, 1) := by decide +kernel
theorem dX6_next_248 : decode cX6_next 248 = .ok (.bipush 59, 2) := by decide +kernel
theorem dX6_next_250 : decode cX6_next 250 = .ok (.if_icmp .ne 7, 3) := by decide +kernel
theorem dX6_next_253 : decode cX6_next 253 = .ok (.iconst 2, 1) := by decide +kernel
theorem dX6_next_254 : decode cX6_next 254 = .ok (.goto 4, 3) := by decide +kernel
theorem dX6_next_257 : decode cX6_next 257 = .ok (.iconst 3, 1) := by decide +kernel
theorem dX6_next_258 : decode cX6_next 258 = .ok (.putfield 166, 3) := by decide +kernel
theorem dX6_next_261 : decode cX6_next 261 = .ok (.return_, 1) := by decide +kernel
theorem dX6_wrong_0 : decode cX6_wrong 0 = .ok (.aload_n 0, 1) := by decide +kernel
theorem dX6_wrong_1 : decode cX6_wrong 1 = .ok (.iload_n 1, 1) := by decide +kernel
theorem dX6_wrong_2 : decode cX6_wrong 2 = .ok (.putfield 179, 3) := by decide +kernel
theorem dX6_wrong_5 : decode cX6_wrong 5 = .ok (.aload_n 0, 1) := by decide +kernel
theorem dX6_wrong_6 : decode cX6_wrong 6 = .ok (.aload_n 0, 1) := by decide +kernel
theorem dX6_wrong_7 : decode cX6_wrong 7 = .ok (.getfield 163, 3) := by decide +kernel
theorem dX6_wrong_10 : decode cX6_wrong 10 = .ok (.putfield 13, 3) := by decide +kernel
theorem dX6_wrong_13 : decode cX6_wrong 13 = .ok (.iconst 0, 1) := by decide +kernel
theorem dX6_wrong_14 : decode cX6_wrong 14 = .ok (.ireturn, 1) := by decide +kernel
theorem dX6_isWord_0 : decode cX6_isWord 0 = .ok (.aload_n 0, 1) := by decide +kernel
theorem dX6_isWord_1 : decode cX6_isWord 1 = .ok (.getfield 166, 3) := by decide +kernel
theorem dX6_isWord_4 : decode cX6_isWord 4 = .ok (.ifCond .ne 19, 3) := by decide +kernel
theorem dX6_isWord_7 : decode cX6_isWord 7 = .ok (.aload_n 0, 1) := by decide +kernel
theorem dX6_isWord_8 : decode cX6_isWord 8 = .ok (.getfield 160, 3) := by decide +kernel
theorem dX6_isWord_11 : decode cX6_isWord 11 = .ok (.aload_n 0, 1) := by decide +kernel
theorem dX6_isWord_12 : decode cX6_isWord 12 = .ok (.getfield 163, 3) := by decide +kernel
theorem dX6_isWord_15 : decode cX6_isWord 15 = .ok (.isub, 1) := by decide +kernel
theorem dX6_isWord_16 : decode cX6_isWord 16 = .ok (.aload_n 1, 1) := by decide +kernel
theorem dX6_isWord_17 : decode cX6_isWord 17 = .ok (.invokevirtual 44, 3) := by decide +kernel
theorem dX6_isWord_20 : decode cX6_isWord 20 = .ok (.if_icmp .eq 5, 3) := by decide +kernel
theorem dX6_isWord_23 : decode cX6_isWord 23 = .ok (.iconst 0, 1) := by decide +kernel
theorem dX6_isWord_24 : decode cX6_isWord 24 = .ok (.ireturn, 1) := by decide +kernel
theorem dX6_isWord_25 : decode cX6_isWord 25 = .ok (.iconst 0, 1) := by decide +kernel
theorem dX6_isWord_26 : decode cX6_isWord 26 = .ok (.istore_n 2, 1) := by decide +kernel
theorem dX6_isWord_27 : decode cX6_isWord 27 = .ok (.iconst 0, 1) := by decide +kernel
theorem dX6_isWord_28 : decode cX6_isWord 28 = .ok (.istore_n 3, 1) := by decide +kernel
theorem dX6_isWord_29 : decode cX6_isWord 29 = .ok (.iload_n 3, 1) := by decide +kernel
theorem dX6_isWord_30 : decode cX6_isWord 30 = .ok (.aload_n 1, 1) := by decide +kernel
theorem dX6_isWord_31 : decode cX6_isWord 31 = .ok (.invokevirtual 44, 3) := by decide +kernel
theorem dX6_isWord_34 : decode cX6_isWord 34 = .ok (.if_icmp .ge 39, 3) := by decide +kernel
theorem dX6_isWord_37 : decode cX6_isWord 37 = .ok (.iload_n 2, 1) := by decide +kernel
theorem dX6_isWord_38 : decode cX6_isWord 38 = .ok (.aload_n 0, 1) := by decide +kernel
theorem dX6_isWord_39 : decode cX6_isWord 39 = .ok (.getfield 7, 3) := by decide +kernel
theorem dX6_isWord_42 : decode cX6_isWord 42 = .ok (.aload_n 0, 1) := by decide +kernel
theorem dX6_isWord_43 : decode cX6_isWord 43 = .ok (.getfield 163, 3) := by decide +kernel
theorem dX6_isWord_46 : decode cX6_isWord 46 = .ok (.iload_n 3, 1) := by decide +kernel
theorem dX6_isWord_47 : decode cX6_isWord 47 = .ok (.iadd, 1) := by decide +kernel
theorem dX6_isWord_48 : decode cX6_isWord 48 = .ok (.iaload, 1) := by decide +kernel
theorem dX6_isWord_49 : decode cX6_isWord 49 = .ok (.aload_n 1, 1) := by decide +kernel
theorem dX6_isWord_50 : decode cX6_isWord 50 = .ok (.iload_n 3, 1) := by decide +kernel
theorem dX6_isWord_51 : decode cX6_isWord 51 = .ok (.invokevirtual 50, 3) := by decide +kernel
theorem dX6_isWord_54 : decode cX6_isWord 54 = .ok (.if_icmp .ne 7, 3) := by decide +kernel
theorem dX6_isWord_57 : decode cX6_isWord 57 = .ok (.iconst 1, 1) := by decide +kernel
theorem dX6_isWord_58 : decode cX6_isWord 58 = .ok (.goto 4, 3) := by decide +kernel
theorem dX6_isWord_61 : decode cX6_isWord 61 = .ok (.iconst 0, 1) := by decide +kernel
theorem dX6_isWord_62 : decode cX6_isWord 62 = .ok (.invokestatic 146, 3) := by decide +kernel
theorem dX6_isWord_65 : decode cX6_isWord 65 = .ok (.iadd, 1) := by decide +kernel
theorem dX6_isWord_66 : decode cX6_isWord 66 = .ok (.istore_n 2, 1) := by decide +kernel
theorem dX6_isWord_67 : decode cX6_isWord 67 = .ok (.iinc 3 1, 3) := by decide +kernel
theorem dX6_isWord_70 : decode cX6_isWord 70 = .ok (.goto (-41), 3) := by decide +kernel
theorem dX6_isWord_73 : decode cX6_isWord 73 = .ok (.iload_n 2, 1) := by decide +kernel
theorem dX6_isWord_74 : decode cX6_isWord 74 = .ok (.aload_n 1, 1) := by decide +kernel
theorem dX6_isWord_75 : decode cX6_isWord 75 = .ok (.invokevirtual 44, 3) := by decide +kernel
theorem dX6_isWord_78 : decode cX6_isWord 78 = .ok (.if_icmp .ne 7, 3) := by decide +kernel
theorem dX6_isWord_81 : decode cX6_isWord 81 = .ok (.iconst 1, 1) := by decide +kernel
theorem dX6_isWord_82 : decode cX6_isWord 82 = .ok (.goto 4, 3) := by decide +kernel
theorem dX6_isWord_85 : decode cX6_isWord 85 = .ok (.iconst 0, 1) := by decide +kernel
theorem dX6_isWord_86 : decode cX6_isWord 86 = .ok (.ireturn, 1) := by decide +kernel
theorem dX6_expects_0 : decode cX6_expects 0 = .ok (.aload_n 0, 1) := by decide +kernel
theorem dX6_expects_1 : decode cX6_expects 1 = .ok (.aload_n 1, 1) := by decide +kernel
theorem dX6_expects_2 : decode cX6_expects 2 = .ok (.invokevirtual 182, 3) := by decide +kernel
theorem dX6_expects_5 : decode cX6_expects 5 = .ok (.ifCond .ne 9, 3) := by decide +kernel
theorem dX6_expects_8 : decode cX6_expects 8 = .ok (.aload_n 0, 1) := by decide +kernel
theorem dX6_expects_9 : decode cX6_expects 9 = .ok (.iconst 1, 1) := by decide +kernel
theorem dX6_expects_10 : decode cX6_expects 10 = .ok (.invokevirtual 186, 3) := by decide +kernel
theorem dX6_expects_13 : decode cX6_expects 13 = .ok (.ireturn, 1) := by decide +kernel
theorem dX6_expects_14 : decode cX6_expects 14 = .ok (.aload_n 0, 1) := by decide +kernel
theorem dX6_expects_15 : decode cX6_expects 15 = .ok (.invokevirtual 189, 3) := by decide +kernel
theorem dX6_expects_18 : decode cX6_expects 18 = .ok (.iconst 1, 1) := by decide +kernel
theorem dX6_expects_19 : decode cX6_expects 19 = .ok (.ireturn, 1) := by decide +kernel
theorem dX6_numberIn_0 : decode cX6_numberIn 0 = .ok (.aload_n 0, 1) := by decide +kernel
theorem dX6_numberIn_1 : decode cX6_numberIn 1 = .ok (.getfield 166, 3) := by decide +kernel
theorem dX6_numberIn_4 : decode cX6_numberIn 4 = .ok (.iconst 1, 1) := by decide +kernel
theorem dX6_numberIn_5 : decode cX6_numberIn 5 = .ok (.if_icmp .eq 9, 3) := by decide +kernel
theorem dX6_numberIn_8 : decode cX6_numberIn 8 = .ok (.aload_n 0, 1) := by decide +kernel
theorem dX6_numberIn_9 : decode cX6_numberIn 9 = .ok (.iconst 1, 1) := by decide +kernel
theorem dX6_numberIn_10 : decode cX6_numberIn 10 = .ok (.invokevirtual 186, 3) := by decide +kernel
theorem dX6_numberIn_13 : decode cX6_numberIn 13 = .ok (.ireturn, 1) := by decide +kernel
theorem dX6_numberIn_14 : decode cX6_numberIn 14 = .ok (.aload_n 0, 1) := by decide +kernel
theorem dX6_numberIn_15 : decode cX6_numberIn 15 = .ok (.getfield 175, 3) := by decide +kernel
theorem dX6_numberIn_18 : decode cX6_numberIn 18 = .ok (.iload_n 1, 1) := by decide +kernel
theorem dX6_numberIn_19 : decode cX6_numberIn 19 = .ok (.iload_n 2, 1) := by decide +kernel
theorem dX6_numberIn_20 : decode cX6_numberIn 20 = .ok (.invokestatic 63, 3) := by decide +kernel
theorem dX6_numberIn_23 : decode cX6_numberIn 23 = .ok (.ifCond .ne 11, 3) := by decide +kernel
theorem dX6_numberIn_26 : decode cX6_numberIn 26 = .ok (.aload_n 0, 1) := by decide +kernel
theorem dX6_numberIn_27 : decode cX6_numberIn 27 = .ok (.iconst 2, 1) := by decide +kernel
theorem dX6_numberIn_28 : decode cX6_numberIn 28 = .ok (.invokevirtual 186, 3) := by decide +kernel
theorem dX6_numberIn_31 : decode cX6_numberIn 31 = .ok (.ifCond .eq 7, 3) := by decide +kernel
theorem dX6_numberIn_34 : decode cX6_numberIn 34 = .ok (.iconst 1, 1) := by decide +kernel
theorem dX6_numberIn_35 : decode cX6_numberIn 35 = .ok (.goto 4, 3) := by decide +kernel
theorem dX6_numberIn_38 : decode cX6_numberIn 38 = .ok (.iconst 0, 1) := by decide +kernel
theorem dX6_numberIn_39 : decode cX6_numberIn 39 = .ok (.ireturn, 1) := by decide +kernel
theorem dX6_isEnd_0 : decode cX6_isEnd 0 = .ok (.aload_n 0, 1) := by decide +kernel
theorem dX6_isEnd_1 : decode cX6_isEnd 1 = .ok (.getfield 166, 3) := by decide +kernel
theorem dX6_isEnd_4 : decode cX6_isEnd 4 = .ok (.iconst 2, 1) := by decide +kernel
theorem dX6_isEnd_5 : decode cX6_isEnd 5 = .ok (.if_icmp .eq 11, 3) := by decide +kernel
theorem dX6_isEnd_8 : decode cX6_isEnd 8 = .ok (.aload_n 0, 1) := by decide +kernel
theorem dX6_isEnd_9 : decode cX6_isEnd 9 = .ok (.iconst 1, 1) := by decide +kernel
theorem dX6_isEnd_10 : decode cX6_isEnd 10 = .ok (.invokevirtual 186, 3) := by decide +kernel
theorem dX6_isEnd_13 : decode cX6_isEnd 13 = .ok (.ifCond .eq 7, 3) := by decide +kernel
theorem dX6_isEnd_16 : decode cX6_isEnd 16 = .ok (.iconst 1, 1) := by decide +kernel
theorem dX6_isEnd_17 : decode cX6_isEnd 17 = .ok (.goto 4, 3) := by decide +kernel
theorem dX6_isEnd_20 : decode cX6_isEnd 20 = .ok (.iconst 0, 1) := by decide +kernel
theorem dX6_isEnd_21 : decode cX6_isEnd 21 = .ok (.ireturn, 1) := by decide +kernel
theorem dX6_semicolon_0 : decode cX6_semicolon 0 = .ok (.aload_n 0, 1) := by decide +kernel
theorem dX6_semicolon_1 : decode cX6_semicolon 1 = .ok (.invokevirtual 192, 3) := by decide +kernel
theorem dX6_semicolon_4 : decode cX6_semicolon 4 = .ok (.ifCond .ne 5, 3) := by decide +kernel
theorem dX6_semicolon_7 : decode cX6_semicolon 7 = .ok (.iconst 0, 1) := by decide +kernel
theorem dX6_semicolon_8 : decode cX6_semicolon 8 = .ok (.ireturn, 1) := by decide +kernel
theorem dX6_semicolon_9 : decode cX6_semicolon 9 = .ok (.aload_n 0, 1) := by decide +kernel
theorem dX6_semicolon_10 : decode cX6_semicolon 10 = .ok (.invokevirtual 189, 3) := by decide +kernel
theorem dX6_semicolon_13 : decode cX6_semicolon 13 = .ok (.iconst 1, 1) := by decide +kernel
theorem dX6_semicolon_14 : decode cX6_semicolon 14 = .ok (.ireturn, 1) := by decide +kernel
theorem dX6_startText_0 : decode cX6_startText 0 = .ok (.aload_n 0, 1) := by decide +kernel
theorem dX6_startText_1 : decode cX6_startText 1 = .ok (.iconst 0, 1) := by decide +kernel
theorem dX6_startText_2 : decode cX6_startText 2 = .ok (.putfield 179, 3) := by decide +kernel
theorem dX6_startText_5 : decode cX6_startText 5 = .ok (.aload_n 0, 1) := by decide +kernel
theorem dX6_startText_6 : decode cX6_startText 6 = .ok (.iconst (-1), 1) := by decide +kernel
theorem dX6_startText_7 : decode cX6_startText 7 = .ok (.putfield 13, 3) := by decide +kernel
theorem dX6_startText_10 : decode cX6_startText 10 = .ok (.aload_n 0, 1) := by decide +kernel
theorem dX6_startText_11 : decode cX6_startText 11 = .ok (.iconst 0, 1) := by decide +kernel
theorem dX6_startText_12 : decode cX6_startText 12 = .ok (.putfield 160, 3) := by decide +kernel
theorem dX6_startText_15 : decode cX6_startText 15 = .ok (.aload_n 0, 1) := by decide +kernel
theorem dX6_startText_16 : decode cX6_startText 16 = .ok (.invokevirtual 189, 3) := by decide +kernel
theorem dX6_startText_19 : decode cX6_startText 19 = .ok (.return_, 1) := by decide +kernel
theorem dX6_into_0 : decode cX6_into 0 = .ok (.aload_n 0, 1) := by decide +kernel
theorem dX6_into_1 : decode cX6_into 1 = .ok (.iload_n 2, 1) := by decide +kernel
theorem dX6_into_2 : decode cX6_into 2 = .ok (.iload_n 3, 1) := by decide +kernel
theorem dX6_into_3 : decode cX6_into 3 = .ok (.invokevirtual 196, 3) := by decide +kernel
theorem dX6_into_6 : decode cX6_into 6 = .ok (.ifCond .ne 5, 3) := by decide +kernel
theorem dX6_into_9 : decode cX6_into 9 = .ok (.iconst 0, 1) := by decide +kernel
theorem dX6_into_10 : decode cX6_into 10 = .ok (.ireturn, 1) := by decide +kernel
theorem dX6_into_11 : decode cX6_into 11 = .ok (.aload_n 0, 1) := by decide +kernel
theorem dX6_into_12 : decode cX6_into 12 = .ok (.getfield 36, 3) := by decide +kernel
theorem dX6_into_15 : decode cX6_into 15 = .ok (.iload_n 1, 1) := by decide +kernel
theorem dX6_into_16 : decode cX6_into 16 = .ok (.aload_n 0, 1) := by decide +kernel
theorem dX6_into_17 : decode cX6_into 17 = .ok (.getfield 175, 3) := by decide +kernel
theorem dX6_into_20 : decode cX6_into 20 = .ok (.iastore, 1) := by decide +kernel
theorem dX6_into_21 : decode cX6_into 21 = .ok (.aload_n 0, 1) := by decide +kernel
theorem dX6_into_22 : decode cX6_into 22 = .ok (.invokevirtual 189, 3) := by decide +kernel
theorem dX6_into_25 : decode cX6_into 25 = .ok (.iconst 1, 1) := by decide +kernel
theorem dX6_into_26 : decode cX6_into 26 = .ok (.ireturn, 1) := by decide +kernel
theorem dX6_setupText_0 : decode cX6_setupText 0 = .ok (.aload_n 0, 1) := by decide +kernel
theorem dX6_setupText_1 : decode cX6_setupText 1 = .ok (.ldc 199, 2) := by decide +kernel
theorem dX6_setupText_3 : decode cX6_setupText 3 = .ok (.invokevirtual 201, 3) := by decide +kernel
theorem dX6_setupText_6 : decode cX6_setupText 6 = .ok (.ifCond .eq 43, 3) := by decide +kernel
theorem dX6_setupText_9 : decode cX6_setupText 9 = .ok (.aload_n 0, 1) := by decide +kernel
theorem dX6_setupText_10 : decode cX6_setupText 10 = .ok (.iconst 0, 1) := by decide +kernel
theorem dX6_setupText_11 : decode cX6_setupText 11 = .ok (.iconst 0, 1) := by decide +kernel
theorem dX6_setupText_12 : decode cX6_setupText 12 = .ok (.bipush 30, 2) := by decide +kernel
theorem dX6_setupText_14 : decode cX6_setupText 14 = .ok (.invokevirtual 204, 3) := by decide +kernel
theorem dX6_setupText_17 : decode cX6_setupText 17 = .ok (.ifCond .eq 32, 3) := by decide +kernel
theorem dX6_setupText_20 : decode cX6_setupText 20 = .ok (.aload_n 0, 1) := by decide +kernel
theorem dX6_setupText_21 : decode cX6_setupText 21 = .ok (.iconst 1, 1) := by decide +kernel
theorem dX6_setupText_22 : decode cX6_setupText 22 = .ok (.iconst 0, 1) := by decide +kernel
theorem dX6_setupText_23 : decode cX6_setupText 23 = .ok (.bipush 30, 2) := by decide +kernel
theorem dX6_setupText_25 : decode cX6_setupText 25 = .ok (.invokevirtual 204, 3) := by decide +kernel
theorem dX6_setupText_28 : decode cX6_setupText 28 = .ok (.ifCond .eq 21, 3) := by decide +kernel
theorem dX6_setupText_31 : decode cX6_setupText 31 = .ok (.aload_n 0, 1) := by decide +kernel
theorem dX6_setupText_32 : decode cX6_setupText 32 = .ok (.iconst 2, 1) := by decide +kernel
theorem dX6_setupText_33 : decode cX6_setupText 33 = .ok (.iconst 0, 1) := by decide +kernel
theorem dX6_setupText_34 : decode cX6_setupText 34 = .ok (.bipush 24, 2) := by decide +kernel
theorem dX6_setupText_36 : decode cX6_setupText 36 = .ok (.invokevirtual 204, 3) := by decide +kernel
theorem dX6_setupText_39 : decode cX6_setupText 39 = .ok (.ifCond .eq 10, 3) := by decide +kernel
theorem dX6_setupText_42 : decode cX6_setupText 42 = .ok (.aload_n 0, 1) := by decide +kernel
theorem dX6_setupText_43 : decode cX6_setupText 43 = .ok (.invokevirtual 207, 3) := by decide +kernel
theorem dX6_setupText_46 : decode cX6_setupText 46 = .ok (.ifCond .ne 5, 3) := by decide +kernel
theorem dX6_setupText_49 : decode cX6_setupText 49 = .ok (.iconst 0, 1) := by decide +kernel
theorem dX6_setupText_50 : decode cX6_setupText 50 = .ok (.ireturn, 1) := by decide +kernel
theorem dX6_setupText_51 : decode cX6_setupText 51 = .ok (.aload_n 0, 1) := by decide +kernel
theorem dX6_setupText_52 : decode cX6_setupText 52 = .ok (.getfield 17, 3) := by decide +kernel
theorem dX6_setupText_55 : decode cX6_setupText 55 = .ok (.iconst 2, 1) := by decide +kernel
theorem dX6_setupText_56 : decode cX6_setupText 56 = .ok (.aload_n 0, 1) := by decide +kernel
theorem dX6_setupText_57 : decode cX6_setupText 57 = .ok (.getfield 36, 3) := by decide +kernel
theorem dX6_setupText_60 : decode cX6_setupText 60 = .ok (.iconst 0, 1) := by decide +kernel
theorem dX6_setupText_61 : decode cX6_setupText 61 = .ok (.iaload, 1) := by decide +kernel
theorem dX6_setupText_62 : decode cX6_setupText 62 = .ok (.iastore, 1) := by decide +kernel
theorem dX6_setupText_63 : decode cX6_setupText 63 = .ok (.aload_n 0, 1) := by decide +kernel
theorem dX6_setupText_64 : decode cX6_setupText 64 = .ok (.getfield 17, 3) := by decide +kernel
theorem dX6_setupText_67 : decode cX6_setupText 67 = .ok (.iconst 3, 1) := by decide +kernel
theorem dX6_setupText_68 : decode cX6_setupText 68 = .ok (.aload_n 0, 1) := by decide +kernel
theorem dX6_setupText_69 : decode cX6_setupText 69 = .ok (.getfield 36, 3) := by decide +kernel
theorem dX6_setupText_72 : decode cX6_setupText 72 = .ok (.iconst 1, 1) := by decide +kernel
theorem dX6_setupText_73 : decode cX6_setupText 73 = .ok (.iaload, 1) := by decide +kernel
theorem dX6_setupText_74 : decode cX6_setupText 74 = .ok (.iastore, 1) := by decide +kernel
theorem dX6_setupText_75 : decode cX6_setupText 75 = .ok (.aload_n 0, 1) := by decide +kernel
theorem dX6_setupText_76 : decode cX6_setupText 76 = .ok (.getfield 17, 3) := by decide +kernel
theorem dX6_setupText_79 : decode cX6_setupText 79 = .ok (.iconst 1, 1) := by decide +kernel
theorem dX6_setupText_80 : decode cX6_setupText 80 = .ok (.aload_n 0, 1) := by decide +kernel
theorem dX6_setupText_81 : decode cX6_setupText 81 = .ok (.getfield 36, 3) := by decide +kernel
theorem dX6_setupText_84 : decode cX6_setupText 84 = .ok (.iconst 2, 1) := by decide +kernel
theorem dX6_setupText_85 : decode cX6_setupText 85 = .ok (.iaload, 1) := by decide +kernel
theorem dX6_setupText_86 : decode cX6_setupText 86 = .ok (.iastore, 1) := by decide +kernel
theorem dX6_setupText_87 : decode cX6_setupText 87 = .ok (.aload_n 0, 1) := by decide +kernel
theorem dX6_setupText_88 : decode cX6_setupText 88 = .ok (.ldc 210, 2) := by decide +kernel
theorem dX6_setupText_90 : decode cX6_setupText 90 = .ok (.invokevirtual 201, 3) := by decide +kernel
theorem dX6_setupText_93 : decode cX6_setupText 93 = .ok (.ifCond .ne 5, 3) := by decide +kernel
theorem dX6_setupText_96 : decode cX6_setupText 96 = .ok (.iconst 0, 1) := by decide +kernel
theorem dX6_setupText_97 : decode cX6_setupText 97 = .ok (.ireturn, 1) := by decide +kernel
theorem dX6_setupText_98 : decode cX6_setupText 98 = .ok (.aload_n 0, 1) := by decide +kernel
theorem dX6_setupText_99 : decode cX6_setupText 99 = .ok (.getfield 17, 3) := by decide +kernel
theorem dX6_setupText_102 : decode cX6_setupText 102 = .ok (.iconst 4, 1) := by decide +kernel
theorem dX6_setupText_103 : decode cX6_setupText 103 = .ok (.iaload, 1) := by decide +kernel
theorem dX6_setupText_104 : decode cX6_setupText 104 = .ok (.ifCond .eq 11, 3) := by decide +kernel
theorem dX6_setupText_107 : decode cX6_setupText 107 = .ok (.aload_n 0, 1) := by decide +kernel
theorem dX6_setupText_108 : decode cX6_setupText 108 = .ok (.getfield 166, 3) := by decide +kernel
theorem dX6_setupText_111 : decode cX6_setupText 111 = .ok (.iconst 2, 1) := by decide +kernel
theorem dX6_setupText_112 : decode cX6_setupText 112 = .ok (.if_icmp .eq 66, 3) := by decide +kernel
theorem dX6_setupText_115 : decode cX6_setupText 115 = .ok (.aload_n 0, 1) := by decide +kernel
theorem dX6_setupText_116 : decode cX6_setupText 116 = .ok (.iconst 0, 1) := by decide +kernel
theorem dX6_setupText_117 : decode cX6_setupText 117 = .ok (.iconst 5, 1) := by decide +kernel
theorem dX6_setupText_118 : decode cX6_setupText 118 = .ok (.invokevirtual 196, 3) := by decide +kernel
theorem dX6_setupText_121 : decode cX6_setupText 121 = .ok (.ifCond .ne 5, 3) := by decide +kernel
theorem dX6_setupText_124 : decode cX6_setupText 124 = .ok (.iconst 0, 1) := by decide +kernel
theorem dX6_setupText_125 : decode cX6_setupText 125 = .ok (.ireturn, 1) := by decide +kernel
theorem dX6_setupText_126 : decode cX6_setupText 126 = .ok (.aload_n 0, 1) := by decide +kernel
theorem dX6_setupText_127 : decode cX6_setupText 127 = .ok (.getfield 17, 3) := by decide +kernel
theorem dX6_setupText_130 : decode cX6_setupText 130 = .ok (.iconst 4, 1) := by decide +kernel
theorem dX6_setupText_131 : decode cX6_setupText 131 = .ok (.iaload, 1) := by decide +kernel
theorem dX6_setupText_132 : decode cX6_setupText 132 = .ok (.bipush 8, 2) := by decide +kernel
theorem dX6_setupText_134 : decode cX6_setupText 134 = .ok (.if_icmp .ne 9, 3) := by decide +kernel
theorem dX6_setupText_137 : decode cX6_setupText 137 = .ok (.aload_n 0, 1) := by decide +kernel
theorem dX6_setupText_138 : decode cX6_setupText 138 = .ok (.iconst 4, 1) := by decide +kernel
theorem dX6_setupText_139 : decode cX6_setupText 139 = .ok (.invokevirtual 186, 3) := by decide +kernel
theorem dX6_setupText_142 : decode cX6_setupText 142 = .ok (.ireturn, 1) := by decide +kernel
theorem dX6_setupText_143 : decode cX6_setupText 143 = .ok (.aload_n 0, 1) := by decide +kernel
theorem dX6_setupText_144 : decode cX6_setupText 144 = .ok (.getfield 17, 3) := by decide +kernel
theorem dX6_setupText_147 : decode cX6_setupText 147 = .ok (.bipush 11, 2) := by decide +kernel
theorem dX6_setupText_149 : decode cX6_setupText 149 = .ok (.aload_n 0, 1) := by decide +kernel
theorem dX6_setupText_150 : decode cX6_setupText 150 = .ok (.getfield 17, 3) := by decide +kernel
theorem dX6_setupText_153 : decode cX6_setupText 153 = .ok (.iconst 4, 1) := by decide +kernel
theorem dX6_setupText_154 : decode cX6_setupText 154 = .ok (.iaload, 1) := by decide +kernel
theorem dX6_setupText_155 : decode cX6_setupText 155 = .ok (.iadd, 1) := by decide +kernel
theorem dX6_setupText_156 : decode cX6_setupText 156 = .ok (.aload_n 0, 1) := by decide +kernel
theorem dX6_setupText_157 : decode cX6_setupText 157 = .ok (.getfield 175, 3) := by decide +kernel
theorem dX6_setupText_160 : decode cX6_setupText 160 = .ok (.iastore, 1) := by decide +kernel
theorem dX6_setupText_161 : decode cX6_setupText 161 = .ok (.aload_n 0, 1) := by decide +kernel
theorem dX6_setupText_162 : decode cX6_setupText 162 = .ok (.getfield 17, 3) := by decide +kernel
theorem dX6_setupText_165 : decode cX6_setupText 165 = .ok (.iconst 4, 1) := by decide +kernel
theorem dX6_setupText_166 : decode cX6_setupText 166 = .ok (.dup2, 1) := by decide +kernel
theorem dX6_setupText_167 : decode cX6_setupText 167 = .ok (.iaload, 1) := by decide +kernel
theorem dX6_setupText_168 : decode cX6_setupText 168 = .ok (.iconst 1, 1) := by decide +kernel
theorem dX6_setupText_169 : decode cX6_setupText 169 = .ok (.iadd, 1) := by decide +kernel
theorem dX6_setupText_170 : decode cX6_setupText 170 = .ok (.iastore, 1) := by decide +kernel
theorem dX6_setupText_171 : decode cX6_setupText 171 = .ok (.aload_n 0, 1) := by decide +kernel
theorem dX6_setupText_172 : decode cX6_setupText 172 = .ok (.invokevirtual 189, 3) := by decide +kernel
theorem dX6_setupText_175 : decode cX6_setupText 175 = .ok (.goto (-77), 3) := by decide +kernel
theorem dX6_setupText_178 : decode cX6_setupText 178 = .ok (.aload_n 0, 1) := by decide +kernel
theorem dX6_setupText_179 : decode cX6_setupText 179 = .ok (.invokevirtual 189, 3) := by decide +kernel
theorem dX6_setupText_182 : decode cX6_setupText 182 = .ok (.aload_n 0, 1) := by decide +kernel
theorem dX6_setupText_183 : decode cX6_setupText 183 = .ok (.invokevirtual 212, 3) := by decide +kernel
theorem dX6_setupText_186 : decode cX6_setupText 186 = .ok (.ifCond .lt 7, 3) := by decide +kernel
theorem dX6_setupText_189 : decode cX6_setupText 189 = .ok (.iconst 1, 1) := by decide +kernel
theorem dX6_setupText_190 : decode cX6_setupText 190 = .ok (.goto 4, 3) := by decide +kernel
theorem dX6_setupText_193 : decode cX6_setupText 193 = .ok (.iconst 0, 1) := by decide +kernel
theorem dX6_setupText_194 : decode cX6_setupText 194 = .ok (.ireturn, 1) := by decide +kernel
theorem dX6_commandHere_0 : decode cX6_commandHere 0 = .ok (.aload_n 0, 1) := by decide +kernel
theorem dX6_commandHere_1 : decode cX6_commandHere 1 = .ok (.ldc 215, 2) := by decide +kernel
theorem dX6_commandHere_3 : decode cX6_commandHere 3 = .ok (.invokevirtual 182, 3) := by decide +kernel
theorem dX6_commandHere_6 : decode cX6_commandHere 6 = .ok (.ifCond .eq 7, 3) := by decide +kernel
theorem dX6_commandHere_9 : decode cX6_commandHere 9 = .ok (.iconst 0, 1) := by decide +kernel
theorem dX6_commandHere_10 : decode cX6_commandHere 10 = .ok (.goto 30, 3) := by decide +kernel
theorem dX6_commandHere_13 : decode cX6_commandHere 13 = .ok (.aload_n 0, 1) := by decide +kernel
theorem dX6_commandHere_14 : decode cX6_commandHere 14 = .ok (.ldc 217, 2) := by decide +kernel
theorem dX6_commandHere_16 : decode cX6_commandHere 16 = .ok (.invokevirtual 182, 3) := by decide +kernel
theorem dX6_commandHere_19 : decode cX6_commandHere 19 = .ok (.ifCond .eq 7, 3) := by decide +kernel
theorem dX6_commandHere_22 : decode cX6_commandHere 22 = .ok (.iconst 1, 1) := by decide +kernel
theorem dX6_commandHere_23 : decode cX6_commandHere 23 = .ok (.goto 17, 3) := by decide +kernel
theorem dX6_commandHere_26 : decode cX6_commandHere 26 = .ok (.aload_n 0, 1) := by decide +kernel
theorem dX6_commandHere_27 : decode cX6_commandHere 27 = .ok (.ldc 219, 2) := by decide +kernel
theorem dX6_commandHere_29 : decode cX6_commandHere 29 = .ok (.invokevirtual 182, 3) := by decide +kernel
theorem dX6_commandHere_32 : decode cX6_commandHere 32 = .ok (.ifCond .eq 7, 3) := by decide +kernel
theorem dX6_commandHere_35 : decode cX6_commandHere 35 = .ok (.iconst 2, 1) := by decide +kernel
theorem dX6_commandHere_36 : decode cX6_commandHere 36 = .ok (.goto 4, 3) := by decide +kernel
theorem dX6_commandHere_39 : decode cX6_commandHere 39 = .ok (.iconst (-1), 1) := by decide +kernel
theorem dX6_commandHere_40 : decode cX6_commandHere 40 = .ok (.istore_n 1, 1) := by decide +kernel
theorem dX6_commandHere_41 : decode cX6_commandHere 41 = .ok (.aload_n 0, 1) := by decide +kernel
theorem dX6_commandHere_42 : decode cX6_commandHere 42 = .ok (.ldc 221, 2) := by decide +kernel
theorem dX6_commandHere_44 : decode cX6_commandHere 44 = .ok (.invokevirtual 182, 3) := by decide +kernel
theorem dX6_commandHere_47 : decode cX6_commandHere 47 = .ok (.ifCond .eq 7, 3) := by decide +kernel
theorem dX6_commandHere_50 : decode cX6_commandHere 50 = .ok (.iconst 3, 1) := by decide +kernel
theorem dX6_commandHere_51 : decode cX6_commandHere 51 = .ok (.goto 44, 3) := by decide +kernel
theorem dX6_commandHere_54 : decode cX6_commandHere 54 = .ok (.aload_n 0, 1) := by decide +kernel
theorem dX6_commandHere_55 : decode cX6_commandHere 55 = .ok (.ldc 223, 2) := by decide +kernel
theorem dX6_commandHere_57 : decode cX6_commandHere 57 = .ok (.invokevirtual 182, 3) := by decide +kernel
theorem dX6_commandHere_60 : decode cX6_commandHere 60 = .ok (.ifCond .eq 7, 3) := by decide +kernel
theorem dX6_commandHere_63 : decode cX6_commandHere 63 = .ok (.iconst 4, 1) := by decide +kernel
theorem dX6_commandHere_64 : decode cX6_commandHere 64 = .ok (.goto 31, 3) := by decide +kernel
theorem dX6_commandHere_67 : decode cX6_commandHere 67 = .ok (.aload_n 0, 1) := by decide +kernel
theorem dX6_commandHere_68 : decode cX6_commandHere 68 = .ok (.ldc 225, 2) := by decide +kernel
theorem dX6_commandHere_70 : decode cX6_commandHere 70 = .ok (.invokevirtual 182, 3) := by decide +kernel
theorem dX6_commandHere_73 : decode cX6_commandHere 73 = .ok (.ifCond .eq 7, 3) := by decide +kernel
theorem dX6_commandHere_76 : decode cX6_commandHere 76 = .ok (.iconst 5, 1) := by decide +kernel
theorem dX6_commandHere_77 : decode cX6_commandHere 77 = .ok (.goto 18, 3) := by decide +kernel
theorem dX6_commandHere_80 : decode cX6_commandHere 80 = .ok (.aload_n 0, 1) := by decide +kernel
theorem dX6_commandHere_81 : decode cX6_commandHere 81 = .ok (.ldc 227, 2) := by decide +kernel
theorem dX6_commandHere_83 : decode cX6_commandHere 83 = .ok (.invokevirtual 182, 3) := by decide +kernel
theorem dX6_commandHere_86 : decode cX6_commandHere 86 = .ok (.ifCond .eq 8, 3) := by decide +kernel
theorem dX6_commandHere_89 : decode cX6_commandHere 89 = .ok (.bipush 6, 2) := by decide +kernel
theorem dX6_commandHere_91 : decode cX6_commandHere 91 = .ok (.goto 4, 3) := by decide +kernel
theorem dX6_commandHere_94 : decode cX6_commandHere 94 = .ok (.iconst (-1), 1) := by decide +kernel
theorem dX6_commandHere_95 : decode cX6_commandHere 95 = .ok (.istore_n 2, 1) := by decide +kernel
theorem dX6_commandHere_96 : decode cX6_commandHere 96 = .ok (.aload_n 0, 1) := by decide +kernel
theorem dX6_commandHere_97 : decode cX6_commandHere 97 = .ok (.ldc 229, 2) := by decide +kernel
theorem dX6_commandHere_99 : decode cX6_commandHere 99 = .ok (.invokevirtual 182, 3) := by decide +kernel
theorem dX6_commandHere_102 : decode cX6_commandHere 102 = .ok (.ifCond .eq 8, 3) := by decide +kernel
theorem dX6_commandHere_105 : decode cX6_commandHere 105 = .ok (.bipush 7, 2) := by decide +kernel
theorem dX6_commandHere_107 : decode cX6_commandHere 107 = .ok (.goto 32, 3) := by decide +kernel
theorem dX6_commandHere_110 : decode cX6_commandHere 110 = .ok (.aload_n 0, 1) := by decide +kernel
theorem dX6_commandHere_111 : decode cX6_commandHere 111 = .ok (.ldc 210, 2) := by decide +kernel
theorem dX6_commandHere_113 : decode cX6_commandHere 113 = .ok (.invokevirtual 182, 3) := by decide +kernel
theorem dX6_commandHere_116 : decode cX6_commandHere 116 = .ok (.ifCond .eq 8, 3) := by decide +kernel
theorem dX6_commandHere_119 : decode cX6_commandHere 119 = .ok (.bipush 8, 2) := by decide +kernel
theorem dX6_commandHere_121 : decode cX6_commandHere 121 = .ok (.goto 18, 3) := by decide +kernel
theorem dX6_commandHere_124 : decode cX6_commandHere 124 = .ok (.aload_n 0, 1) := by decide +kernel
theorem dX6_commandHere_125 : decode cX6_commandHere 125 = .ok (.ldc 231, 2) := by decide +kernel
theorem dX6_commandHere_127 : decode cX6_commandHere 127 = .ok (.invokevirtual 182, 3) := by decide +kernel
theorem dX6_commandHere_130 : decode cX6_commandHere 130 = .ok (.ifCond .eq 8, 3) := by decide +kernel
theorem dX6_commandHere_133 : decode cX6_commandHere 133 = .ok (.bipush 9, 2) := by decide +kernel
theorem dX6_commandHere_135 : decode cX6_commandHere 135 = .ok (.goto 4, 3) := by decide +kernel
theorem dX6_commandHere_138 : decode cX6_commandHere 138 = .ok (.iconst (-1), 1) := by decide +kernel
theorem dX6_commandHere_139 : decode cX6_commandHere 139 = .ok (.istore_n 3, 1) := by decide +kernel
theorem dX6_commandHere_140 : decode cX6_commandHere 140 = .ok (.iload_n 1, 1) := by decide +kernel
theorem dX6_commandHere_141 : decode cX6_commandHere 141 = .ok (.iconst (-1), 1) := by decide +kernel
theorem dX6_commandHere_142 : decode cX6_commandHere 142 = .ok (.if_icmp .eq 7, 3) := by decide +kernel
theorem dX6_commandHere_145 : decode cX6_commandHere 145 = .ok (.iload_n 1, 1) := by decide +kernel
theorem dX6_commandHere_146 : decode cX6_commandHere 146 = .ok (.goto 13, 3) := by decide +kernel
theorem dX6_commandHere_149 : decode cX6_commandHere 149 = .ok (.iload_n 2, 1) := by decide +kernel
theorem dX6_commandHere_150 : decode cX6_commandHere 150 = .ok (.iconst (-1), 1) := by decide +kernel
theorem dX6_commandHere_151 : decode cX6_commandHere 151 = .ok (.if_icmp .eq 7, 3) := by decide +kernel
theorem dX6_commandHere_154 : decode cX6_commandHere 154 = .ok (.iload_n 2, 1) := by decide +kernel
theorem dX6_commandHere_155 : decode cX6_commandHere 155 = .ok (.goto 4, 3) := by decide +kernel
theorem dX6_commandHere_158 : decode cX6_commandHere 158 = .ok (.iload_n 3, 1) := by decide +kernel
theorem dX6_commandHere_159 : decode cX6_commandHere 159 = .ok (.ireturn, 1) := by decide +kernel
theorem dX6_isFull_0 : decode cX6_isFull 0 = .ok (.iload_n 1, 1) := by decide +kernel
theorem dX6_isFull_1 : decode cX6_isFull 1 = .ok (.lookupswitch 86 #[(0, 35), (6, 53), (7, 69)], 35) := by decide +kernel
theorem dX6_isFull_36 : decode cX6_isFull 36 = .ok (.aload_n 0, 1) := by decide +kernel
theorem dX6_isFull_37 : decode cX6_isFull 37 = .ok (.getfield 17, 3) := by decide +kernel
theorem dX6_isFull_40 : decode cX6_isFull 40 = .ok (.bipush 7, 2) := by decide +kernel
theorem dX6_isFull_42 : decode cX6_isFull 42 = .ok (.iaload, 1) := by decide +kernel
theorem dX6_isFull_43 : decode cX6_isFull 43 = .ok (.bipush 10, 2) := by decide +kernel
theorem dX6_isFull_45 : decode cX6_isFull 45 = .ok (.if_icmp .ne 7, 3) := by decide +kernel
theorem dX6_isFull_48 : decode cX6_isFull 48 = .ok (.iconst 1, 1) := by decide +kernel
theorem dX6_isFull_49 : decode cX6_isFull 49 = .ok (.goto 4, 3) := by decide +kernel
theorem dX6_isFull_52 : decode cX6_isFull 52 = .ok (.iconst 0, 1) := by decide +kernel
theorem dX6_isFull_53 : decode cX6_isFull 53 = .ok (.ireturn, 1) := by decide +kernel
theorem dX6_isFull_54 : decode cX6_isFull 54 = .ok (.aload_n 0, 1) := by decide +kernel
theorem dX6_isFull_55 : decode cX6_isFull 55 = .ok (.getfield 17, 3) := by decide +kernel
theorem dX6_isFull_58 : decode cX6_isFull 58 = .ok (.iconst 5, 1) := by decide +kernel
theorem dX6_isFull_59 : decode cX6_isFull 59 = .ok (.iaload, 1) := by decide +kernel
theorem dX6_isFull_60 : decode cX6_isFull 60 = .ok (.iconst 4, 1) := by decide +kernel
theorem dX6_isFull_61 : decode cX6_isFull 61 = .ok (.if_icmp .ne 7, 3) := by decide +kernel
theorem dX6_isFull_64 : decode cX6_isFull 64 = .ok (.iconst 1, 1) := by decide +kernel
theorem dX6_isFull_65 : decode cX6_isFull 65 = .ok (.goto 4, 3) := by decide +kernel
theorem dX6_isFull_68 : decode cX6_isFull 68 = .ok (.iconst 0, 1) := by decide +kernel
theorem dX6_isFull_69 : decode cX6_isFull 69 = .ok (.ireturn, 1) := by decide +kernel
theorem dX6_isFull_70 : decode cX6_isFull 70 = .ok (.aload_n 0, 1) := by decide +kernel
theorem dX6_isFull_71 : decode cX6_isFull 71 = .ok (.getfield 17, 3) := by decide +kernel
theorem dX6_isFull_74 : decode cX6_isFull 74 = .ok (.bipush 6, 2) := by decide +kernel
theorem dX6_isFull_76 : decode cX6_isFull 76 = .ok (.iaload, 1) := by decide +kernel
theorem dX6_isFull_77 : decode cX6_isFull 77 = .ok (.iconst 4, 1) := by decide +kernel
theorem dX6_isFull_78 : decode cX6_isFull 78 = .ok (.if_icmp .ne 7, 3) := by decide +kernel
theorem dX6_isFull_81 : decode cX6_isFull 81 = .ok (.iconst 1, 1) := by decide +kernel
theorem dX6_isFull_82 : decode cX6_isFull 82 = .ok (.goto 4, 3) := by decide +kernel
theorem dX6_isFull_85 : decode cX6_isFull 85 = .ok (.iconst 0, 1) := by decide +kernel
theorem dX6_isFull_86 : decode cX6_isFull 86 = .ok (.ireturn, 1) := by decide +kernel
theorem dX6_isFull_87 : decode cX6_isFull 87 = .ok (.iconst 0, 1) := by decide +kernel
theorem dX6_isFull_88 : decode cX6_isFull 88 = .ok (.ireturn, 1) := by decide +kernel
theorem dX6_commandsText_0 : decode cX6_commandsText 0 = .ok (.iconst 0, 1) := by decide +kernel
theorem dX6_commandsText_1 : decode cX6_commandsText 1 = .ok (.istore_n 1, 1) := by decide +kernel
theorem dX6_commandsText_2 : decode cX6_commandsText 2 = .ok (.aload_n 0, 1) := by decide +kernel
theorem dX6_commandsText_3 : decode cX6_commandsText 3 = .ok (.getfield 166, 3) := by decide +kernel
theorem dX6_commandsText_6 : decode cX6_commandsText 6 = .ok (.iconst 4, 1) := by decide +kernel
theorem dX6_commandsText_7 : decode cX6_commandsText 7 = .ok (.if_icmp .eq 68, 3) := by decide +kernel
theorem dX6_commandsText_10 : decode cX6_commandsText 10 = .ok (.aload_n 0, 1) := by decide +kernel
theorem dX6_commandsText_11 : decode cX6_commandsText 11 = .ok (.invokevirtual 233, 3) := by decide +kernel
theorem dX6_commandsText_14 : decode cX6_commandsText 14 = .ok (.istore_n 2, 1) := by decide +kernel
theorem dX6_commandsText_15 : decode cX6_commandsText 15 = .ok (.iload_n 2, 1) := by decide +kernel
theorem dX6_commandsText_16 : decode cX6_commandsText 16 = .ok (.iconst (-1), 1) := by decide +kernel
theorem dX6_commandsText_17 : decode cX6_commandsText 17 = .ok (.if_icmp .ne 11, 3) := by decide +kernel
theorem dX6_commandsText_20 : decode cX6_commandsText 20 = .ok (.aload_n 0, 1) := by decide +kernel
theorem dX6_commandsText_21 : decode cX6_commandsText 21 = .ok (.iconst 1, 1) := by decide +kernel
theorem dX6_commandsText_22 : decode cX6_commandsText 22 = .ok (.invokevirtual 186, 3) := by decide +kernel
theorem dX6_commandsText_25 : decode cX6_commandsText 25 = .ok (.goto 30, 3) := by decide +kernel
theorem dX6_commandsText_28 : decode cX6_commandsText 28 = .ok (.aload_n 0, 1) := by decide +kernel
theorem dX6_commandsText_29 : decode cX6_commandsText 29 = .ok (.iload_n 2, 1) := by decide +kernel
theorem dX6_commandsText_30 : decode cX6_commandsText 30 = .ok (.invokevirtual 236, 3) := by decide +kernel
theorem dX6_commandsText_33 : decode cX6_commandsText 33 = .ok (.ifCond .ne 9, 3) := by decide +kernel
theorem dX6_commandsText_36 : decode cX6_commandsText 36 = .ok (.iload_n 1, 1) := by decide +kernel
theorem dX6_commandsText_37 : decode cX6_commandsText 37 = .ok (.bipush 40, 2) := by decide +kernel
theorem dX6_commandsText_39 : decode cX6_commandsText 39 = .ok (.if_icmp .ne 11, 3) := by decide +kernel
theorem dX6_commandsText_42 : decode cX6_commandsText 42 = .ok (.aload_n 0, 1) := by decide +kernel
theorem dX6_commandsText_43 : decode cX6_commandsText 43 = .ok (.iconst 4, 1) := by decide +kernel
theorem dX6_commandsText_44 : decode cX6_commandsText 44 = .ok (.invokevirtual 186, 3) := by decide +kernel
theorem dX6_commandsText_47 : decode cX6_commandsText 47 = .ok (.goto 8, 3) := by decide +kernel
theorem dX6_commandsText_50 : decode cX6_commandsText 50 = .ok (.aload_n 0, 1) := by decide +kernel
theorem dX6_commandsText_51 : decode cX6_commandsText 51 = .ok (.iload_n 2, 1) := by decide +kernel
theorem dX6_commandsText_52 : decode cX6_commandsText 52 = .ok (.invokevirtual 239, 3) := by decide +kernel
theorem dX6_commandsText_55 : decode cX6_commandsText 55 = .ok (.istore_n 3, 1) := by decide +kernel
theorem dX6_commandsText_56 : decode cX6_commandsText 56 = .ok (.iload_n 3, 1) := by decide +kernel
theorem dX6_commandsText_57 : decode cX6_commandsText 57 = .ok (.ifCond .eq 10, 3) := by decide +kernel
theorem dX6_commandsText_60 : decode cX6_commandsText 60 = .ok (.aload_n 0, 1) := by decide +kernel
theorem dX6_commandsText_61 : decode cX6_commandsText 61 = .ok (.invokevirtual 207, 3) := by decide +kernel
theorem dX6_commandsText_64 : decode cX6_commandsText 64 = .ok (.ifCond .ne 5, 3) := by decide +kernel
theorem dX6_commandsText_67 : decode cX6_commandsText 67 = .ok (.iconst (-1), 1) := by decide +kernel
theorem dX6_commandsText_68 : decode cX6_commandsText 68 = .ok (.ireturn, 1) := by decide +kernel
theorem dX6_commandsText_69 : decode cX6_commandsText 69 = .ok (.iinc 1 1, 3) := by decide +kernel
theorem dX6_commandsText_72 : decode cX6_commandsText 72 = .ok (.goto (-70), 3) := by decide +kernel
theorem dX6_commandsText_75 : decode cX6_commandsText 75 = .ok (.iload_n 1, 1) := by decide +kernel
theorem dX6_commandsText_76 : decode cX6_commandsText 76 = .ok (.ireturn, 1) := by decide +kernel
theorem dX6_garmentInto_0 : decode cX6_garmentInto 0 = .ok (.aload_n 0, 1) := by decide +kernel
theorem dX6_garmentInto_1 : decode cX6_garmentInto 1 = .ok (.iload_n 1, 1) := by decide +kernel
theorem dX6_garmentInto_2 : decode cX6_garmentInto 2 = .ok (.iconst 0, 1) := by decide +kernel
theorem dX6_garmentInto_3 : decode cX6_garmentInto 3 = .ok (.aload_n 0, 1) := by decide +kernel
theorem dX6_garmentInto_4 : decode cX6_garmentInto 4 = .ok (.getfield 17, 3) := by decide +kernel
theorem dX6_garmentInto_7 : decode cX6_garmentInto 7 = .ok (.bipush 7, 2) := by decide +kernel
theorem dX6_garmentInto_9 : decode cX6_garmentInto 9 = .ok (.iaload, 1) := by decide +kernel
theorem dX6_garmentInto_10 : decode cX6_garmentInto 10 = .ok (.iconst 1, 1) := by decide +kernel
theorem dX6_garmentInto_11 : decode cX6_garmentInto 11 = .ok (.isub, 1) := by decide +kernel
theorem dX6_garmentInto_12 : decode cX6_garmentInto 12 = .ok (.invokevirtual 204, 3) := by decide +kernel
theorem dX6_garmentInto_15 : decode cX6_garmentInto 15 = .ok (.ireturn, 1) := by decide +kernel
theorem dX6_argumentsText_0 : decode cX6_argumentsText 0 = .ok (.iload_n 1, 1) := by decide +kernel
theorem dX6_argumentsText_1 : decode cX6_argumentsText 1 = .ok (.tableswitch 299 0 9 #[55, 110, 299, 299, 299, 155, 180, 221, 256, 289], 55) := by decide +kernel
theorem dX6_argumentsText_56 : decode cX6_argumentsText 56 = .ok (.aload_n 0, 1) := by decide +kernel
theorem dX6_argumentsText_57 : decode cX6_argumentsText 57 = .ok (.iconst 0, 1) := by decide +kernel
theorem dX6_argumentsText_58 : decode cX6_argumentsText 58 = .ok (.iconst 1, 1) := by decide +kernel
theorem dX6_argumentsText_59 : decode cX6_argumentsText 59 = .ok (.bipush 6, 2) := by decide +kernel
theorem dX6_argumentsText_61 : decode cX6_argumentsText 61 = .ok (.invokevirtual 204, 3) := by decide +kernel
theorem dX6_argumentsText_64 : decode cX6_argumentsText 64 = .ok (.ifCond .eq 45, 3) := by decide +kernel
theorem dX6_argumentsText_67 : decode cX6_argumentsText 67 = .ok (.aload_n 0, 1) := by decide +kernel
theorem dX6_argumentsText_68 : decode cX6_argumentsText 68 = .ok (.iconst 1, 1) := by decide +kernel
theorem dX6_argumentsText_69 : decode cX6_argumentsText 69 = .ok (.iconst 1, 1) := by decide +kernel
theorem dX6_argumentsText_70 : decode cX6_argumentsText 70 = .ok (.bipush 99, 2) := by decide +kernel
theorem dX6_argumentsText_72 : decode cX6_argumentsText 72 = .ok (.invokevirtual 204, 3) := by decide +kernel
theorem dX6_argumentsText_75 : decode cX6_argumentsText 75 = .ok (.ifCond .eq 34, 3) := by decide +kernel
theorem dX6_argumentsText_78 : decode cX6_argumentsText 78 = .ok (.aload_n 0, 1) := by decide +kernel
theorem dX6_argumentsText_79 : decode cX6_argumentsText 79 = .ok (.iconst 2, 1) := by decide +kernel
theorem dX6_argumentsText_80 : decode cX6_argumentsText 80 = .ok (.iconst 1, 1) := by decide +kernel
theorem dX6_argumentsText_81 : decode cX6_argumentsText 81 = .ok (.sipush 999, 3) := by decide +kernel
theorem dX6_argumentsText_84 : decode cX6_argumentsText 84 = .ok (.invokevirtual 204, 3) := by decide +kernel
theorem dX6_argumentsText_87 : decode cX6_argumentsText 87 = .ok (.ifCond .eq 22, 3) := by decide +kernel
theorem dX6_argumentsText_90 : decode cX6_argumentsText 90 = .ok (.aload_n 0, 1) := by decide +kernel
theorem dX6_argumentsText_91 : decode cX6_argumentsText 91 = .ok (.iconst 3, 1) := by decide +kernel
theorem dX6_argumentsText_92 : decode cX6_argumentsText 92 = .ok (.iconst 0, 1) := by decide +kernel
theorem dX6_argumentsText_93 : decode cX6_argumentsText 93 = .ok (.aload_n 0, 1) := by decide +kernel
theorem dX6_argumentsText_94 : decode cX6_argumentsText 94 = .ok (.getfield 36, 3) := by decide +kernel
theorem dX6_argumentsText_97 : decode cX6_argumentsText 97 = .ok (.iconst 2, 1) := by decide +kernel
theorem dX6_argumentsText_98 : decode cX6_argumentsText 98 = .ok (.iaload, 1) := by decide +kernel
theorem dX6_argumentsText_99 : decode cX6_argumentsText 99 = .ok (.invokevirtual 204, 3) := by decide +kernel
theorem dX6_argumentsText_102 : decode cX6_argumentsText 102 = .ok (.ifCond .eq 7, 3) := by decide +kernel
theorem dX6_argumentsText_105 : decode cX6_argumentsText 105 = .ok (.iconst 1, 1) := by decide +kernel
theorem dX6_argumentsText_106 : decode cX6_argumentsText 106 = .ok (.goto 4, 3) := by decide +kernel
theorem dX6_argumentsText_109 : decode cX6_argumentsText 109 = .ok (.iconst 0, 1) := by decide +kernel
theorem dX6_argumentsText_110 : decode cX6_argumentsText 110 = .ok (.ireturn, 1) := by decide +kernel
theorem dX6_argumentsText_111 : decode cX6_argumentsText 111 = .ok (.aload_n 0, 1) := by decide +kernel
theorem dX6_argumentsText_112 : decode cX6_argumentsText 112 = .ok (.iconst 0, 1) := by decide +kernel
theorem dX6_argumentsText_113 : decode cX6_argumentsText 113 = .ok (.invokevirtual 242, 3) := by decide +kernel
theorem dX6_argumentsText_116 : decode cX6_argumentsText 116 = .ok (.ifCond .eq 38, 3) := by decide +kernel
theorem dX6_argumentsText_119 : decode cX6_argumentsText 119 = .ok (.aload_n 0, 1) := by decide +kernel
theorem dX6_argumentsText_120 : decode cX6_argumentsText 120 = .ok (.iconst 1, 1) := by decide +kernel
theorem dX6_argumentsText_121 : decode cX6_argumentsText 121 = .ok (.iconst 0, 1) := by decide +kernel
theorem dX6_argumentsText_122 : decode cX6_argumentsText 122 = .ok (.bipush 23, 2) := by decide +kernel
theorem dX6_argumentsText_124 : decode cX6_argumentsText 124 = .ok (.invokevirtual 204, 3) := by decide +kernel
theorem dX6_argumentsText_127 : decode cX6_argumentsText 127 = .ok (.ifCond .eq 27, 3) := by decide +kernel
theorem dX6_argumentsText_130 : decode cX6_argumentsText 130 = .ok (.aload_n 0, 1) := by decide +kernel
theorem dX6_argumentsText_131 : decode cX6_argumentsText 131 = .ok (.iconst 2, 1) := by decide +kernel
theorem dX6_argumentsText_132 : decode cX6_argumentsText 132 = .ok (.iconst 0, 1) := by decide +kernel
theorem dX6_argumentsText_133 : decode cX6_argumentsText 133 = .ok (.iconst 4, 1) := by decide +kernel
theorem dX6_argumentsText_134 : decode cX6_argumentsText 134 = .ok (.invokevirtual 204, 3) := by decide +kernel
theorem dX6_argumentsText_137 : decode cX6_argumentsText 137 = .ok (.ifCond .eq 17, 3) := by decide +kernel
theorem dX6_argumentsText_140 : decode cX6_argumentsText 140 = .ok (.aload_n 0, 1) := by decide +kernel
theorem dX6_argumentsText_141 : decode cX6_argumentsText 141 = .ok (.iconst 3, 1) := by decide +kernel
theorem dX6_argumentsText_142 : decode cX6_argumentsText 142 = .ok (.iconst 0, 1) := by decide +kernel
theorem dX6_argumentsText_143 : decode cX6_argumentsText 143 = .ok (.iconst 4, 1) := by decide +kernel
theorem dX6_argumentsText_144 : decode cX6_argumentsText 144 = .ok (.invokevirtual 204, 3) := by decide +kernel
theorem dX6_argumentsText_147 : decode cX6_argumentsText 147 = .ok (.ifCond .eq 7, 3) := by decide +kernel
theorem dX6_argumentsText_150 : decode cX6_argumentsText 150 = .ok (.iconst 1, 1) := by decide +kernel
theorem dX6_argumentsText_151 : decode cX6_argumentsText 151 = .ok (.goto 4, 3) := by decide +kernel
theorem dX6_argumentsText_154 : decode cX6_argumentsText 154 = .ok (.iconst 0, 1) := by decide +kernel
theorem dX6_argumentsText_155 : decode cX6_argumentsText 155 = .ok (.ireturn, 1) := by decide +kernel
theorem dX6_argumentsText_156 : decode cX6_argumentsText 156 = .ok (.aload_n 0, 1) := by decide +kernel
theorem dX6_argumentsText_157 : decode cX6_argumentsText 157 = .ok (.iconst 0, 1) := by decide +kernel
theorem dX6_argumentsText_158 : decode cX6_argumentsText 158 = .ok (.invokevirtual 242, 3) := by decide +kernel
theorem dX6_argumentsText_161 : decode cX6_argumentsText 161 = .ok (.ifCond .eq 18, 3) := by decide +kernel
theorem dX6_argumentsText_164 : decode cX6_argumentsText 164 = .ok (.aload_n 0, 1) := by decide +kernel
theorem dX6_argumentsText_165 : decode cX6_argumentsText 165 = .ok (.iconst 1, 1) := by decide +kernel
theorem dX6_argumentsText_166 : decode cX6_argumentsText 166 = .ok (.iconst 0, 1) := by decide +kernel
theorem dX6_argumentsText_167 : decode cX6_argumentsText 167 = .ok (.bipush 23, 2) := by decide +kernel
theorem dX6_argumentsText_169 : decode cX6_argumentsText 169 = .ok (.invokevirtual 204, 3) := by decide +kernel
theorem dX6_argumentsText_172 : decode cX6_argumentsText 172 = .ok (.ifCond .eq 7, 3) := by decide +kernel
theorem dX6_argumentsText_175 : decode cX6_argumentsText 175 = .ok (.iconst 1, 1) := by decide +kernel
theorem dX6_argumentsText_176 : decode cX6_argumentsText 176 = .ok (.goto 4, 3) := by decide +kernel
theorem dX6_argumentsText_179 : decode cX6_argumentsText 179 = .ok (.iconst 0, 1) := by decide +kernel
theorem dX6_argumentsText_180 : decode cX6_argumentsText 180 = .ok (.ireturn, 1) := by decide +kernel
theorem dX6_argumentsText_181 : decode cX6_argumentsText 181 = .ok (.aload_n 0, 1) := by decide +kernel
theorem dX6_argumentsText_182 : decode cX6_argumentsText 182 = .ok (.iconst 0, 1) := by decide +kernel
theorem dX6_argumentsText_183 : decode cX6_argumentsText 183 = .ok (.iconst 0, 1) := by decide +kernel
theorem dX6_argumentsText_184 : decode cX6_argumentsText 184 = .ok (.sipush 9999, 3) := by decide +kernel
theorem dX6_argumentsText_187 : decode cX6_argumentsText 187 = .ok (.invokevirtual 204, 3) := by decide +kernel
theorem dX6_argumentsText_190 : decode cX6_argumentsText 190 = .ok (.ifCond .eq 30, 3) := by decide +kernel
theorem dX6_argumentsText_193 : decode cX6_argumentsText 193 = .ok (.aload_n 0, 1) := by decide +kernel
theorem dX6_argumentsText_194 : decode cX6_argumentsText 194 = .ok (.iconst 1, 1) := by decide +kernel
theorem dX6_argumentsText_195 : decode cX6_argumentsText 195 = .ok (.iconst 1, 1) := by decide +kernel
theorem dX6_argumentsText_196 : decode cX6_argumentsText 196 = .ok (.sipush 200, 3) := by decide +kernel
theorem dX6_argumentsText_199 : decode cX6_argumentsText 199 = .ok (.invokevirtual 204, 3) := by decide +kernel
theorem dX6_argumentsText_202 : decode cX6_argumentsText 202 = .ok (.ifCond .eq 18, 3) := by decide +kernel
theorem dX6_argumentsText_205 : decode cX6_argumentsText 205 = .ok (.aload_n 0, 1) := by decide +kernel
theorem dX6_argumentsText_206 : decode cX6_argumentsText 206 = .ok (.iconst 2, 1) := by decide +kernel
theorem dX6_argumentsText_207 : decode cX6_argumentsText 207 = .ok (.iconst 1, 1) := by decide +kernel
theorem dX6_argumentsText_208 : decode cX6_argumentsText 208 = .ok (.bipush 20, 2) := by decide +kernel
theorem dX6_argumentsText_210 : decode cX6_argumentsText 210 = .ok (.invokevirtual 204, 3) := by decide +kernel
theorem dX6_argumentsText_213 : decode cX6_argumentsText 213 = .ok (.ifCond .eq 7, 3) := by decide +kernel
theorem dX6_argumentsText_216 : decode cX6_argumentsText 216 = .ok (.iconst 1, 1) := by decide +kernel
theorem dX6_argumentsText_217 : decode cX6_argumentsText 217 = .ok (.goto 4, 3) := by decide +kernel
theorem dX6_argumentsText_220 : decode cX6_argumentsText 220 = .ok (.iconst 0, 1) := by decide +kernel
theorem dX6_argumentsText_221 : decode cX6_argumentsText 221 = .ok (.ireturn, 1) := by decide +kernel
theorem dX6_argumentsText_222 : decode cX6_argumentsText 222 = .ok (.aload_n 0, 1) := by decide +kernel
theorem dX6_argumentsText_223 : decode cX6_argumentsText 223 = .ok (.iconst 0, 1) := by decide +kernel
theorem dX6_argumentsText_224 : decode cX6_argumentsText 224 = .ok (.iconst 0, 1) := by decide +kernel
theorem dX6_argumentsText_225 : decode cX6_argumentsText 225 = .ok (.sipush 9999, 3) := by decide +kernel
theorem dX6_argumentsText_228 : decode cX6_argumentsText 228 = .ok (.invokevirtual 204, 3) := by decide +kernel
theorem dX6_argumentsText_231 : decode cX6_argumentsText 231 = .ok (.ifCond .eq 24, 3) := by decide +kernel
theorem dX6_argumentsText_234 : decode cX6_argumentsText 234 = .ok (.aload_n 0, 1) := by decide +kernel
theorem dX6_argumentsText_235 : decode cX6_argumentsText 235 = .ok (.iconst 1, 1) := by decide +kernel
theorem dX6_argumentsText_236 : decode cX6_argumentsText 236 = .ok (.aload_n 0, 1) := by decide +kernel
theorem dX6_argumentsText_237 : decode cX6_argumentsText 237 = .ok (.getfield 36, 3) := by decide +kernel
theorem dX6_argumentsText_240 : decode cX6_argumentsText 240 = .ok (.iconst 0, 1) := by decide +kernel
theorem dX6_argumentsText_241 : decode cX6_argumentsText 241 = .ok (.iaload, 1) := by decide +kernel
theorem dX6_argumentsText_242 : decode cX6_argumentsText 242 = .ok (.sipush 9999, 3) := by decide +kernel
theorem dX6_argumentsText_245 : decode cX6_argumentsText 245 = .ok (.invokevirtual 204, 3) := by decide +kernel
theorem dX6_argumentsText_248 : decode cX6_argumentsText 248 = .ok (.ifCond .eq 7, 3) := by decide +kernel
theorem dX6_argumentsText_251 : decode cX6_argumentsText 251 = .ok (.iconst 1, 1) := by decide +kernel
theorem dX6_argumentsText_252 : decode cX6_argumentsText 252 = .ok (.goto 4, 3) := by decide +kernel
theorem dX6_argumentsText_255 : decode cX6_argumentsText 255 = .ok (.iconst 0, 1) := by decide +kernel
theorem dX6_argumentsText_256 : decode cX6_argumentsText 256 = .ok (.ireturn, 1) := by decide +kernel
theorem dX6_argumentsText_257 : decode cX6_argumentsText 257 = .ok (.aload_n 0, 1) := by decide +kernel
theorem dX6_argumentsText_258 : decode cX6_argumentsText 258 = .ok (.iconst 0, 1) := by decide +kernel
theorem dX6_argumentsText_259 : decode cX6_argumentsText 259 = .ok (.iconst 0, 1) := by decide +kernel
theorem dX6_argumentsText_260 : decode cX6_argumentsText 260 = .ok (.aload_n 0, 1) := by decide +kernel
theorem dX6_argumentsText_261 : decode cX6_argumentsText 261 = .ok (.getfield 17, 3) := by decide +kernel
theorem dX6_argumentsText_264 : decode cX6_argumentsText 264 = .ok (.iconst 4, 1) := by decide +kernel
theorem dX6_argumentsText_265 : decode cX6_argumentsText 265 = .ok (.iaload, 1) := by decide +kernel
theorem dX6_argumentsText_266 : decode cX6_argumentsText 266 = .ok (.iconst 1, 1) := by decide +kernel
theorem dX6_argumentsText_267 : decode cX6_argumentsText 267 = .ok (.isub, 1) := by decide +kernel
theorem dX6_argumentsText_268 : decode cX6_argumentsText 268 = .ok (.invokevirtual 204, 3) := by decide +kernel
theorem dX6_argumentsText_271 : decode cX6_argumentsText 271 = .ok (.ifCond .eq 17, 3) := by decide +kernel
theorem dX6_argumentsText_274 : decode cX6_argumentsText 274 = .ok (.aload_n 0, 1) := by decide +kernel
theorem dX6_argumentsText_275 : decode cX6_argumentsText 275 = .ok (.iconst 1, 1) := by decide +kernel
theorem dX6_argumentsText_276 : decode cX6_argumentsText 276 = .ok (.iconst 0, 1) := by decide +kernel
theorem dX6_argumentsText_277 : decode cX6_argumentsText 277 = .ok (.iconst 5, 1) := by decide +kernel
theorem dX6_argumentsText_278 : decode cX6_argumentsText 278 = .ok (.invokevirtual 204, 3) := by decide +kernel
theorem dX6_argumentsText_281 : decode cX6_argumentsText 281 = .ok (.ifCond .eq 7, 3) := by decide +kernel
theorem dX6_argumentsText_284 : decode cX6_argumentsText 284 = .ok (.iconst 1, 1) := by decide +kernel
theorem dX6_argumentsText_285 : decode cX6_argumentsText 285 = .ok (.goto 4, 3) := by decide +kernel
theorem dX6_argumentsText_288 : decode cX6_argumentsText 288 = .ok (.iconst 0, 1) := by decide +kernel
theorem dX6_argumentsText_289 : decode cX6_argumentsText 289 = .ok (.ireturn, 1) := by decide +kernel
theorem dX6_argumentsText_290 : decode cX6_argumentsText 290 = .ok (.aload_n 0, 1) := by decide +kernel
theorem dX6_argumentsText_291 : decode cX6_argumentsText 291 = .ok (.iconst 0, 1) := by decide +kernel
theorem dX6_argumentsText_292 : decode cX6_argumentsText 292 = .ok (.iconst 1, 1) := by decide +kernel
theorem dX6_argumentsText_293 : decode cX6_argumentsText 293 = .ok (.sipush 200, 3) := by decide +kernel
theorem dX6_argumentsText_296 : decode cX6_argumentsText 296 = .ok (.invokevirtual 204, 3) := by decide +kernel
theorem dX6_argumentsText_299 : decode cX6_argumentsText 299 = .ok (.ireturn, 1) := by decide +kernel
theorem dX6_argumentsText_300 : decode cX6_argumentsText 300 = .ok (.aload_n 0, 1) := by decide +kernel
theorem dX6_argumentsText_301 : decode cX6_argumentsText 301 = .ok (.iconst 0, 1) := by decide +kernel
theorem dX6_argumentsText_302 : decode cX6_argumentsText 302 = .ok (.invokevirtual 242, 3) := by decide +kernel
theorem dX6_argumentsText_305 : decode cX6_argumentsText 305 = .ok (.ireturn, 1) := by decide +kernel
theorem dX6_isPossible_0 : decode cX6_isPossible 0 = .ok (.iload_n 1, 1) := by decide +kernel
theorem dX6_isPossible_1 : decode cX6_isPossible 1 = .ok (.tableswitch 125 1 5 #[35, 72, 84, 96, 108], 35) := by decide +kernel
theorem dX6_isPossible_36 : decode cX6_isPossible 36 = .ok (.aload_n 0, 1) := by decide +kernel
theorem dX6_isPossible_37 : decode cX6_isPossible 37 = .ok (.aload_n 0, 1) := by decide +kernel
theorem dX6_isPossible_38 : decode cX6_isPossible 38 = .ok (.getfield 36, 3) := by decide +kernel
theorem dX6_isPossible_41 : decode cX6_isPossible 41 = .ok (.iconst 0, 1) := by decide +kernel
theorem dX6_isPossible_42 : decode cX6_isPossible 42 = .ok (.iaload, 1) := by decide +kernel
theorem dX6_isPossible_43 : decode cX6_isPossible 43 = .ok (.aload_n 0, 1) := by decide +kernel
theorem dX6_isPossible_44 : decode cX6_isPossible 44 = .ok (.getfield 36, 3) := by decide +kernel
theorem dX6_isPossible_47 : decode cX6_isPossible 47 = .ok (.iconst 1, 1) := by decide +kernel
theorem dX6_isPossible_48 : decode cX6_isPossible 48 = .ok (.iaload, 1) := by decide +kernel
theorem dX6_isPossible_49 : decode cX6_isPossible 49 = .ok (.aload_n 0, 1) := by decide +kernel
theorem dX6_isPossible_50 : decode cX6_isPossible 50 = .ok (.getfield 36, 3) := by decide +kernel
theorem dX6_isPossible_53 : decode cX6_isPossible 53 = .ok (.iconst 2, 1) := by decide +kernel
theorem dX6_isPossible_54 : decode cX6_isPossible 54 = .ok (.iaload, 1) := by decide +kernel
theorem dX6_isPossible_55 : decode cX6_isPossible 55 = .ok (.aload_n 0, 1) := by decide +kernel
theorem dX6_isPossible_56 : decode cX6_isPossible 56 = .ok (.getfield 36, 3) := by decide +kernel
theorem dX6_isPossible_59 : decode cX6_isPossible 59 = .ok (.iconst 3, 1) := by decide +kernel
theorem dX6_isPossible_60 : decode cX6_isPossible 60 = .ok (.iaload, 1) := by decide +kernel
theorem dX6_isPossible_61 : decode cX6_isPossible 61 = .ok (.invokevirtual 245, 3) := by decide +kernel
theorem dX6_isPossible_64 : decode cX6_isPossible 64 = .ok (.ifCond .ne 7, 3) := by decide +kernel
theorem dX6_isPossible_67 : decode cX6_isPossible 67 = .ok (.iconst 1, 1) := by decide +kernel
theorem dX6_isPossible_68 : decode cX6_isPossible 68 = .ok (.goto 4, 3) := by decide +kernel
theorem dX6_isPossible_71 : decode cX6_isPossible 71 = .ok (.iconst 0, 1) := by decide +kernel
theorem dX6_isPossible_72 : decode cX6_isPossible 72 = .ok (.ireturn, 1) := by decide +kernel
theorem dX6_isPossible_73 : decode cX6_isPossible 73 = .ok (.aload_n 0, 1) := by decide +kernel
theorem dX6_isPossible_74 : decode cX6_isPossible 74 = .ok (.aload_n 0, 1) := by decide +kernel
theorem dX6_isPossible_75 : decode cX6_isPossible 75 = .ok (.getfield 36, 3) := by decide +kernel
theorem dX6_isPossible_78 : decode cX6_isPossible 78 = .ok (.iconst 0, 1) := by decide +kernel
theorem dX6_isPossible_79 : decode cX6_isPossible 79 = .ok (.iaload, 1) := by decide +kernel
theorem dX6_isPossible_80 : decode cX6_isPossible 80 = .ok (.iconst 1, 1) := by decide +kernel
theorem dX6_isPossible_81 : decode cX6_isPossible 81 = .ok (.invokevirtual 84, 3) := by decide +kernel
theorem dX6_isPossible_84 : decode cX6_isPossible 84 = .ok (.ireturn, 1) := by decide +kernel
theorem dX6_isPossible_85 : decode cX6_isPossible 85 = .ok (.aload_n 0, 1) := by decide +kernel
theorem dX6_isPossible_86 : decode cX6_isPossible 86 = .ok (.aload_n 0, 1) := by decide +kernel
theorem dX6_isPossible_87 : decode cX6_isPossible 87 = .ok (.getfield 36, 3) := by decide +kernel
theorem dX6_isPossible_90 : decode cX6_isPossible 90 = .ok (.iconst 0, 1) := by decide +kernel
theorem dX6_isPossible_91 : decode cX6_isPossible 91 = .ok (.iaload, 1) := by decide +kernel
theorem dX6_isPossible_92 : decode cX6_isPossible 92 = .ok (.iconst 2, 1) := by decide +kernel
theorem dX6_isPossible_93 : decode cX6_isPossible 93 = .ok (.invokevirtual 84, 3) := by decide +kernel
theorem dX6_isPossible_96 : decode cX6_isPossible 96 = .ok (.ireturn, 1) := by decide +kernel
theorem dX6_isPossible_97 : decode cX6_isPossible 97 = .ok (.aload_n 0, 1) := by decide +kernel
theorem dX6_isPossible_98 : decode cX6_isPossible 98 = .ok (.aload_n 0, 1) := by decide +kernel
theorem dX6_isPossible_99 : decode cX6_isPossible 99 = .ok (.getfield 36, 3) := by decide +kernel
theorem dX6_isPossible_102 : decode cX6_isPossible 102 = .ok (.iconst 0, 1) := by decide +kernel
theorem dX6_isPossible_103 : decode cX6_isPossible 103 = .ok (.iaload, 1) := by decide +kernel
theorem dX6_isPossible_104 : decode cX6_isPossible 104 = .ok (.iconst 0, 1) := by decide +kernel
theorem dX6_isPossible_105 : decode cX6_isPossible 105 = .ok (.invokevirtual 84, 3) := by decide +kernel
theorem dX6_isPossible_108 : decode cX6_isPossible 108 = .ok (.ireturn, 1) := by decide +kernel
theorem dX6_isPossible_109 : decode cX6_isPossible 109 = .ok (.aload_n 0, 1) := by decide +kernel
theorem dX6_isPossible_110 : decode cX6_isPossible 110 = .ok (.aload_n 0, 1) := by decide +kernel
theorem dX6_isPossible_111 : decode cX6_isPossible 111 = .ok (.getfield 36, 3) := by decide +kernel
theorem dX6_isPossible_114 : decode cX6_isPossible 114 = .ok (.iconst 0, 1) := by decide +kernel
theorem dX6_isPossible_115 : decode cX6_isPossible 115 = .ok (.iaload, 1) := by decide +kernel
theorem dX6_isPossible_116 : decode cX6_isPossible 116 = .ok (.aload_n 0, 1) := by decide +kernel
theorem dX6_isPossible_117 : decode cX6_isPossible 117 = .ok (.getfield 36, 3) := by decide +kernel
theorem dX6_isPossible_120 : decode cX6_isPossible 120 = .ok (.iconst 1, 1) := by decide +kernel
theorem dX6_isPossible_121 : decode cX6_isPossible 121 = .ok (.iaload, 1) := by decide +kernel
theorem dX6_isPossible_122 : decode cX6_isPossible 122 = .ok (.invokevirtual 249, 3) := by decide +kernel
theorem dX6_isPossible_125 : decode cX6_isPossible 125 = .ok (.ireturn, 1) := by decide +kernel
theorem dX6_isPossible_126 : decode cX6_isPossible 126 = .ok (.iconst 1, 1) := by decide +kernel
theorem dX6_isPossible_127 : decode cX6_isPossible 127 = .ok (.ireturn, 1) := by decide +kernel
theorem dX6_does_0 : decode cX6_does 0 = .ok (.iload_n 1, 1) := by decide +kernel
theorem dX6_does_1 : decode cX6_does 1 = .ok (.tableswitch 216 0 8 #[51, 80, 109, 120, 131, 142, 159, 182, 199], 51) := by decide +kernel
theorem dX6_does_52 : decode cX6_does 52 = .ok (.aload_n 0, 1) := by decide +kernel
theorem dX6_does_53 : decode cX6_does 53 = .ok (.aload_n 0, 1) := by decide +kernel
theorem dX6_does_54 : decode cX6_does 54 = .ok (.getfield 36, 3) := by decide +kernel
theorem dX6_does_57 : decode cX6_does 57 = .ok (.iconst 0, 1) := by decide +kernel
theorem dX6_does_58 : decode cX6_does 58 = .ok (.iaload, 1) := by decide +kernel
theorem dX6_does_59 : decode cX6_does 59 = .ok (.aload_n 0, 1) := by decide +kernel
theorem dX6_does_60 : decode cX6_does 60 = .ok (.getfield 36, 3) := by decide +kernel
theorem dX6_does_63 : decode cX6_does 63 = .ok (.iconst 1, 1) := by decide +kernel
theorem dX6_does_64 : decode cX6_does 64 = .ok (.iaload, 1) := by decide +kernel
theorem dX6_does_65 : decode cX6_does 65 = .ok (.aload_n 0, 1) := by decide +kernel
theorem dX6_does_66 : decode cX6_does 66 = .ok (.getfield 36, 3) := by decide +kernel
theorem dX6_does_69 : decode cX6_does 69 = .ok (.iconst 2, 1) := by decide +kernel
theorem dX6_does_70 : decode cX6_does 70 = .ok (.iaload, 1) := by decide +kernel
theorem dX6_does_71 : decode cX6_does 71 = .ok (.aload_n 0, 1) := by decide +kernel
theorem dX6_does_72 : decode cX6_does 72 = .ok (.getfield 36, 3) := by decide +kernel
theorem dX6_does_75 : decode cX6_does 75 = .ok (.iconst 3, 1) := by decide +kernel
theorem dX6_does_76 : decode cX6_does 76 = .ok (.iaload, 1) := by decide +kernel
theorem dX6_does_77 : decode cX6_does 77 = .ok (.invokevirtual 252, 3) := by decide +kernel
theorem dX6_does_80 : decode cX6_does 80 = .ok (.ireturn, 1) := by decide +kernel
theorem dX6_does_81 : decode cX6_does 81 = .ok (.aload_n 0, 1) := by decide +kernel
theorem dX6_does_82 : decode cX6_does 82 = .ok (.aload_n 0, 1) := by decide +kernel
theorem dX6_does_83 : decode cX6_does 83 = .ok (.getfield 36, 3) := by decide +kernel
theorem dX6_does_86 : decode cX6_does 86 = .ok (.iconst 0, 1) := by decide +kernel
theorem dX6_does_87 : decode cX6_does 87 = .ok (.iaload, 1) := by decide +kernel
theorem dX6_does_88 : decode cX6_does 88 = .ok (.aload_n 0, 1) := by decide +kernel
theorem dX6_does_89 : decode cX6_does 89 = .ok (.getfield 36, 3) := by decide +kernel
theorem dX6_does_92 : decode cX6_does 92 = .ok (.iconst 1, 1) := by decide +kernel
theorem dX6_does_93 : decode cX6_does 93 = .ok (.iaload, 1) := by decide +kernel
theorem dX6_does_94 : decode cX6_does 94 = .ok (.aload_n 0, 1) := by decide +kernel
theorem dX6_does_95 : decode cX6_does 95 = .ok (.getfield 36, 3) := by decide +kernel
theorem dX6_does_98 : decode cX6_does 98 = .ok (.iconst 2, 1) := by decide +kernel
theorem dX6_does_99 : decode cX6_does 99 = .ok (.iaload, 1) := by decide +kernel
theorem dX6_does_100 : decode cX6_does 100 = .ok (.aload_n 0, 1) := by decide +kernel
theorem dX6_does_101 : decode cX6_does 101 = .ok (.getfield 36, 3) := by decide +kernel
theorem dX6_does_104 : decode cX6_does 104 = .ok (.iconst 3, 1) := by decide +kernel
theorem dX6_does_105 : decode cX6_does 105 = .ok (.iaload, 1) := by decide +kernel
theorem dX6_does_106 : decode cX6_does 106 = .ok (.invokevirtual 255, 3) := by decide +kernel
theorem dX6_does_109 : decode cX6_does 109 = .ok (.ireturn, 1) := by decide +kernel
theorem dX6_does_110 : decode cX6_does 110 = .ok (.aload_n 0, 1) := by decide +kernel
theorem dX6_does_111 : decode cX6_does 111 = .ok (.aload_n 0, 1) := by decide +kernel
theorem dX6_does_112 : decode cX6_does 112 = .ok (.getfield 36, 3) := by decide +kernel
theorem dX6_does_115 : decode cX6_does 115 = .ok (.iconst 0, 1) := by decide +kernel
theorem dX6_does_116 : decode cX6_does 116 = .ok (.iaload, 1) := by decide +kernel
theorem dX6_does_117 : decode cX6_does 117 = .ok (.invokevirtual 258, 3) := by decide +kernel
theorem dX6_does_120 : decode cX6_does 120 = .ok (.ireturn, 1) := by decide +kernel
theorem dX6_does_121 : decode cX6_does 121 = .ok (.aload_n 0, 1) := by decide +kernel
theorem dX6_does_122 : decode cX6_does 122 = .ok (.aload_n 0, 1) := by decide +kernel
theorem dX6_does_123 : decode cX6_does 123 = .ok (.getfield 36, 3) := by decide +kernel
theorem dX6_does_126 : decode cX6_does 126 = .ok (.iconst 0, 1) := by decide +kernel
theorem dX6_does_127 : decode cX6_does 127 = .ok (.iaload, 1) := by decide +kernel
theorem dX6_does_128 : decode cX6_does 128 = .ok (.invokevirtual 261, 3) := by decide +kernel
theorem dX6_does_131 : decode cX6_does 131 = .ok (.ireturn, 1) := by decide +kernel
theorem dX6_does_132 : decode cX6_does 132 = .ok (.aload_n 0, 1) := by decide +kernel
theorem dX6_does_133 : decode cX6_does 133 = .ok (.aload_n 0, 1) := by decide +kernel
theorem dX6_does_134 : decode cX6_does 134 = .ok (.getfield 36, 3) := by decide +kernel
theorem dX6_does_137 : decode cX6_does 137 = .ok (.iconst 0, 1) := by decide +kernel
theorem dX6_does_138 : decode cX6_does 138 = .ok (.iaload, 1) := by decide +kernel
theorem dX6_does_139 : decode cX6_does 139 = .ok (.invokevirtual 264, 3) := by decide +kernel
theorem dX6_does_142 : decode cX6_does 142 = .ok (.ireturn, 1) := by decide +kernel
theorem dX6_does_143 : decode cX6_does 143 = .ok (.aload_n 0, 1) := by decide +kernel
theorem dX6_does_144 : decode cX6_does 144 = .ok (.aload_n 0, 1) := by decide +kernel
theorem dX6_does_145 : decode cX6_does 145 = .ok (.getfield 36, 3) := by decide +kernel
theorem dX6_does_148 : decode cX6_does 148 = .ok (.iconst 0, 1) := by decide +kernel
theorem dX6_does_149 : decode cX6_does 149 = .ok (.iaload, 1) := by decide +kernel
theorem dX6_does_150 : decode cX6_does 150 = .ok (.aload_n 0, 1) := by decide +kernel
theorem dX6_does_151 : decode cX6_does 151 = .ok (.getfield 36, 3) := by decide +kernel
theorem dX6_does_154 : decode cX6_does 154 = .ok (.iconst 1, 1) := by decide +kernel
theorem dX6_does_155 : decode cX6_does 155 = .ok (.iaload, 1) := by decide +kernel
theorem dX6_does_156 : decode cX6_does 156 = .ok (.invokevirtual 267, 3) := by decide +kernel
theorem dX6_does_159 : decode cX6_does 159 = .ok (.ireturn, 1) := by decide +kernel
theorem dX6_does_160 : decode cX6_does 160 = .ok (.aload_n 0, 1) := by decide +kernel
theorem dX6_does_161 : decode cX6_does 161 = .ok (.aload_n 0, 1) := by decide +kernel
theorem dX6_does_162 : decode cX6_does 162 = .ok (.getfield 36, 3) := by decide +kernel
theorem dX6_does_165 : decode cX6_does 165 = .ok (.iconst 0, 1) := by decide +kernel
theorem dX6_does_166 : decode cX6_does 166 = .ok (.iaload, 1) := by decide +kernel
theorem dX6_does_167 : decode cX6_does 167 = .ok (.aload_n 0, 1) := by decide +kernel
theorem dX6_does_168 : decode cX6_does 168 = .ok (.getfield 36, 3) := by decide +kernel
theorem dX6_does_171 : decode cX6_does 171 = .ok (.iconst 1, 1) := by decide +kernel
theorem dX6_does_172 : decode cX6_does 172 = .ok (.iaload, 1) := by decide +kernel
theorem dX6_does_173 : decode cX6_does 173 = .ok (.aload_n 0, 1) := by decide +kernel
theorem dX6_does_174 : decode cX6_does 174 = .ok (.getfield 36, 3) := by decide +kernel
theorem dX6_does_177 : decode cX6_does 177 = .ok (.iconst 2, 1) := by decide +kernel
theorem dX6_does_178 : decode cX6_does 178 = .ok (.iaload, 1) := by decide +kernel
theorem dX6_does_179 : decode cX6_does 179 = .ok (.invokevirtual 270, 3) := by decide +kernel
theorem dX6_does_182 : decode cX6_does 182 = .ok (.ireturn, 1) := by decide +kernel
theorem dX6_does_183 : decode cX6_does 183 = .ok (.aload_n 0, 1) := by decide +kernel
theorem dX6_does_184 : decode cX6_does 184 = .ok (.aload_n 0, 1) := by decide +kernel
theorem dX6_does_185 : decode cX6_does 185 = .ok (.getfield 36, 3) := by decide +kernel
theorem dX6_does_188 : decode cX6_does 188 = .ok (.iconst 0, 1) := by decide +kernel
theorem dX6_does_189 : decode cX6_does 189 = .ok (.iaload, 1) := by decide +kernel
theorem dX6_does_190 : decode cX6_does 190 = .ok (.aload_n 0, 1) := by decide +kernel
theorem dX6_does_191 : decode cX6_does 191 = .ok (.getfield 36, 3) := by decide +kernel
theorem dX6_does_194 : decode cX6_does 194 = .ok (.iconst 1, 1) := by decide +kernel
theorem dX6_does_195 : decode cX6_does 195 = .ok (.iaload, 1) := by decide +kernel
theorem dX6_does_196 : decode cX6_does 196 = .ok (.invokevirtual 274, 3) := by decide +kernel
theorem dX6_does_199 : decode cX6_does 199 = .ok (.ireturn, 1) := by decide +kernel
theorem dX6_does_200 : decode cX6_does 200 = .ok (.aload_n 0, 1) := by decide +kernel
theorem dX6_does_201 : decode cX6_does 201 = .ok (.aload_n 0, 1) := by decide +kernel
theorem dX6_does_202 : decode cX6_does 202 = .ok (.getfield 36, 3) := by decide +kernel
theorem dX6_does_205 : decode cX6_does 205 = .ok (.iconst 0, 1) := by decide +kernel
theorem dX6_does_206 : decode cX6_does 206 = .ok (.iaload, 1) := by decide +kernel
theorem dX6_does_207 : decode cX6_does 207 = .ok (.aload_n 0, 1) := by decide +kernel
theorem dX6_does_208 : decode cX6_does 208 = .ok (.getfield 36, 3) := by decide +kernel
theorem dX6_does_211 : decode cX6_does 211 = .ok (.iconst 1, 1) := by decide +kernel
theorem dX6_does_212 : decode cX6_does 212 = .ok (.iaload, 1) := by decide +kernel
theorem dX6_does_213 : decode cX6_does 213 = .ok (.invokevirtual 277, 3) := by decide +kernel
theorem dX6_does_216 : decode cX6_does 216 = .ok (.ireturn, 1) := by decide +kernel
theorem dX6_does_217 : decode cX6_does 217 = .ok (.aload_n 0, 1) := by decide +kernel
theorem dX6_does_218 : decode cX6_does 218 = .ok (.aload_n 0, 1) := by decide +kernel
theorem dX6_does_219 : decode cX6_does 219 = .ok (.getfield 36, 3) := by decide +kernel
theorem dX6_does_222 : decode cX6_does 222 = .ok (.iconst 0, 1) := by decide +kernel
theorem dX6_does_223 : decode cX6_does 223 = .ok (.iaload, 1) := by decide +kernel
theorem dX6_does_224 : decode cX6_does 224 = .ok (.invokevirtual 280, 3) := by decide +kernel
theorem dX6_does_227 : decode cX6_does 227 = .ok (.ireturn, 1) := by decide +kernel
theorem dX6_commandText_0 : decode cX6_commandText 0 = .ok (.aload_n 0, 1) := by decide +kernel
theorem dX6_commandText_1 : decode cX6_commandText 1 = .ok (.invokevirtual 189, 3) := by decide +kernel
theorem dX6_commandText_4 : decode cX6_commandText 4 = .ok (.aload_n 0, 1) := by decide +kernel
theorem dX6_commandText_5 : decode cX6_commandText 5 = .ok (.iload_n 1, 1) := by decide +kernel
theorem dX6_commandText_6 : decode cX6_commandText 6 = .ok (.invokevirtual 283, 3) := by decide +kernel
theorem dX6_commandText_9 : decode cX6_commandText 9 = .ok (.ifCond .eq 10, 3) := by decide +kernel
theorem dX6_commandText_12 : decode cX6_commandText 12 = .ok (.aload_n 0, 1) := by decide +kernel
theorem dX6_commandText_13 : decode cX6_commandText 13 = .ok (.invokevirtual 192, 3) := by decide +kernel
theorem dX6_commandText_16 : decode cX6_commandText 16 = .ok (.ifCond .ne 5, 3) := by decide +kernel
theorem dX6_commandText_19 : decode cX6_commandText 19 = .ok (.iconst 0, 1) := by decide +kernel
theorem dX6_commandText_20 : decode cX6_commandText 20 = .ok (.ireturn, 1) := by decide +kernel
theorem dX6_commandText_21 : decode cX6_commandText 21 = .ok (.aload_n 0, 1) := by decide +kernel
theorem dX6_commandText_22 : decode cX6_commandText 22 = .ok (.iload_n 1, 1) := by decide +kernel
theorem dX6_commandText_23 : decode cX6_commandText 23 = .ok (.invokevirtual 286, 3) := by decide +kernel
theorem dX6_commandText_26 : decode cX6_commandText 26 = .ok (.ifCond .ne 9, 3) := by decide +kernel
theorem dX6_commandText_29 : decode cX6_commandText 29 = .ok (.aload_n 0, 1) := by decide +kernel
theorem dX6_commandText_30 : decode cX6_commandText 30 = .ok (.iconst 3, 1) := by decide +kernel
theorem dX6_commandText_31 : decode cX6_commandText 31 = .ok (.invokevirtual 186, 3) := by decide +kernel
theorem dX6_commandText_34 : decode cX6_commandText 34 = .ok (.ireturn, 1) := by decide +kernel
theorem dX6_commandText_35 : decode cX6_commandText 35 = .ok (.aload_n 0, 1) := by decide +kernel
theorem dX6_commandText_36 : decode cX6_commandText 36 = .ok (.iload_n 1, 1) := by decide +kernel
theorem dX6_commandText_37 : decode cX6_commandText 37 = .ok (.invokevirtual 289, 3) := by decide +kernel
theorem dX6_commandText_40 : decode cX6_commandText 40 = .ok (.istore_n 2, 1) := by decide +kernel
theorem dX6_commandText_41 : decode cX6_commandText 41 = .ok (.iconst 1, 1) := by decide +kernel
theorem dX6_commandText_42 : decode cX6_commandText 42 = .ok (.ireturn, 1) := by decide +kernel
theorem dX6_loadSetup_0 : decode cX6_loadSetup 0 = .ok (.aload_n 0, 1) := by decide +kernel
theorem dX6_loadSetup_1 : decode cX6_loadSetup 1 = .ok (.iconst 0, 1) := by decide +kernel
theorem dX6_loadSetup_2 : decode cX6_loadSetup 2 = .ok (.putfield 60, 3) := by decide +kernel
theorem dX6_loadSetup_5 : decode cX6_loadSetup 5 = .ok (.aload_n 0, 1) := by decide +kernel
theorem dX6_loadSetup_6 : decode cX6_loadSetup 6 = .ok (.invokevirtual 292, 3) := by decide +kernel
theorem dX6_loadSetup_9 : decode cX6_loadSetup 9 = .ok (.iconst 0, 1) := by decide +kernel
theorem dX6_loadSetup_10 : decode cX6_loadSetup 10 = .ok (.istore_n 1, 1) := by decide +kernel
theorem dX6_loadSetup_11 : decode cX6_loadSetup 11 = .ok (.iload_n 1, 1) := by decide +kernel
theorem dX6_loadSetup_12 : decode cX6_loadSetup 12 = .ok (.sipush 149, 3) := by decide +kernel
theorem dX6_loadSetup_15 : decode cX6_loadSetup 15 = .ok (.if_icmp .ge 16, 3) := by decide +kernel
theorem dX6_loadSetup_18 : decode cX6_loadSetup 18 = .ok (.aload_n 0, 1) := by decide +kernel
theorem dX6_loadSetup_19 : decode cX6_loadSetup 19 = .ok (.getfield 17, 3) := by decide +kernel
theorem dX6_loadSetup_22 : decode cX6_loadSetup 22 = .ok (.iload_n 1, 1) := by decide +kernel
theorem dX6_loadSetup_23 : decode cX6_loadSetup 23 = .ok (.iconst 0, 1) := by decide +kernel
theorem dX6_loadSetup_24 : decode cX6_loadSetup 24 = .ok (.iastore, 1) := by decide +kernel
theorem dX6_loadSetup_25 : decode cX6_loadSetup 25 = .ok (.iinc 1 1, 3) := by decide +kernel
theorem dX6_loadSetup_28 : decode cX6_loadSetup 28 = .ok (.goto (-17), 3) := by decide +kernel
theorem dX6_loadSetup_31 : decode cX6_loadSetup 31 = .ok (.aload_n 0, 1) := by decide +kernel
theorem dX6_loadSetup_32 : decode cX6_loadSetup 32 = .ok (.invokevirtual 295, 3) := by decide +kernel
theorem dX6_loadSetup_35 : decode cX6_loadSetup 35 = .ok (.aload_n 0, 1) := by decide +kernel
theorem dX6_loadSetup_36 : decode cX6_loadSetup 36 = .ok (.invokevirtual 298, 3) := by decide +kernel
theorem dX6_loadSetup_39 : decode cX6_loadSetup 39 = .ok (.istore_n 1, 1) := by decide +kernel
theorem dX6_loadSetup_40 : decode cX6_loadSetup 40 = .ok (.aload_n 0, 1) := by decide +kernel
theorem dX6_loadSetup_41 : decode cX6_loadSetup 41 = .ok (.iconst 0, 1) := by decide +kernel
theorem dX6_loadSetup_42 : decode cX6_loadSetup 42 = .ok (.putfield 54, 3) := by decide +kernel
theorem dX6_loadSetup_45 : decode cX6_loadSetup 45 = .ok (.iload_n 1, 1) := by decide +kernel
theorem dX6_loadSetup_46 : decode cX6_loadSetup 46 = .ok (.ifCond .ne 9, 3) := by decide +kernel
theorem dX6_loadSetup_49 : decode cX6_loadSetup 49 = .ok (.aload_n 0, 1) := by decide +kernel
theorem dX6_loadSetup_50 : decode cX6_loadSetup 50 = .ok (.iconst (-1), 1) := by decide +kernel
theorem dX6_loadSetup_51 : decode cX6_loadSetup 51 = .ok (.invokevirtual 301, 3) := by decide +kernel
theorem dX6_loadSetup_54 : decode cX6_loadSetup 54 = .ok (.ireturn, 1) := by decide +kernel
theorem dX6_loadSetup_55 : decode cX6_loadSetup 55 = .ok (.aload_n 0, 1) := by decide +kernel
theorem dX6_loadSetup_56 : decode cX6_loadSetup 56 = .ok (.iconst 0, 1) := by decide +kernel
theorem dX6_loadSetup_57 : decode cX6_loadSetup 57 = .ok (.putfield 304, 3) := by decide +kernel
theorem dX6_loadSetup_60 : decode cX6_loadSetup 60 = .ok (.aload_n 0, 1) := by decide +kernel
theorem dX6_loadSetup_61 : decode cX6_loadSetup 61 = .ok (.getfield 32, 3) := by decide +kernel
theorem dX6_loadSetup_64 : decode cX6_loadSetup 64 = .ok (.iconst 0, 1) := by decide +kernel
theorem dX6_loadSetup_65 : decode cX6_loadSetup 65 = .ok (.iconst 0, 1) := by decide +kernel
theorem dX6_loadSetup_66 : decode cX6_loadSetup 66 = .ok (.bastore, 1) := by decide +kernel
theorem dX6_loadSetup_67 : decode cX6_loadSetup 67 = .ok (.aload_n 0, 1) := by decide +kernel
theorem dX6_loadSetup_68 : decode cX6_loadSetup 68 = .ok (.getfield 32, 3) := by decide +kernel
theorem dX6_loadSetup_71 : decode cX6_loadSetup 71 = .ok (.iconst 1, 1) := by decide +kernel
theorem dX6_loadSetup_72 : decode cX6_loadSetup 72 = .ok (.iconst 0, 1) := by decide +kernel
theorem dX6_loadSetup_73 : decode cX6_loadSetup 73 = .ok (.bastore, 1) := by decide +kernel
theorem dX6_loadSetup_74 : decode cX6_loadSetup 74 = .ok (.aload_n 0, 1) := by decide +kernel
theorem dX6_loadSetup_75 : decode cX6_loadSetup 75 = .ok (.getfield 17, 3) := by decide +kernel
theorem dX6_loadSetup_78 : decode cX6_loadSetup 78 = .ok (.bipush 7, 2) := by decide +kernel
theorem dX6_loadSetup_80 : decode cX6_loadSetup 80 = .ok (.iaload, 1) := by decide +kernel
theorem dX6_loadSetup_81 : decode cX6_loadSetup 81 = .ok (.ireturn, 1) := by decide +kernel
theorem dX6_runScript_0 : decode cX6_runScript 0 = .ok (.aload_n 0, 1) := by decide +kernel
theorem dX6_runScript_1 : decode cX6_runScript 1 = .ok (.iconst 0, 1) := by decide +kernel
theorem dX6_runScript_2 : decode cX6_runScript 2 = .ok (.putfield 60, 3) := by decide +kernel
theorem dX6_runScript_5 : decode cX6_runScript 5 = .ok (.aload_n 0, 1) := by decide +kernel
theorem dX6_runScript_6 : decode cX6_runScript 6 = .ok (.invokevirtual 292, 3) := by decide +kernel
theorem dX6_runScript_9 : decode cX6_runScript 9 = .ok (.aload_n 0, 1) := by decide +kernel
theorem dX6_runScript_10 : decode cX6_runScript 10 = .ok (.invokevirtual 295, 3) := by decide +kernel
theorem dX6_runScript_13 : decode cX6_runScript 13 = .ok (.aload_n 0, 1) := by decide +kernel
theorem dX6_runScript_14 : decode cX6_runScript 14 = .ok (.invokevirtual 212, 3) := by decide +kernel
theorem dX6_runScript_17 : decode cX6_runScript 17 = .ok (.istore_n 1, 1) := by decide +kernel
theorem dX6_runScript_18 : decode cX6_runScript 18 = .ok (.aload_n 0, 1) := by decide +kernel
theorem dX6_runScript_19 : decode cX6_runScript 19 = .ok (.iconst 0, 1) := by decide +kernel
theorem dX6_runScript_20 : decode cX6_runScript 20 = .ok (.putfield 54, 3) := by decide +kernel
theorem dX6_runScript_23 : decode cX6_runScript 23 = .ok (.iload_n 1, 1) := by decide +kernel
theorem dX6_runScript_24 : decode cX6_runScript 24 = .ok (.ifCond .ge 9, 3) := by decide +kernel
theorem dX6_runScript_27 : decode cX6_runScript 27 = .ok (.aload_n 0, 1) := by decide +kernel
theorem dX6_runScript_28 : decode cX6_runScript 28 = .ok (.iconst (-1), 1) := by decide +kernel
theorem dX6_runScript_29 : decode cX6_runScript 29 = .ok (.invokevirtual 301, 3) := by decide +kernel
theorem dX6_runScript_32 : decode cX6_runScript 32 = .ok (.ireturn, 1) := by decide +kernel
theorem dX6_runScript_33 : decode cX6_runScript 33 = .ok (.iconst 0, 1) := by decide +kernel
theorem dX6_runScript_34 : decode cX6_runScript 34 = .ok (.istore_n 2, 1) := by decide +kernel
theorem dX6_runScript_35 : decode cX6_runScript 35 = .ok (.iload_n 2, 1) := by decide +kernel
theorem dX6_runScript_36 : decode cX6_runScript 36 = .ok (.sipush 149, 3) := by decide +kernel
theorem dX6_runScript_39 : decode cX6_runScript 39 = .ok (.if_icmp .ge 21, 3) := by decide +kernel
theorem dX6_runScript_42 : decode cX6_runScript 42 = .ok (.aload_n 0, 1) := by decide +kernel
theorem dX6_runScript_43 : decode cX6_runScript 43 = .ok (.getfield 20, 3) := by decide +kernel
theorem dX6_runScript_46 : decode cX6_runScript 46 = .ok (.iload_n 2, 1) := by decide +kernel
theorem dX6_runScript_47 : decode cX6_runScript 47 = .ok (.aload_n 0, 1) := by decide +kernel
theorem dX6_runScript_48 : decode cX6_runScript 48 = .ok (.getfield 23, 3) := by decide +kernel
theorem dX6_runScript_51 : decode cX6_runScript 51 = .ok (.iload_n 2, 1) := by decide +kernel
theorem dX6_runScript_52 : decode cX6_runScript 52 = .ok (.iaload, 1) := by decide +kernel
theorem dX6_runScript_53 : decode cX6_runScript 53 = .ok (.iastore, 1) := by decide +kernel
theorem dX6_runScript_54 : decode cX6_runScript 54 = .ok (.iinc 2 1, 3) := by decide +kernel
theorem dX6_runScript_57 : decode cX6_runScript 57 = .ok (.goto (-22), 3) := by decide +kernel
theorem dX6_runScript_60 : decode cX6_runScript 60 = .ok (.aload_n 0, 1) := by decide +kernel
theorem dX6_runScript_61 : decode cX6_runScript 61 = .ok (.invokevirtual 307, 3) := by decide +kernel
theorem dX6_runScript_64 : decode cX6_runScript 64 = .ok (.iload_n 1, 1) := by decide +kernel
theorem dX6_runScript_65 : decode cX6_runScript 65 = .ok (.ireturn, 1) := by decide +kernel
theorem dX6_startTrial_0 : decode cX6_startTrial 0 = .ok (.iconst 0, 1) := by decide +kernel
theorem dX6_startTrial_1 : decode cX6_startTrial 1 = .ok (.istore_n 1, 1) := by decide +kernel
theorem dX6_startTrial_2 : decode cX6_startTrial 2 = .ok (.iload_n 1, 1) := by decide +kernel
theorem dX6_startTrial_3 : decode cX6_startTrial 3 = .ok (.sipush 149, 3) := by decide +kernel
theorem dX6_startTrial_6 : decode cX6_startTrial 6 = .ok (.if_icmp .ge 21, 3) := by decide +kernel
theorem dX6_startTrial_9 : decode cX6_startTrial 9 = .ok (.aload_n 0, 1) := by decide +kernel
theorem dX6_startTrial_10 : decode cX6_startTrial 10 = .ok (.getfield 23, 3) := by decide +kernel
theorem dX6_startTrial_13 : decode cX6_startTrial 13 = .ok (.iload_n 1, 1) := by decide +kernel
theorem dX6_startTrial_14 : decode cX6_startTrial 14 = .ok (.aload_n 0, 1) := by decide +kernel
theorem dX6_startTrial_15 : decode cX6_startTrial 15 = .ok (.getfield 17, 3) := by decide +kernel
theorem dX6_startTrial_18 : decode cX6_startTrial 18 = .ok (.iload_n 1, 1) := by decide +kernel
theorem dX6_startTrial_19 : decode cX6_startTrial 19 = .ok (.iaload, 1) := by decide +kernel
theorem dX6_startTrial_20 : decode cX6_startTrial 20 = .ok (.iastore, 1) := by decide +kernel
theorem dX6_startTrial_21 : decode cX6_startTrial 21 = .ok (.iinc 1 1, 3) := by decide +kernel
theorem dX6_startTrial_24 : decode cX6_startTrial 24 = .ok (.goto (-22), 3) := by decide +kernel
theorem dX6_startTrial_27 : decode cX6_startTrial 27 = .ok (.return_, 1) := by decide +kernel
theorem dX6_putBack_0 : decode cX6_putBack 0 = .ok (.iconst 0, 1) := by decide +kernel
theorem dX6_putBack_1 : decode cX6_putBack 1 = .ok (.istore_n 2, 1) := by decide +kernel
theorem dX6_putBack_2 : decode cX6_putBack 2 = .ok (.iload_n 2, 1) := by decide +kernel
theorem dX6_putBack_3 : decode cX6_putBack 3 = .ok (.sipush 149, 3) := by decide +kernel
theorem dX6_putBack_6 : decode cX6_putBack 6 = .ok (.if_icmp .ge 21, 3) := by decide +kernel
theorem dX6_putBack_9 : decode cX6_putBack 9 = .ok (.aload_n 0, 1) := by decide +kernel
theorem dX6_putBack_10 : decode cX6_putBack 10 = .ok (.getfield 17, 3) := by decide +kernel
theorem dX6_putBack_13 : decode cX6_putBack 13 = .ok (.iload_n 2, 1) := by decide +kernel
theorem dX6_putBack_14 : decode cX6_putBack 14 = .ok (.aload_n 0, 1) := by decide +kernel
theorem dX6_putBack_15 : decode cX6_putBack 15 = .ok (.getfield 23, 3) := by decide +kernel
theorem dX6_putBack_18 : decode cX6_putBack 18 = .ok (.iload_n 2, 1) := by decide +kernel
theorem dX6_putBack_19 : decode cX6_putBack 19 = .ok (.iaload, 1) := by decide +kernel
theorem dX6_putBack_20 : decode cX6_putBack 20 = .ok (.iastore, 1) := by decide +kernel
theorem dX6_putBack_21 : decode cX6_putBack 21 = .ok (.iinc 2 1, 3) := by decide +kernel
theorem dX6_putBack_24 : decode cX6_putBack 24 = .ok (.goto (-22), 3) := by decide +kernel
theorem dX6_putBack_27 : decode cX6_putBack 27 = .ok (.iload_n 1, 1) := by decide +kernel
theorem dX6_putBack_28 : decode cX6_putBack 28 = .ok (.ireturn, 1) := by decide +kernel
theorem dX6_plain_0 : decode cX6_plain 0 = .ok (.aload_n 0, 1) := by decide +kernel
theorem dX6_plain_1 : decode cX6_plain 1 = .ok (.iconst 0, 1) := by decide +kernel
theorem dX6_plain_2 : decode cX6_plain 2 = .ok (.putfield 60, 3) := by decide +kernel
theorem dX6_plain_5 : decode cX6_plain 5 = .ok (.iload_n 1, 1) := by decide +kernel
theorem dX6_plain_6 : decode cX6_plain 6 = .ok (.ireturn, 1) := by decide +kernel
theorem dX6_errorCode_0 : decode cX6_errorCode 0 = .ok (.aload_n 0, 1) := by decide +kernel
theorem dX6_errorCode_1 : decode cX6_errorCode 1 = .ok (.aload_n 0, 1) := by decide +kernel
theorem dX6_errorCode_2 : decode cX6_errorCode 2 = .ok (.getfield 179, 3) := by decide +kernel
theorem dX6_errorCode_5 : decode cX6_errorCode 5 = .ok (.invokevirtual 310, 3) := by decide +kernel
theorem dX6_errorCode_8 : decode cX6_errorCode 8 = .ok (.ireturn, 1) := by decide +kernel
theorem dX6_errorPosition_0 : decode cX6_errorPosition 0 = .ok (.aload_n 0, 1) := by decide +kernel
theorem dX6_errorPosition_1 : decode cX6_errorPosition 1 = .ok (.aload_n 0, 1) := by decide +kernel
theorem dX6_errorPosition_2 : decode cX6_errorPosition 2 = .ok (.getfield 13, 3) := by decide +kernel
theorem dX6_errorPosition_5 : decode cX6_errorPosition 5 = .ok (.invokevirtual 310, 3) := by decide +kernel
theorem dX6_errorPosition_8 : decode cX6_errorPosition 8 = .ok (.ireturn, 1) := by decide +kernel
theorem dX6_minute_0 : decode cX6_minute 0 = .ok (.aload_n 0, 1) := by decide +kernel
theorem dX6_minute_1 : decode cX6_minute 1 = .ok (.aload_n 0, 1) := by decide +kernel
theorem dX6_minute_2 : decode cX6_minute 2 = .ok (.getfield 17, 3) := by decide +kernel
theorem dX6_minute_5 : decode cX6_minute 5 = .ok (.iconst 0, 1) := by decide +kernel
theorem dX6_minute_6 : decode cX6_minute 6 = .ok (.iaload, 1) := by decide +kernel
theorem dX6_minute_7 : decode cX6_minute 7 = .ok (.invokevirtual 310, 3) := by decide +kernel
theorem dX6_minute_10 : decode cX6_minute 10 = .ok (.ireturn, 1) := by decide +kernel
theorem dX6_shadowWidth_0 : decode cX6_shadowWidth 0 = .ok (.aload_n 0, 1) := by decide +kernel
theorem dX6_shadowWidth_1 : decode cX6_shadowWidth 1 = .ok (.aload_n 0, 1) := by decide +kernel
theorem dX6_shadowWidth_2 : decode cX6_shadowWidth 2 = .ok (.getfield 17, 3) := by decide +kernel
theorem dX6_shadowWidth_5 : decode cX6_shadowWidth 5 = .ok (.iconst 1, 1) := by decide +kernel
theorem dX6_shadowWidth_6 : decode cX6_shadowWidth 6 = .ok (.iaload, 1) := by decide +kernel
theorem dX6_shadowWidth_7 : decode cX6_shadowWidth 7 = .ok (.invokevirtual 310, 3) := by decide +kernel
theorem dX6_shadowWidth_10 : decode cX6_shadowWidth 10 = .ok (.ireturn, 1) := by decide +kernel
theorem dX6_undoCount_0 : decode cX6_undoCount 0 = .ok (.aload_n 0, 1) := by decide +kernel
theorem dX6_undoCount_1 : decode cX6_undoCount 1 = .ok (.aload_n 0, 1) := by decide +kernel
theorem dX6_undoCount_2 : decode cX6_undoCount 2 = .ok (.getfield 304, 3) := by decide +kernel
theorem dX6_undoCount_5 : decode cX6_undoCount 5 = .ok (.invokevirtual 310, 3) := by decide +kernel
theorem dX6_undoCount_8 : decode cX6_undoCount 8 = .ok (.ireturn, 1) := by decide +kernel
theorem dX6_isMinute_0 : decode cX6_isMinute 0 = .ok (.aload_n 0, 1) := by decide +kernel
theorem dX6_isMinute_1 : decode cX6_isMinute 1 = .ok (.iconst 0, 1) := by decide +kernel
theorem dX6_isMinute_2 : decode cX6_isMinute 2 = .ok (.putfield 60, 3) := by decide +kernel
theorem dX6_isMinute_5 : decode cX6_isMinute 5 = .ok (.aload_n 0, 1) := by decide +kernel
theorem dX6_isMinute_6 : decode cX6_isMinute 6 = .ok (.iload_n 1, 1) := by decide +kernel
theorem dX6_isMinute_7 : decode cX6_isMinute 7 = .ok (.iconst 0, 1) := by decide +kernel
theorem dX6_isMinute_8 : decode cX6_isMinute 8 = .ok (.ldc 178, 2) := by decide +kernel
theorem dX6_isMinute_10 : decode cX6_isMinute 10 = .ok (.invokestatic 63, 3) := by decide +kernel
theorem dX6_isMinute_13 : decode cX6_isMinute 13 = .ok (.iconst 1, 1) := by decide +kernel
theorem dX6_isMinute_14 : decode cX6_isMinute 14 = .ok (.invokevirtual 313, 3) := by decide +kernel
theorem dX6_isMinute_17 : decode cX6_isMinute 17 = .ok (.ifCond .ne 7, 3) := by decide +kernel
theorem dX6_isMinute_20 : decode cX6_isMinute 20 = .ok (.iconst 1, 1) := by decide +kernel
theorem dX6_isMinute_21 : decode cX6_isMinute 21 = .ok (.goto 4, 3) := by decide +kernel
theorem dX6_isMinute_24 : decode cX6_isMinute 24 = .ok (.iconst 0, 1) := by decide +kernel
theorem dX6_isMinute_25 : decode cX6_isMinute 25 = .ok (.ireturn, 1) := by decide +kernel
theorem dX6_windIn_0 : decode cX6_windIn 0 = .ok (.aload_n 0, 1) := by decide +kernel
theorem dX6_windIn_1 : decode cX6_windIn 1 = .ok (.iload_n 1, 1) := by decide +kernel
theorem dX6_windIn_2 : decode cX6_windIn 2 = .ok (.invokevirtual 317, 3) := by decide +kernel
theorem dX6_windIn_5 : decode cX6_windIn 5 = .ok (.ifCond .eq 11, 3) := by decide +kernel
theorem dX6_windIn_8 : decode cX6_windIn 8 = .ok (.aload_n 0, 1) := by decide +kernel
theorem dX6_windIn_9 : decode cX6_windIn 9 = .ok (.iload_n 1, 1) := by decide +kernel
theorem dX6_windIn_10 : decode cX6_windIn 10 = .ok (.invokevirtual 72, 3) := by decide +kernel
theorem dX6_windIn_13 : decode cX6_windIn 13 = .ok (.goto 4, 3) := by decide +kernel
theorem dX6_windIn_16 : decode cX6_windIn 16 = .ok (.iconst 0, 1) := by decide +kernel
theorem dX6_windIn_17 : decode cX6_windIn 17 = .ok (.ireturn, 1) := by decide +kernel
theorem dX6_rainIn_0 : decode cX6_rainIn 0 = .ok (.aload_n 0, 1) := by decide +kernel
theorem dX6_rainIn_1 : decode cX6_rainIn 1 = .ok (.iload_n 1, 1) := by decide +kernel
theorem dX6_rainIn_2 : decode cX6_rainIn 2 = .ok (.invokevirtual 317, 3) := by decide +kernel
theorem dX6_rainIn_5 : decode cX6_rainIn 5 = .ok (.ifCond .eq 11, 3) := by decide +kernel
theorem dX6_rainIn_8 : decode cX6_rainIn 8 = .ok (.aload_n 0, 1) := by decide +kernel
theorem dX6_rainIn_9 : decode cX6_rainIn 9 = .ok (.iload_n 1, 1) := by decide +kernel
theorem dX6_rainIn_10 : decode cX6_rainIn 10 = .ok (.invokevirtual 67, 3) := by decide +kernel
theorem dX6_rainIn_13 : decode cX6_rainIn 13 = .ok (.goto 4, 3) := by decide +kernel
theorem dX6_rainIn_16 : decode cX6_rainIn 16 = .ok (.iconst 0, 1) := by decide +kernel
theorem dX6_rainIn_17 : decode cX6_rainIn 17 = .ok (.ireturn, 1) := by decide +kernel
theorem dX6_sunnySpots_0 : decode cX6_sunnySpots 0 = .ok (.aload_n 0, 1) := by decide +kernel
theorem dX6_sunnySpots_1 : decode cX6_sunnySpots 1 = .ok (.iload_n 1, 1) := by decide +kernel
theorem dX6_sunnySpots_2 : decode cX6_sunnySpots 2 = .ok (.invokevirtual 317, 3) := by decide +kernel
theorem dX6_sunnySpots_5 : decode cX6_sunnySpots 5 = .ok (.ifCond .eq 11, 3) := by decide +kernel
theorem dX6_sunnySpots_8 : decode cX6_sunnySpots 8 = .ok (.aload_n 0, 1) := by decide +kernel
theorem dX6_sunnySpots_9 : decode cX6_sunnySpots 9 = .ok (.iload_n 1, 1) := by decide +kernel
theorem dX6_sunnySpots_10 : decode cX6_sunnySpots 10 = .ok (.invokevirtual 114, 3) := by decide +kernel
theorem dX6_sunnySpots_13 : decode cX6_sunnySpots 13 = .ok (.goto 4, 3) := by decide +kernel
theorem dX6_sunnySpots_16 : decode cX6_sunnySpots 16 = .ok (.iconst 0, 1) := by decide +kernel
theorem dX6_sunnySpots_17 : decode cX6_sunnySpots 17 = .ok (.ireturn, 1) := by decide +kernel
theorem dX6_smokySpots_0 : decode cX6_smokySpots 0 = .ok (.aload_n 0, 1) := by decide +kernel
theorem dX6_smokySpots_1 : decode cX6_smokySpots 1 = .ok (.iload_n 1, 1) := by decide +kernel
theorem dX6_smokySpots_2 : decode cX6_smokySpots 2 = .ok (.invokevirtual 317, 3) := by decide +kernel
theorem dX6_smokySpots_5 : decode cX6_smokySpots 5 = .ok (.ifCond .eq 11, 3) := by decide +kernel
theorem dX6_smokySpots_8 : decode cX6_smokySpots 8 = .ok (.aload_n 0, 1) := by decide +kernel
theorem dX6_smokySpots_9 : decode cX6_smokySpots 9 = .ok (.iload_n 1, 1) := by decide +kernel
theorem dX6_smokySpots_10 : decode cX6_smokySpots 10 = .ok (.invokevirtual 123, 3) := by decide +kernel
theorem dX6_smokySpots_13 : decode cX6_smokySpots 13 = .ok (.goto 4, 3) := by decide +kernel
theorem dX6_smokySpots_16 : decode cX6_smokySpots 16 = .ok (.iconst 0, 1) := by decide +kernel
theorem dX6_smokySpots_17 : decode cX6_smokySpots 17 = .ok (.ireturn, 1) := by decide +kernel
theorem dX6_minutesToRain_0 : decode cX6_minutesToRain 0 = .ok (.aload_n 0, 1) := by decide +kernel
theorem dX6_minutesToRain_1 : decode cX6_minutesToRain 1 = .ok (.iconst 0, 1) := by decide +kernel
theorem dX6_minutesToRain_2 : decode cX6_minutesToRain 2 = .ok (.putfield 60, 3) := by decide +kernel
theorem dX6_minutesToRain_5 : decode cX6_minutesToRain 5 = .ok (.iconst (-1), 1) := by decide +kernel
theorem dX6_minutesToRain_6 : decode cX6_minutesToRain 6 = .ok (.istore_n 1, 1) := by decide +kernel
theorem dX6_minutesToRain_7 : decode cX6_minutesToRain 7 = .ok (.iconst 0, 1) := by decide +kernel
theorem dX6_minutesToRain_8 : decode cX6_minutesToRain 8 = .ok (.istore_n 2, 1) := by decide +kernel
theorem dX6_minutesToRain_9 : decode cX6_minutesToRain 9 = .ok (.iload_n 2, 1) := by decide +kernel
theorem dX6_minutesToRain_10 : decode cX6_minutesToRain 10 = .ok (.aload_n 0, 1) := by decide +kernel
theorem dX6_minutesToRain_11 : decode cX6_minutesToRain 11 = .ok (.getfield 17, 3) := by decide +kernel
theorem dX6_minutesToRain_14 : decode cX6_minutesToRain 14 = .ok (.iconst 5, 1) := by decide +kernel
theorem dX6_minutesToRain_15 : decode cX6_minutesToRain 15 = .ok (.iaload, 1) := by decide +kernel
theorem dX6_minutesToRain_16 : decode cX6_minutesToRain 16 = .ok (.if_icmp .ge 89, 3) := by decide +kernel
theorem dX6_minutesToRain_19 : decode cX6_minutesToRain 19 = .ok (.aload_n 0, 1) := by decide +kernel
theorem dX6_minutesToRain_20 : decode cX6_minutesToRain 20 = .ok (.getfield 17, 3) := by decide +kernel
theorem dX6_minutesToRain_23 : decode cX6_minutesToRain 23 = .ok (.bipush 19, 2) := by decide +kernel
theorem dX6_minutesToRain_25 : decode cX6_minutesToRain 25 = .ok (.iconst 3, 1) := by decide +kernel
theorem dX6_minutesToRain_26 : decode cX6_minutesToRain 26 = .ok (.iload_n 2, 1) := by decide +kernel
theorem dX6_minutesToRain_27 : decode cX6_minutesToRain 27 = .ok (.imul, 1) := by decide +kernel
theorem dX6_minutesToRain_28 : decode cX6_minutesToRain 28 = .ok (.iadd, 1) := by decide +kernel
theorem dX6_minutesToRain_29 : decode cX6_minutesToRain 29 = .ok (.iaload, 1) := by decide +kernel
theorem dX6_minutesToRain_30 : decode cX6_minutesToRain 30 = .ok (.istore_n 3, 1) := by decide +kernel
theorem dX6_minutesToRain_31 : decode cX6_minutesToRain 31 = .ok (.iconst 0, 1) := by decide +kernel
theorem dX6_minutesToRain_32 : decode cX6_minutesToRain 32 = .ok (.iload_n 3, 1) := by decide +kernel
theorem dX6_minutesToRain_33 : decode cX6_minutesToRain 33 = .ok (.aload_n 0, 1) := by decide +kernel
theorem dX6_minutesToRain_34 : decode cX6_minutesToRain 34 = .ok (.getfield 17, 3) := by decide +kernel
theorem dX6_minutesToRain_37 : decode cX6_minutesToRain 37 = .ok (.iconst 0, 1) := by decide +kernel
theorem dX6_minutesToRain_38 : decode cX6_minutesToRain 38 = .ok (.iaload, 1) := by decide +kernel
theorem dX6_minutesToRain_39 : decode cX6_minutesToRain 39 = .ok (.isub, 1) := by decide +kernel
theorem dX6_minutesToRain_40 : decode cX6_minutesToRain 40 = .ok (.invokestatic 126, 3) := by decide +kernel
theorem dX6_minutesToRain_43 : decode cX6_minutesToRain 43 = .ok (.istore 4, 2) := by decide +kernel
theorem dX6_minutesToRain_45 : decode cX6_minutesToRain 45 = .ok (.iload_n 3, 1) := by decide +kernel
theorem dX6_minutesToRain_46 : decode cX6_minutesToRain 46 = .ok (.aload_n 0, 1) := by decide +kernel
theorem dX6_minutesToRain_47 : decode cX6_minutesToRain 47 = .ok (.getfield 17, 3) := by decide +kernel
theorem dX6_minutesToRain_50 : decode cX6_minutesToRain 50 = .ok (.bipush 19, 2) := by decide +kernel
theorem dX6_minutesToRain_52 : decode cX6_minutesToRain 52 = .ok (.iconst 3, 1) := by decide +kernel
theorem dX6_minutesToRain_53 : decode cX6_minutesToRain 53 = .ok (.iload_n 2, 1) := by decide +kernel
theorem dX6_minutesToRain_54 : decode cX6_minutesToRain 54 = .ok (.imul, 1) := by decide +kernel
theorem dX6_minutesToRain_55 : decode cX6_minutesToRain 55 = .ok (.iadd, 1) := by decide +kernel
theorem dX6_minutesToRain_56 : decode cX6_minutesToRain 56 = .ok (.iconst 1, 1) := by decide +kernel
theorem dX6_minutesToRain_57 : decode cX6_minutesToRain 57 = .ok (.iadd, 1) := by decide +kernel
theorem dX6_minutesToRain_58 : decode cX6_minutesToRain 58 = .ok (.iaload, 1) := by decide +kernel
theorem dX6_minutesToRain_59 : decode cX6_minutesToRain 59 = .ok (.iadd, 1) := by decide +kernel
theorem dX6_minutesToRain_60 : decode cX6_minutesToRain 60 = .ok (.aload_n 0, 1) := by decide +kernel
theorem dX6_minutesToRain_61 : decode cX6_minutesToRain 61 = .ok (.getfield 17, 3) := by decide +kernel
theorem dX6_minutesToRain_64 : decode cX6_minutesToRain 64 = .ok (.iconst 0, 1) := by decide +kernel
theorem dX6_minutesToRain_65 : decode cX6_minutesToRain 65 = .ok (.iaload, 1) := by decide +kernel
theorem dX6_minutesToRain_66 : decode cX6_minutesToRain 66 = .ok (.if_icmp .gt 7, 3) := by decide +kernel
theorem dX6_minutesToRain_69 : decode cX6_minutesToRain 69 = .ok (.iconst 1, 1) := by decide +kernel
theorem dX6_minutesToRain_70 : decode cX6_minutesToRain 70 = .ok (.goto 4, 3) := by decide +kernel
theorem dX6_minutesToRain_73 : decode cX6_minutesToRain 73 = .ok (.iconst 0, 1) := by decide +kernel
theorem dX6_minutesToRain_74 : decode cX6_minutesToRain 74 = .ok (.istore 5, 2) := by decide +kernel
theorem dX6_minutesToRain_76 : decode cX6_minutesToRain 76 = .ok (.iload 5, 2) := by decide +kernel
theorem dX6_minutesToRain_78 : decode cX6_minutesToRain 78 = .ok (.ifCond .ne 19, 3) := by decide +kernel
theorem dX6_minutesToRain_81 : decode cX6_minutesToRain 81 = .ok (.iload_n 1, 1) := by decide +kernel
theorem dX6_minutesToRain_82 : decode cX6_minutesToRain 82 = .ok (.iconst (-1), 1) := by decide +kernel
theorem dX6_minutesToRain_83 : decode cX6_minutesToRain 83 = .ok (.if_icmp .eq 9, 3) := by decide +kernel
theorem dX6_minutesToRain_86 : decode cX6_minutesToRain 86 = .ok (.iload 4, 2) := by decide +kernel
theorem dX6_minutesToRain_88 : decode cX6_minutesToRain 88 = .ok (.iload_n 1, 1) := by decide +kernel
theorem dX6_minutesToRain_89 : decode cX6_minutesToRain 89 = .ok (.if_icmp .ge 8, 3) := by decide +kernel
theorem dX6_minutesToRain_92 : decode cX6_minutesToRain 92 = .ok (.iload 4, 2) := by decide +kernel
theorem dX6_minutesToRain_94 : decode cX6_minutesToRain 94 = .ok (.goto 4, 3) := by decide +kernel
theorem dX6_minutesToRain_97 : decode cX6_minutesToRain 97 = .ok (.iload_n 1, 1) := by decide +kernel
theorem dX6_minutesToRain_98 : decode cX6_minutesToRain 98 = .ok (.istore_n 1, 1) := by decide +kernel
theorem dX6_minutesToRain_99 : decode cX6_minutesToRain 99 = .ok (.iinc 2 1, 3) := by decide +kernel
theorem dX6_minutesToRain_102 : decode cX6_minutesToRain 102 = .ok (.goto (-93), 3) := by decide +kernel
theorem dX6_minutesToRain_105 : decode cX6_minutesToRain 105 = .ok (.iload_n 1, 1) := by decide +kernel
theorem dX6_minutesToRain_106 : decode cX6_minutesToRain 106 = .ok (.ireturn, 1) := by decide +kernel
theorem dX6_woodenLeft_0 : decode cX6_woodenLeft 0 = .ok (.aload_n 0, 1) := by decide +kernel
theorem dX6_woodenLeft_1 : decode cX6_woodenLeft 1 = .ok (.aload_n 0, 1) := by decide +kernel
theorem dX6_woodenLeft_2 : decode cX6_woodenLeft 2 = .ok (.getfield 17, 3) := by decide +kernel
theorem dX6_woodenLeft_5 : decode cX6_woodenLeft 5 = .ok (.iconst 2, 1) := by decide +kernel
theorem dX6_woodenLeft_6 : decode cX6_woodenLeft 6 = .ok (.iaload, 1) := by decide +kernel
theorem dX6_woodenLeft_7 : decode cX6_woodenLeft 7 = .ok (.invokevirtual 310, 3) := by decide +kernel
theorem dX6_woodenLeft_10 : decode cX6_woodenLeft 10 = .ok (.ireturn, 1) := by decide +kernel
theorem dX6_steelLeft_0 : decode cX6_steelLeft 0 = .ok (.aload_n 0, 1) := by decide +kernel
theorem dX6_steelLeft_1 : decode cX6_steelLeft 1 = .ok (.aload_n 0, 1) := by decide +kernel
theorem dX6_steelLeft_2 : decode cX6_steelLeft 2 = .ok (.getfield 17, 3) := by decide +kernel
theorem dX6_steelLeft_5 : decode cX6_steelLeft 5 = .ok (.iconst 3, 1) := by decide +kernel
theorem dX6_steelLeft_6 : decode cX6_steelLeft 6 = .ok (.iaload, 1) := by decide +kernel
theorem dX6_steelLeft_7 : decode cX6_steelLeft 7 = .ok (.invokevirtual 310, 3) := by decide +kernel
theorem dX6_steelLeft_10 : decode cX6_steelLeft 10 = .ok (.ireturn, 1) := by decide +kernel
theorem dX6_free_0 : decode cX6_free 0 = .ok (.ldc 71, 2) := by decide +kernel
theorem dX6_free_2 : decode cX6_free 2 = .ok (.aload_n 0, 1) := by decide +kernel
theorem dX6_free_3 : decode cX6_free 3 = .ok (.iconst (-1), 1) := by decide +kernel
theorem dX6_free_4 : decode cX6_free 4 = .ok (.invokevirtual 100, 3) := by decide +kernel
theorem dX6_free_7 : decode cX6_free 7 = .ok (.iconst (-1), 1) := by decide +kernel
theorem dX6_free_8 : decode cX6_free 8 = .ok (.ixor, 1) := by decide +kernel
theorem dX6_free_9 : decode cX6_free 9 = .ok (.iand, 1) := by decide +kernel
theorem dX6_free_10 : decode cX6_free 10 = .ok (.ireturn, 1) := by decide +kernel
theorem dX6_freeSpots_0 : decode cX6_freeSpots 0 = .ok (.aload_n 0, 1) := by decide +kernel
theorem dX6_freeSpots_1 : decode cX6_freeSpots 1 = .ok (.aload_n 0, 1) := by decide +kernel
theorem dX6_freeSpots_2 : decode cX6_freeSpots 2 = .ok (.invokevirtual 320, 3) := by decide +kernel
theorem dX6_freeSpots_5 : decode cX6_freeSpots 5 = .ok (.invokevirtual 310, 3) := by decide +kernel
theorem dX6_freeSpots_8 : decode cX6_freeSpots 8 = .ok (.ireturn, 1) := by decide +kernel
theorem dX6_longestGap_0 : decode cX6_longestGap 0 = .ok (.aload_n 0, 1) := by decide +kernel
theorem dX6_longestGap_1 : decode cX6_longestGap 1 = .ok (.iconst 0, 1) := by decide +kernel
theorem dX6_longestGap_2 : decode cX6_longestGap 2 = .ok (.putfield 60, 3) := by decide +kernel
theorem dX6_longestGap_5 : decode cX6_longestGap 5 = .ok (.aload_n 0, 1) := by decide +kernel
theorem dX6_longestGap_6 : decode cX6_longestGap 6 = .ok (.invokevirtual 320, 3) := by decide +kernel
theorem dX6_longestGap_9 : decode cX6_longestGap 9 = .ok (.istore_n 1, 1) := by decide +kernel
theorem dX6_longestGap_10 : decode cX6_longestGap 10 = .ok (.iconst 0, 1) := by decide +kernel
theorem dX6_longestGap_11 : decode cX6_longestGap 11 = .ok (.istore_n 2, 1) := by decide +kernel
theorem dX6_longestGap_12 : decode cX6_longestGap 12 = .ok (.iconst 0, 1) := by decide +kernel
theorem dX6_longestGap_13 : decode cX6_longestGap 13 = .ok (.istore_n 3, 1) := by decide +kernel
theorem dX6_longestGap_14 : decode cX6_longestGap 14 = .ok (.iconst 0, 1) := by decide +kernel
theorem dX6_longestGap_15 : decode cX6_longestGap 15 = .ok (.istore 4, 2) := by decide +kernel
theorem dX6_longestGap_17 : decode cX6_longestGap 17 = .ok (.iload 4, 2) := by decide +kernel
theorem dX6_longestGap_19 : decode cX6_longestGap 19 = .ok (.bipush 24, 2) := by decide +kernel
theorem dX6_longestGap_21 : decode cX6_longestGap 21 = .ok (.if_icmp .ge 32, 3) := by decide +kernel
theorem dX6_longestGap_24 : decode cX6_longestGap 24 = .ok (.iload_n 1, 1) := by decide +kernel
theorem dX6_longestGap_25 : decode cX6_longestGap 25 = .ok (.iload 4, 2) := by decide +kernel
theorem dX6_longestGap_27 : decode cX6_longestGap 27 = .ok (.invokestatic 323, 3) := by decide +kernel
theorem dX6_longestGap_30 : decode cX6_longestGap 30 = .ok (.ifCond .eq 9, 3) := by decide +kernel
theorem dX6_longestGap_33 : decode cX6_longestGap 33 = .ok (.iload_n 3, 1) := by decide +kernel
theorem dX6_longestGap_34 : decode cX6_longestGap 34 = .ok (.iconst 1, 1) := by decide +kernel
theorem dX6_longestGap_35 : decode cX6_longestGap 35 = .ok (.iadd, 1) := by decide +kernel
theorem dX6_longestGap_36 : decode cX6_longestGap 36 = .ok (.goto 4, 3) := by decide +kernel
theorem dX6_longestGap_39 : decode cX6_longestGap 39 = .ok (.iconst 0, 1) := by decide +kernel
theorem dX6_longestGap_40 : decode cX6_longestGap 40 = .ok (.istore_n 3, 1) := by decide +kernel
theorem dX6_longestGap_41 : decode cX6_longestGap 41 = .ok (.iload_n 2, 1) := by decide +kernel
theorem dX6_longestGap_42 : decode cX6_longestGap 42 = .ok (.iload_n 3, 1) := by decide +kernel
theorem dX6_longestGap_43 : decode cX6_longestGap 43 = .ok (.invokestatic 126, 3) := by decide +kernel
theorem dX6_longestGap_46 : decode cX6_longestGap 46 = .ok (.istore_n 2, 1) := by decide +kernel
theorem dX6_longestGap_47 : decode cX6_longestGap 47 = .ok (.iinc 4 1, 3) := by decide +kernel
theorem dX6_longestGap_50 : decode cX6_longestGap 50 = .ok (.goto (-33), 3) := by decide +kernel
theorem dX6_longestGap_53 : decode cX6_longestGap 53 = .ok (.iload_n 2, 1) := by decide +kernel
theorem dX6_longestGap_54 : decode cX6_longestGap 54 = .ok (.ireturn, 1) := by decide +kernel
theorem dX6_onSpot_0 : decode cX6_onSpot 0 = .ok (.iconst 0, 1) := by decide +kernel
theorem dX6_onSpot_1 : decode cX6_onSpot 1 = .ok (.istore_n 2, 1) := by decide +kernel
theorem dX6_onSpot_2 : decode cX6_onSpot 2 = .ok (.iload_n 2, 1) := by decide +kernel
theorem dX6_onSpot_3 : decode cX6_onSpot 3 = .ok (.aload_n 0, 1) := by decide +kernel
theorem dX6_onSpot_4 : decode cX6_onSpot 4 = .ok (.getfield 17, 3) := by decide +kernel
theorem dX6_onSpot_7 : decode cX6_onSpot 7 = .ok (.bipush 7, 2) := by decide +kernel
theorem dX6_onSpot_9 : decode cX6_onSpot 9 = .ok (.iaload, 1) := by decide +kernel
theorem dX6_onSpot_10 : decode cX6_onSpot 10 = .ok (.if_icmp .ge 23, 3) := by decide +kernel
theorem dX6_onSpot_13 : decode cX6_onSpot 13 = .ok (.aload_n 0, 1) := by decide +kernel
theorem dX6_onSpot_14 : decode cX6_onSpot 14 = .ok (.iload_n 2, 1) := by decide +kernel
theorem dX6_onSpot_15 : decode cX6_onSpot 15 = .ok (.invokevirtual 91, 3) := by decide +kernel
theorem dX6_onSpot_18 : decode cX6_onSpot 18 = .ok (.iload_n 1, 1) := by decide +kernel
theorem dX6_onSpot_19 : decode cX6_onSpot 19 = .ok (.invokestatic 323, 3) := by decide +kernel
theorem dX6_onSpot_22 : decode cX6_onSpot 22 = .ok (.ifCond .eq 5, 3) := by decide +kernel
theorem dX6_onSpot_25 : decode cX6_onSpot 25 = .ok (.iload_n 2, 1) := by decide +kernel
theorem dX6_onSpot_26 : decode cX6_onSpot 26 = .ok (.ireturn, 1) := by decide +kernel
theorem dX6_onSpot_27 : decode cX6_onSpot 27 = .ok (.iinc 2 1, 3) := by decide +kernel
theorem dX6_onSpot_30 : decode cX6_onSpot 30 = .ok (.goto (-28), 3) := by decide +kernel
theorem dX6_onSpot_33 : decode cX6_onSpot 33 = .ok (.iconst (-1), 1) := by decide +kernel
theorem dX6_onSpot_34 : decode cX6_onSpot 34 = .ok (.ireturn, 1) := by decide +kernel
theorem dX6_isSpot_0 : decode cX6_isSpot 0 = .ok (.aload_n 0, 1) := by decide +kernel
theorem dX6_isSpot_1 : decode cX6_isSpot 1 = .ok (.iload_n 1, 1) := by decide +kernel
theorem dX6_isSpot_2 : decode cX6_isSpot 2 = .ok (.iconst 0, 1) := by decide +kernel
theorem dX6_isSpot_3 : decode cX6_isSpot 3 = .ok (.bipush 23, 2) := by decide +kernel
theorem dX6_isSpot_5 : decode cX6_isSpot 5 = .ok (.invokestatic 63, 3) := by decide +kernel
theorem dX6_isSpot_8 : decode cX6_isSpot 8 = .ok (.iload_n 2, 1) := by decide +kernel
theorem dX6_isSpot_9 : decode cX6_isSpot 9 = .ok (.invokevirtual 313, 3) := by decide +kernel
theorem dX6_isSpot_12 : decode cX6_isSpot 12 = .ok (.ifCond .ne 7, 3) := by decide +kernel
theorem dX6_isSpot_15 : decode cX6_isSpot 15 = .ok (.iconst 1, 1) := by decide +kernel
theorem dX6_isSpot_16 : decode cX6_isSpot 16 = .ok (.goto 4, 3) := by decide +kernel
theorem dX6_isSpot_19 : decode cX6_isSpot 19 = .ok (.iconst 0, 1) := by decide +kernel
theorem dX6_isSpot_20 : decode cX6_isSpot 20 = .ok (.ireturn, 1) := by decide +kernel
theorem dX6_garmentAt_0 : decode cX6_garmentAt 0 = .ok (.aload_n 0, 1) := by decide +kernel
theorem dX6_garmentAt_1 : decode cX6_garmentAt 1 = .ok (.iconst 0, 1) := by decide +kernel
theorem dX6_garmentAt_2 : decode cX6_garmentAt 2 = .ok (.putfield 60, 3) := by decide +kernel
theorem dX6_garmentAt_5 : decode cX6_garmentAt 5 = .ok (.aload_n 0, 1) := by decide +kernel
theorem dX6_garmentAt_6 : decode cX6_garmentAt 6 = .ok (.iload_n 1, 1) := by decide +kernel
theorem dX6_garmentAt_7 : decode cX6_garmentAt 7 = .ok (.iconst 1, 1) := by decide +kernel
theorem dX6_garmentAt_8 : decode cX6_garmentAt 8 = .ok (.invokevirtual 326, 3) := by decide +kernel
theorem dX6_garmentAt_11 : decode cX6_garmentAt 11 = .ok (.ifCond .eq 11, 3) := by decide +kernel
theorem dX6_garmentAt_14 : decode cX6_garmentAt 14 = .ok (.aload_n 0, 1) := by decide +kernel
theorem dX6_garmentAt_15 : decode cX6_garmentAt 15 = .ok (.iload_n 1, 1) := by decide +kernel
theorem dX6_garmentAt_16 : decode cX6_garmentAt 16 = .ok (.invokevirtual 329, 3) := by decide +kernel
theorem dX6_garmentAt_19 : decode cX6_garmentAt 19 = .ok (.goto 4, 3) := by decide +kernel
theorem dX6_garmentAt_22 : decode cX6_garmentAt 22 = .ok (.iconst 0, 1) := by decide +kernel
theorem dX6_garmentAt_23 : decode cX6_garmentAt 23 = .ok (.ireturn, 1) := by decide +kernel
theorem dX6_garmentByPlace_0 : decode cX6_garmentByPlace 0 = .ok (.aload_n 0, 1) := by decide +kernel
theorem dX6_garmentByPlace_1 : decode cX6_garmentByPlace 1 = .ok (.iconst 0, 1) := by decide +kernel
theorem dX6_garmentByPlace_2 : decode cX6_garmentByPlace 2 = .ok (.putfield 60, 3) := by decide +kernel
theorem dX6_garmentByPlace_5 : decode cX6_garmentByPlace 5 = .ok (.iload_n 1, 1) := by decide +kernel
theorem dX6_garmentByPlace_6 : decode cX6_garmentByPlace 6 = .ok (.istore_n 2, 1) := by decide +kernel
theorem dX6_garmentByPlace_7 : decode cX6_garmentByPlace 7 = .ok (.iconst 0, 1) := by decide +kernel
theorem dX6_garmentByPlace_8 : decode cX6_garmentByPlace 8 = .ok (.istore_n 3, 1) := by decide +kernel
theorem dX6_garmentByPlace_9 : decode cX6_garmentByPlace 9 = .ok (.iload_n 3, 1) := by decide +kernel
theorem dX6_garmentByPlace_10 : decode cX6_garmentByPlace 10 = .ok (.bipush 24, 2) := by decide +kernel
theorem dX6_garmentByPlace_12 : decode cX6_garmentByPlace 12 = .ok (.if_icmp .ge 44, 3) := by decide +kernel
theorem dX6_garmentByPlace_15 : decode cX6_garmentByPlace 15 = .ok (.aload_n 0, 1) := by decide +kernel
theorem dX6_garmentByPlace_16 : decode cX6_garmentByPlace 16 = .ok (.iload_n 3, 1) := by decide +kernel
theorem dX6_garmentByPlace_17 : decode cX6_garmentByPlace 17 = .ok (.invokevirtual 329, 3) := by decide +kernel
theorem dX6_garmentByPlace_20 : decode cX6_garmentByPlace 20 = .ok (.istore 4, 2) := by decide +kernel
theorem dX6_garmentByPlace_22 : decode cX6_garmentByPlace 22 = .ok (.iload 4, 2) := by decide +kernel
theorem dX6_garmentByPlace_24 : decode cX6_garmentByPlace 24 = .ok (.iconst (-1), 1) := by decide +kernel
theorem dX6_garmentByPlace_25 : decode cX6_garmentByPlace 25 = .ok (.if_icmp .eq 25, 3) := by decide +kernel
theorem dX6_garmentByPlace_28 : decode cX6_garmentByPlace 28 = .ok (.aload_n 0, 1) := by decide +kernel
theorem dX6_garmentByPlace_29 : decode cX6_garmentByPlace 29 = .ok (.iload 4, 2) := by decide +kernel
theorem dX6_garmentByPlace_31 : decode cX6_garmentByPlace 31 = .ok (.bipush 7, 2) := by decide +kernel
theorem dX6_garmentByPlace_33 : decode cX6_garmentByPlace 33 = .ok (.invokevirtual 81, 3) := by decide +kernel
theorem dX6_garmentByPlace_36 : decode cX6_garmentByPlace 36 = .ok (.iload_n 3, 1) := by decide +kernel
theorem dX6_garmentByPlace_37 : decode cX6_garmentByPlace 37 = .ok (.if_icmp .ne 13, 3) := by decide +kernel
theorem dX6_garmentByPlace_40 : decode cX6_garmentByPlace 40 = .ok (.iload_n 2, 1) := by decide +kernel
theorem dX6_garmentByPlace_41 : decode cX6_garmentByPlace 41 = .ok (.ifCond .ne 6, 3) := by decide +kernel
theorem dX6_garmentByPlace_44 : decode cX6_garmentByPlace 44 = .ok (.iload 4, 2) := by decide +kernel
theorem dX6_garmentByPlace_46 : decode cX6_garmentByPlace 46 = .ok (.ireturn, 1) := by decide +kernel
theorem dX6_garmentByPlace_47 : decode cX6_garmentByPlace 47 = .ok (.iinc 2 (-1), 3) := by decide +kernel
theorem dX6_garmentByPlace_50 : decode cX6_garmentByPlace 50 = .ok (.iinc 3 1, 3) := by decide +kernel
theorem dX6_garmentByPlace_53 : decode cX6_garmentByPlace 53 = .ok (.goto (-44), 3) := by decide +kernel
theorem dX6_garmentByPlace_56 : decode cX6_garmentByPlace 56 = .ok (.iconst (-1), 1) := by decide +kernel
theorem dX6_garmentByPlace_57 : decode cX6_garmentByPlace 57 = .ok (.ireturn, 1) := by decide +kernel
theorem dX6_isGarment_0 : decode cX6_isGarment 0 = .ok (.aload_n 0, 1) := by decide +kernel
theorem dX6_isGarment_1 : decode cX6_isGarment 1 = .ok (.iconst 0, 1) := by decide +kernel
theorem dX6_isGarment_2 : decode cX6_isGarment 2 = .ok (.putfield 60, 3) := by decide +kernel
theorem dX6_isGarment_5 : decode cX6_isGarment 5 = .ok (.aload_n 0, 1) := by decide +kernel
theorem dX6_isGarment_6 : decode cX6_isGarment 6 = .ok (.iload_n 1, 1) := by decide +kernel
theorem dX6_isGarment_7 : decode cX6_isGarment 7 = .ok (.iconst 0, 1) := by decide +kernel
theorem dX6_isGarment_8 : decode cX6_isGarment 8 = .ok (.aload_n 0, 1) := by decide +kernel
theorem dX6_isGarment_9 : decode cX6_isGarment 9 = .ok (.getfield 17, 3) := by decide +kernel
theorem dX6_isGarment_12 : decode cX6_isGarment 12 = .ok (.bipush 7, 2) := by decide +kernel
theorem dX6_isGarment_14 : decode cX6_isGarment 14 = .ok (.iaload, 1) := by decide +kernel
theorem dX6_isGarment_15 : decode cX6_isGarment 15 = .ok (.iconst 1, 1) := by decide +kernel
theorem dX6_isGarment_16 : decode cX6_isGarment 16 = .ok (.isub, 1) := by decide +kernel
theorem dX6_isGarment_17 : decode cX6_isGarment 17 = .ok (.invokestatic 63, 3) := by decide +kernel
theorem dX6_isGarment_20 : decode cX6_isGarment 20 = .ok (.iconst 1, 1) := by decide +kernel
theorem dX6_isGarment_21 : decode cX6_isGarment 21 = .ok (.invokevirtual 313, 3) := by decide +kernel
theorem dX6_isGarment_24 : decode cX6_isGarment 24 = .ok (.ifCond .ne 7, 3) := by decide +kernel
theorem dX6_isGarment_27 : decode cX6_isGarment 27 = .ok (.iconst 1, 1) := by decide +kernel
theorem dX6_isGarment_28 : decode cX6_isGarment 28 = .ok (.goto 4, 3) := by decide +kernel
theorem dX6_isGarment_31 : decode cX6_isGarment 31 = .ok (.iconst 0, 1) := by decide +kernel
theorem dX6_isGarment_32 : decode cX6_isGarment 32 = .ok (.ireturn, 1) := by decide +kernel
theorem dX6_asked_0 : decode cX6_asked 0 = .ok (.aload_n 0, 1) := by decide +kernel
theorem dX6_asked_1 : decode cX6_asked 1 = .ok (.iload_n 1, 1) := by decide +kernel
theorem dX6_asked_2 : decode cX6_asked 2 = .ok (.invokevirtual 332, 3) := by decide +kernel
theorem dX6_asked_5 : decode cX6_asked 5 = .ok (.ifCond .eq 12, 3) := by decide +kernel
theorem dX6_asked_8 : decode cX6_asked 8 = .ok (.aload_n 0, 1) := by decide +kernel
theorem dX6_asked_9 : decode cX6_asked 9 = .ok (.iload_n 1, 1) := by decide +kernel
theorem dX6_asked_10 : decode cX6_asked 10 = .ok (.iload_n 2, 1) := by decide +kernel
theorem dX6_asked_11 : decode cX6_asked 11 = .ok (.invokevirtual 81, 3) := by decide +kernel
theorem dX6_asked_14 : decode cX6_asked 14 = .ok (.goto 4, 3) := by decide +kernel
theorem dX6_asked_17 : decode cX6_asked 17 = .ok (.iconst 0, 1) := by decide +kernel
theorem dX6_asked_18 : decode cX6_asked 18 = .ok (.ireturn, 1) := by decide +kernel
theorem dX6_garmentCount_0 : decode cX6_garmentCount 0 = .ok (.aload_n 0, 1) := by decide +kernel
theorem dX6_garmentCount_1 : decode cX6_garmentCount 1 = .ok (.aload_n 0, 1) := by decide +kernel
theorem dX6_garmentCount_2 : decode cX6_garmentCount 2 = .ok (.getfield 17, 3) := by decide +kernel
theorem dX6_garmentCount_5 : decode cX6_garmentCount 5 = .ok (.bipush 7, 2) := by decide +kernel
theorem dX6_garmentCount_7 : decode cX6_garmentCount 7 = .ok (.iaload, 1) := by decide +kernel
theorem dX6_garmentCount_8 : decode cX6_garmentCount 8 = .ok (.invokevirtual 310, 3) := by decide +kernel
theorem dX6_garmentCount_11 : decode cX6_garmentCount 11 = .ok (.ireturn, 1) := by decide +kernel
theorem dX6_stateOf_0 : decode cX6_stateOf 0 = .ok (.aload_n 0, 1) := by decide +kernel
theorem dX6_stateOf_1 : decode cX6_stateOf 1 = .ok (.iload_n 1, 1) := by decide +kernel
theorem dX6_stateOf_2 : decode cX6_stateOf 2 = .ok (.bipush 6, 2) := by decide +kernel
theorem dX6_stateOf_4 : decode cX6_stateOf 4 = .ok (.invokevirtual 335, 3) := by decide +kernel
theorem dX6_stateOf_7 : decode cX6_stateOf 7 = .ok (.ireturn, 1) := by decide +kernel
theorem dX6_widthOf_0 : decode cX6_widthOf 0 = .ok (.aload_n 0, 1) := by decide +kernel
theorem dX6_widthOf_1 : decode cX6_widthOf 1 = .ok (.iload_n 1, 1) := by decide +kernel
theorem dX6_widthOf_2 : decode cX6_widthOf 2 = .ok (.iconst 0, 1) := by decide +kernel
theorem dX6_widthOf_3 : decode cX6_widthOf 3 = .ok (.invokevirtual 335, 3) := by decide +kernel
theorem dX6_widthOf_6 : decode cX6_widthOf 6 = .ok (.ireturn, 1) := by decide +kernel
theorem dX6_dryWeight_0 : decode cX6_dryWeight 0 = .ok (.aload_n 0, 1) := by decide +kernel
theorem dX6_dryWeight_1 : decode cX6_dryWeight 1 = .ok (.iload_n 1, 1) := by decide +kernel
theorem dX6_dryWeight_2 : decode cX6_dryWeight 2 = .ok (.iconst 1, 1) := by decide +kernel
theorem dX6_dryWeight_3 : decode cX6_dryWeight 3 = .ok (.invokevirtual 335, 3) := by decide +kernel
theorem dX6_dryWeight_6 : decode cX6_dryWeight 6 = .ok (.ireturn, 1) := by decide +kernel
theorem dX6_capacityOf_0 : decode cX6_capacityOf 0 = .ok (.aload_n 0, 1) := by decide +kernel
theorem dX6_capacityOf_1 : decode cX6_capacityOf 1 = .ok (.iload_n 1, 1) := by decide +kernel
theorem dX6_capacityOf_2 : decode cX6_capacityOf 2 = .ok (.iconst 2, 1) := by decide +kernel
theorem dX6_capacityOf_3 : decode cX6_capacityOf 3 = .ok (.invokevirtual 335, 3) := by decide +kernel
theorem dX6_capacityOf_6 : decode cX6_capacityOf 6 = .ok (.ireturn, 1) := by decide +kernel
theorem dX6_waterOf_0 : decode cX6_waterOf 0 = .ok (.aload_n 0, 1) := by decide +kernel
theorem dX6_waterOf_1 : decode cX6_waterOf 1 = .ok (.iload_n 1, 1) := by decide +kernel
theorem dX6_waterOf_2 : decode cX6_waterOf 2 = .ok (.iconst 3, 1) := by decide +kernel
theorem dX6_waterOf_3 : decode cX6_waterOf 3 = .ok (.invokevirtual 335, 3) := by decide +kernel
theorem dX6_waterOf_6 : decode cX6_waterOf 6 = .ok (.ireturn, 1) := by decide +kernel
theorem dX6_weightOf_0 : decode cX6_weightOf 0 = .ok (.aload_n 0, 1) := by decide +kernel
theorem dX6_weightOf_1 : decode cX6_weightOf 1 = .ok (.iload_n 1, 1) := by decide +kernel
theorem dX6_weightOf_2 : decode cX6_weightOf 2 = .ok (.invokevirtual 332, 3) := by decide +kernel
theorem dX6_weightOf_5 : decode cX6_weightOf 5 = .ok (.ifCond .eq 11, 3) := by decide +kernel
theorem dX6_weightOf_8 : decode cX6_weightOf 8 = .ok (.aload_n 0, 1) := by decide +kernel
theorem dX6_weightOf_9 : decode cX6_weightOf 9 = .ok (.iload_n 1, 1) := by decide +kernel
theorem dX6_weightOf_10 : decode cX6_weightOf 10 = .ok (.invokevirtual 103, 3) := by decide +kernel
theorem dX6_weightOf_13 : decode cX6_weightOf 13 = .ok (.goto 4, 3) := by decide +kernel
theorem dX6_weightOf_16 : decode cX6_weightOf 16 = .ok (.iconst 0, 1) := by decide +kernel
theorem dX6_weightOf_17 : decode cX6_weightOf 17 = .ok (.ireturn, 1) := by decide +kernel
theorem dX6_smellOf_0 : decode cX6_smellOf 0 = .ok (.aload_n 0, 1) := by decide +kernel
theorem dX6_smellOf_1 : decode cX6_smellOf 1 = .ok (.iload_n 1, 1) := by decide +kernel
theorem dX6_smellOf_2 : decode cX6_smellOf 2 = .ok (.iconst 4, 1) := by decide +kernel
theorem dX6_smellOf_3 : decode cX6_smellOf 3 = .ok (.invokevirtual 335, 3) := by decide +kernel
theorem dX6_smellOf_6 : decode cX6_smellOf 6 = .ok (.ireturn, 1) := by decide +kernel
theorem dX6_spotOf_0 : decode cX6_spotOf 0 = .ok (.aload_n 0, 1) := by decide +kernel
theorem dX6_spotOf_1 : decode cX6_spotOf 1 = .ok (.iload_n 1, 1) := by decide +kernel
theorem dX6_spotOf_2 : decode cX6_spotOf 2 = .ok (.bipush 7, 2) := by decide +kernel
theorem dX6_spotOf_4 : decode cX6_spotOf 4 = .ok (.invokevirtual 335, 3) := by decide +kernel
theorem dX6_spotOf_7 : decode cX6_spotOf 7 = .ok (.ireturn, 1) := by decide +kernel
theorem dX6_woodenOf_0 : decode cX6_woodenOf 0 = .ok (.aload_n 0, 1) := by decide +kernel
theorem dX6_woodenOf_1 : decode cX6_woodenOf 1 = .ok (.iload_n 1, 1) := by decide +kernel
theorem dX6_woodenOf_2 : decode cX6_woodenOf 2 = .ok (.bipush 8, 2) := by decide +kernel
theorem dX6_woodenOf_4 : decode cX6_woodenOf 4 = .ok (.invokevirtual 335, 3) := by decide +kernel
theorem dX6_woodenOf_7 : decode cX6_woodenOf 7 = .ok (.ireturn, 1) := by decide +kernel
theorem dX6_steelOf_0 : decode cX6_steelOf 0 = .ok (.aload_n 0, 1) := by decide +kernel
theorem dX6_steelOf_1 : decode cX6_steelOf 1 = .ok (.iload_n 1, 1) := by decide +kernel
theorem dX6_steelOf_2 : decode cX6_steelOf 2 = .ok (.bipush 9, 2) := by decide +kernel
theorem dX6_steelOf_4 : decode cX6_steelOf 4 = .ok (.invokevirtual 335, 3) := by decide +kernel
theorem dX6_steelOf_7 : decode cX6_steelOf 7 = .ok (.ireturn, 1) := by decide +kernel
theorem dX6_holdOf_0 : decode cX6_holdOf 0 = .ok (.aload_n 0, 1) := by decide +kernel
theorem dX6_holdOf_1 : decode cX6_holdOf 1 = .ok (.iload_n 1, 1) := by decide +kernel
theorem dX6_holdOf_2 : decode cX6_holdOf 2 = .ok (.invokevirtual 332, 3) := by decide +kernel
theorem dX6_holdOf_5 : decode cX6_holdOf 5 = .ok (.ifCond .eq 11, 3) := by decide +kernel
theorem dX6_holdOf_8 : decode cX6_holdOf 8 = .ok (.aload_n 0, 1) := by decide +kernel
theorem dX6_holdOf_9 : decode cX6_holdOf 9 = .ok (.iload_n 1, 1) := by decide +kernel
theorem dX6_holdOf_10 : decode cX6_holdOf 10 = .ok (.invokevirtual 129, 3) := by decide +kernel
theorem dX6_holdOf_13 : decode cX6_holdOf 13 = .ok (.goto 4, 3) := by decide +kernel
theorem dX6_holdOf_16 : decode cX6_holdOf 16 = .ok (.iconst 0, 1) := by decide +kernel
theorem dX6_holdOf_17 : decode cX6_holdOf 17 = .ok (.ireturn, 1) := by decide +kernel
theorem dX6_fallsOf_0 : decode cX6_fallsOf 0 = .ok (.aload_n 0, 1) := by decide +kernel
theorem dX6_fallsOf_1 : decode cX6_fallsOf 1 = .ok (.iload_n 1, 1) := by decide +kernel
theorem dX6_fallsOf_2 : decode cX6_fallsOf 2 = .ok (.bipush 10, 2) := by decide +kernel
theorem dX6_fallsOf_4 : decode cX6_fallsOf 4 = .ok (.invokevirtual 335, 3) := by decide +kernel
theorem dX6_fallsOf_7 : decode cX6_fallsOf 7 = .ok (.ireturn, 1) := by decide +kernel
theorem dX6_isDirty_0 : decode cX6_isDirty 0 = .ok (.aload_n 0, 1) := by decide +kernel
theorem dX6_isDirty_1 : decode cX6_isDirty 1 = .ok (.iload_n 1, 1) := by decide +kernel
theorem dX6_isDirty_2 : decode cX6_isDirty 2 = .ok (.iconst 5, 1) := by decide +kernel
theorem dX6_isDirty_3 : decode cX6_isDirty 3 = .ok (.invokevirtual 335, 3) := by decide +kernel
theorem dX6_isDirty_6 : decode cX6_isDirty 6 = .ok (.iconst 1, 1) := by decide +kernel
theorem dX6_isDirty_7 : decode cX6_isDirty 7 = .ok (.if_icmp .ne 7, 3) := by decide +kernel
theorem dX6_isDirty_10 : decode cX6_isDirty 10 = .ok (.iconst 1, 1) := by decide +kernel
theorem dX6_isDirty_11 : decode cX6_isDirty 11 = .ok (.goto 4, 3) := by decide +kernel
theorem dX6_isDirty_14 : decode cX6_isDirty 14 = .ok (.iconst 0, 1) := by decide +kernel
theorem dX6_isDirty_15 : decode cX6_isDirty 15 = .ok (.ireturn, 1) := by decide +kernel
theorem dX6_garmentsIn_0 : decode cX6_garmentsIn 0 = .ok (.aload_n 0, 1) := by decide +kernel
theorem dX6_garmentsIn_1 : decode cX6_garmentsIn 1 = .ok (.iconst 0, 1) := by decide +kernel
theorem dX6_garmentsIn_2 : decode cX6_garmentsIn 2 = .ok (.putfield 60, 3) := by decide +kernel
theorem dX6_garmentsIn_5 : decode cX6_garmentsIn 5 = .ok (.aload_n 0, 1) := by decide +kernel
theorem dX6_garmentsIn_6 : decode cX6_garmentsIn 6 = .ok (.iload_n 1, 1) := by decide +kernel
theorem dX6_garmentsIn_7 : decode cX6_garmentsIn 7 = .ok (.iconst 0, 1) := by decide +kernel
theorem dX6_garmentsIn_8 : decode cX6_garmentsIn 8 = .ok (.iconst 2, 1) := by decide +kernel
theorem dX6_garmentsIn_9 : decode cX6_garmentsIn 9 = .ok (.invokestatic 63, 3) := by decide +kernel
theorem dX6_garmentsIn_12 : decode cX6_garmentsIn 12 = .ok (.iconst 1, 1) := by decide +kernel
theorem dX6_garmentsIn_13 : decode cX6_garmentsIn 13 = .ok (.invokevirtual 313, 3) := by decide +kernel
theorem dX6_garmentsIn_16 : decode cX6_garmentsIn 16 = .ok (.ifCond .eq 7, 3) := by decide +kernel
theorem dX6_garmentsIn_19 : decode cX6_garmentsIn 19 = .ok (.iconst 0, 1) := by decide +kernel
theorem dX6_garmentsIn_20 : decode cX6_garmentsIn 20 = .ok (.goto 8, 3) := by decide +kernel
theorem dX6_garmentsIn_23 : decode cX6_garmentsIn 23 = .ok (.aload_n 0, 1) := by decide +kernel
theorem dX6_garmentsIn_24 : decode cX6_garmentsIn 24 = .ok (.iload_n 1, 1) := by decide +kernel
theorem dX6_garmentsIn_25 : decode cX6_garmentsIn 25 = .ok (.invokevirtual 153, 3) := by decide +kernel
theorem dX6_garmentsIn_28 : decode cX6_garmentsIn 28 = .ok (.ireturn, 1) := by decide +kernel
theorem dX6_drySet_0 : decode cX6_drySet 0 = .ok (.iconst 0, 1) := by decide +kernel
theorem dX6_drySet_1 : decode cX6_drySet 1 = .ok (.istore_n 1, 1) := by decide +kernel
theorem dX6_drySet_2 : decode cX6_drySet 2 = .ok (.iconst 0, 1) := by decide +kernel
theorem dX6_drySet_3 : decode cX6_drySet 3 = .ok (.istore_n 2, 1) := by decide +kernel
theorem dX6_drySet_4 : decode cX6_drySet 4 = .ok (.iload_n 2, 1) := by decide +kernel
theorem dX6_drySet_5 : decode cX6_drySet 5 = .ok (.aload_n 0, 1) := by decide +kernel
theorem dX6_drySet_6 : decode cX6_drySet 6 = .ok (.getfield 17, 3) := by decide +kernel
theorem dX6_drySet_9 : decode cX6_drySet 9 = .ok (.bipush 7, 2) := by decide +kernel
theorem dX6_drySet_11 : decode cX6_drySet 11 = .ok (.iaload, 1) := by decide +kernel
theorem dX6_drySet_12 : decode cX6_drySet 12 = .ok (.if_icmp .ge 28, 3) := by decide +kernel
theorem dX6_drySet_15 : decode cX6_drySet 15 = .ok (.iload_n 1, 1) := by decide +kernel
theorem dX6_drySet_16 : decode cX6_drySet 16 = .ok (.aload_n 0, 1) := by decide +kernel
theorem dX6_drySet_17 : decode cX6_drySet 17 = .ok (.iload_n 2, 1) := by decide +kernel
theorem dX6_drySet_18 : decode cX6_drySet 18 = .ok (.iconst 3, 1) := by decide +kernel
theorem dX6_drySet_19 : decode cX6_drySet 19 = .ok (.invokevirtual 81, 3) := by decide +kernel
theorem dX6_drySet_22 : decode cX6_drySet 22 = .ok (.ifCond .ne 9, 3) := by decide +kernel
theorem dX6_drySet_25 : decode cX6_drySet 25 = .ok (.iconst 1, 1) := by decide +kernel
theorem dX6_drySet_26 : decode cX6_drySet 26 = .ok (.iload_n 2, 1) := by decide +kernel
theorem dX6_drySet_27 : decode cX6_drySet 27 = .ok (.ishl, 1) := by decide +kernel
theorem dX6_drySet_28 : decode cX6_drySet 28 = .ok (.goto 4, 3) := by decide +kernel
theorem dX6_drySet_31 : decode cX6_drySet 31 = .ok (.iconst 0, 1) := by decide +kernel
theorem dX6_drySet_32 : decode cX6_drySet 32 = .ok (.ior, 1) := by decide +kernel
theorem dX6_drySet_33 : decode cX6_drySet 33 = .ok (.istore_n 1, 1) := by decide +kernel
theorem dX6_drySet_34 : decode cX6_drySet 34 = .ok (.iinc 2 1, 3) := by decide +kernel
theorem dX6_drySet_37 : decode cX6_drySet 37 = .ok (.goto (-33), 3) := by decide +kernel
theorem dX6_drySet_40 : decode cX6_drySet 40 = .ok (.iload_n 1, 1) := by decide +kernel
theorem dX6_drySet_41 : decode cX6_drySet 41 = .ok (.ireturn, 1) := by decide +kernel
theorem dX6_dryGarments_0 : decode cX6_dryGarments 0 = .ok (.aload_n 0, 1) := by decide +kernel
theorem dX6_dryGarments_1 : decode cX6_dryGarments 1 = .ok (.aload_n 0, 1) := by decide +kernel
theorem dX6_dryGarments_2 : decode cX6_dryGarments 2 = .ok (.invokevirtual 338, 3) := by decide +kernel
theorem dX6_dryGarments_5 : decode cX6_dryGarments 5 = .ok (.invokevirtual 310, 3) := by decide +kernel
theorem dX6_dryGarments_8 : decode cX6_dryGarments 8 = .ok (.ireturn, 1) := by decide +kernel
theorem dX6_canAsk_0 : decode cX6_canAsk 0 = .ok (.aload_n 0, 1) := by decide +kernel
theorem dX6_canAsk_1 : decode cX6_canAsk 1 = .ok (.iload_n 1, 1) := by decide +kernel
theorem dX6_canAsk_2 : decode cX6_canAsk 2 = .ok (.invokevirtual 332, 3) := by decide +kernel
theorem dX6_canAsk_5 : decode cX6_canAsk 5 = .ok (.ifCond .eq 49, 3) := by decide +kernel
theorem dX6_canAsk_8 : decode cX6_canAsk 8 = .ok (.aload_n 0, 1) := by decide +kernel
theorem dX6_canAsk_9 : decode cX6_canAsk 9 = .ok (.iload_n 2, 1) := by decide +kernel
theorem dX6_canAsk_10 : decode cX6_canAsk 10 = .ok (.iconst 0, 1) := by decide +kernel
theorem dX6_canAsk_11 : decode cX6_canAsk 11 = .ok (.bipush 23, 2) := by decide +kernel
theorem dX6_canAsk_13 : decode cX6_canAsk 13 = .ok (.invokestatic 63, 3) := by decide +kernel
theorem dX6_canAsk_16 : decode cX6_canAsk 16 = .ok (.ifCond .eq 26, 3) := by decide +kernel
theorem dX6_canAsk_19 : decode cX6_canAsk 19 = .ok (.iload_n 3, 1) := by decide +kernel
theorem dX6_canAsk_20 : decode cX6_canAsk 20 = .ok (.iconst 0, 1) := by decide +kernel
theorem dX6_canAsk_21 : decode cX6_canAsk 21 = .ok (.iconst 4, 1) := by decide +kernel
theorem dX6_canAsk_22 : decode cX6_canAsk 22 = .ok (.invokestatic 63, 3) := by decide +kernel
theorem dX6_canAsk_25 : decode cX6_canAsk 25 = .ok (.ifCond .eq 17, 3) := by decide +kernel
theorem dX6_canAsk_28 : decode cX6_canAsk 28 = .ok (.iload 4, 2) := by decide +kernel
theorem dX6_canAsk_30 : decode cX6_canAsk 30 = .ok (.iconst 0, 1) := by decide +kernel
theorem dX6_canAsk_31 : decode cX6_canAsk 31 = .ok (.iconst 4, 1) := by decide +kernel
theorem dX6_canAsk_32 : decode cX6_canAsk 32 = .ok (.invokestatic 63, 3) := by decide +kernel
theorem dX6_canAsk_35 : decode cX6_canAsk 35 = .ok (.ifCond .eq 7, 3) := by decide +kernel
theorem dX6_canAsk_38 : decode cX6_canAsk 38 = .ok (.iconst 1, 1) := by decide +kernel
theorem dX6_canAsk_39 : decode cX6_canAsk 39 = .ok (.goto 4, 3) := by decide +kernel
theorem dX6_canAsk_42 : decode cX6_canAsk 42 = .ok (.iconst 0, 1) := by decide +kernel
theorem dX6_canAsk_43 : decode cX6_canAsk 43 = .ok (.iconst 2, 1) := by decide +kernel
theorem dX6_canAsk_44 : decode cX6_canAsk 44 = .ok (.invokevirtual 313, 3) := by decide +kernel
theorem dX6_canAsk_47 : decode cX6_canAsk 47 = .ok (.ifCond .ne 7, 3) := by decide +kernel
theorem dX6_canAsk_50 : decode cX6_canAsk 50 = .ok (.iconst 1, 1) := by decide +kernel
theorem dX6_canAsk_51 : decode cX6_canAsk 51 = .ok (.goto 4, 3) := by decide +kernel
theorem dX6_canAsk_54 : decode cX6_canAsk 54 = .ok (.iconst 0, 1) := by decide +kernel
theorem dX6_canAsk_55 : decode cX6_canAsk 55 = .ok (.ireturn, 1) := by decide +kernel
theorem dX6_hangObstacle_0 : decode cX6_hangObstacle 0 = .ok (.aload_n 0, 1) := by decide +kernel
theorem dX6_hangObstacle_1 : decode cX6_hangObstacle 1 = .ok (.iload_n 1, 1) := by decide +kernel
theorem dX6_hangObstacle_2 : decode cX6_hangObstacle 2 = .ok (.iload_n 2, 1) := by decide +kernel
theorem dX6_hangObstacle_3 : decode cX6_hangObstacle 3 = .ok (.iload_n 3, 1) := by decide +kernel
theorem dX6_hangObstacle_4 : decode cX6_hangObstacle 4 = .ok (.iload 4, 2) := by decide +kernel
theorem dX6_hangObstacle_6 : decode cX6_hangObstacle 6 = .ok (.invokevirtual 341, 3) := by decide +kernel
theorem dX6_hangObstacle_9 : decode cX6_hangObstacle 9 = .ok (.ifCond .eq 15, 3) := by decide +kernel
theorem dX6_hangObstacle_12 : decode cX6_hangObstacle 12 = .ok (.aload_n 0, 1) := by decide +kernel
theorem dX6_hangObstacle_13 : decode cX6_hangObstacle 13 = .ok (.iload_n 1, 1) := by decide +kernel
theorem dX6_hangObstacle_14 : decode cX6_hangObstacle 14 = .ok (.iload_n 2, 1) := by decide +kernel
theorem dX6_hangObstacle_15 : decode cX6_hangObstacle 15 = .ok (.iload_n 3, 1) := by decide +kernel
theorem dX6_hangObstacle_16 : decode cX6_hangObstacle 16 = .ok (.iload 4, 2) := by decide +kernel
theorem dX6_hangObstacle_18 : decode cX6_hangObstacle 18 = .ok (.invokevirtual 245, 3) := by decide +kernel
theorem dX6_hangObstacle_21 : decode cX6_hangObstacle 21 = .ok (.goto 4, 3) := by decide +kernel
theorem dX6_hangObstacle_24 : decode cX6_hangObstacle 24 = .ok (.iconst 0, 1) := by decide +kernel
theorem dX6_hangObstacle_25 : decode cX6_hangObstacle 25 = .ok (.ireturn, 1) := by decide +kernel
theorem dX6_fewestPegs_0 : decode cX6_fewestPegs 0 = .ok (.aload_n 0, 1) := by decide +kernel
theorem dX6_fewestPegs_1 : decode cX6_fewestPegs 1 = .ok (.iload_n 1, 1) := by decide +kernel
theorem dX6_fewestPegs_2 : decode cX6_fewestPegs 2 = .ok (.invokevirtual 332, 3) := by decide +kernel
theorem dX6_fewestPegs_5 : decode cX6_fewestPegs 5 = .ok (.ifCond .ne 5, 3) := by decide +kernel
theorem dX6_fewestPegs_8 : decode cX6_fewestPegs 8 = .ok (.iconst 0, 1) := by decide +kernel
theorem dX6_fewestPegs_9 : decode cX6_fewestPegs 9 = .ok (.ireturn, 1) := by decide +kernel
theorem dX6_fewestPegs_10 : decode cX6_fewestPegs 10 = .ok (.iconst 1, 1) := by decide +kernel
theorem dX6_fewestPegs_11 : decode cX6_fewestPegs 11 = .ok (.istore_n 2, 1) := by decide +kernel
theorem dX6_fewestPegs_12 : decode cX6_fewestPegs 12 = .ok (.iload_n 2, 1) := by decide +kernel
theorem dX6_fewestPegs_13 : decode cX6_fewestPegs 13 = .ok (.iconst 4, 1) := by decide +kernel
theorem dX6_fewestPegs_14 : decode cX6_fewestPegs 14 = .ok (.if_icmp .gt 73, 3) := by decide +kernel
theorem dX6_fewestPegs_17 : decode cX6_fewestPegs 17 = .ok (.iconst 0, 1) := by decide +kernel
theorem dX6_fewestPegs_18 : decode cX6_fewestPegs 18 = .ok (.istore_n 3, 1) := by decide +kernel
theorem dX6_fewestPegs_19 : decode cX6_fewestPegs 19 = .ok (.iload_n 3, 1) := by decide +kernel
theorem dX6_fewestPegs_20 : decode cX6_fewestPegs 20 = .ok (.iload_n 2, 1) := by decide +kernel
theorem dX6_fewestPegs_21 : decode cX6_fewestPegs 21 = .ok (.if_icmp .gt 60, 3) := by decide +kernel
theorem dX6_fewestPegs_24 : decode cX6_fewestPegs 24 = .ok (.iload_n 3, 1) := by decide +kernel
theorem dX6_fewestPegs_25 : decode cX6_fewestPegs 25 = .ok (.aload_n 0, 1) := by decide +kernel
theorem dX6_fewestPegs_26 : decode cX6_fewestPegs 26 = .ok (.getfield 17, 3) := by decide +kernel
theorem dX6_fewestPegs_29 : decode cX6_fewestPegs 29 = .ok (.iconst 3, 1) := by decide +kernel
theorem dX6_fewestPegs_30 : decode cX6_fewestPegs 30 = .ok (.iaload, 1) := by decide +kernel
theorem dX6_fewestPegs_31 : decode cX6_fewestPegs 31 = .ok (.if_icmp .gt 19, 3) := by decide +kernel
theorem dX6_fewestPegs_34 : decode cX6_fewestPegs 34 = .ok (.iload_n 2, 1) := by decide +kernel
theorem dX6_fewestPegs_35 : decode cX6_fewestPegs 35 = .ok (.iload_n 3, 1) := by decide +kernel
theorem dX6_fewestPegs_36 : decode cX6_fewestPegs 36 = .ok (.isub, 1) := by decide +kernel
theorem dX6_fewestPegs_37 : decode cX6_fewestPegs 37 = .ok (.aload_n 0, 1) := by decide +kernel
theorem dX6_fewestPegs_38 : decode cX6_fewestPegs 38 = .ok (.getfield 17, 3) := by decide +kernel
theorem dX6_fewestPegs_41 : decode cX6_fewestPegs 41 = .ok (.iconst 2, 1) := by decide +kernel
theorem dX6_fewestPegs_42 : decode cX6_fewestPegs 42 = .ok (.iaload, 1) := by decide +kernel
theorem dX6_fewestPegs_43 : decode cX6_fewestPegs 43 = .ok (.if_icmp .gt 7, 3) := by decide +kernel
theorem dX6_fewestPegs_46 : decode cX6_fewestPegs 46 = .ok (.iconst 1, 1) := by decide +kernel
theorem dX6_fewestPegs_47 : decode cX6_fewestPegs 47 = .ok (.goto 4, 3) := by decide +kernel
theorem dX6_fewestPegs_50 : decode cX6_fewestPegs 50 = .ok (.iconst 0, 1) := by decide +kernel
theorem dX6_fewestPegs_51 : decode cX6_fewestPegs 51 = .ok (.istore 4, 2) := by decide +kernel
theorem dX6_fewestPegs_53 : decode cX6_fewestPegs 53 = .ok (.iload 4, 2) := by decide +kernel
theorem dX6_fewestPegs_55 : decode cX6_fewestPegs 55 = .ok (.ifCond .eq 20, 3) := by decide +kernel
theorem dX6_fewestPegs_58 : decode cX6_fewestPegs 58 = .ok (.aload_n 0, 1) := by decide +kernel
theorem dX6_fewestPegs_59 : decode cX6_fewestPegs 59 = .ok (.iload_n 1, 1) := by decide +kernel
theorem dX6_fewestPegs_60 : decode cX6_fewestPegs 60 = .ok (.invokevirtual 103, 3) := by decide +kernel
theorem dX6_fewestPegs_63 : decode cX6_fewestPegs 63 = .ok (.iload_n 2, 1) := by decide +kernel
theorem dX6_fewestPegs_64 : decode cX6_fewestPegs 64 = .ok (.iload_n 3, 1) := by decide +kernel
theorem dX6_fewestPegs_65 : decode cX6_fewestPegs 65 = .ok (.isub, 1) := by decide +kernel
theorem dX6_fewestPegs_66 : decode cX6_fewestPegs 66 = .ok (.iload_n 3, 1) := by decide +kernel
theorem dX6_fewestPegs_67 : decode cX6_fewestPegs 67 = .ok (.invokestatic 94, 3) := by decide +kernel
theorem dX6_fewestPegs_70 : decode cX6_fewestPegs 70 = .ok (.if_icmp .gt 5, 3) := by decide +kernel
theorem dX6_fewestPegs_73 : decode cX6_fewestPegs 73 = .ok (.iload_n 2, 1) := by decide +kernel
theorem dX6_fewestPegs_74 : decode cX6_fewestPegs 74 = .ok (.ireturn, 1) := by decide +kernel
theorem dX6_fewestPegs_75 : decode cX6_fewestPegs 75 = .ok (.iinc 3 1, 3) := by decide +kernel
theorem dX6_fewestPegs_78 : decode cX6_fewestPegs 78 = .ok (.goto (-59), 3) := by decide +kernel
theorem dX6_fewestPegs_81 : decode cX6_fewestPegs 81 = .ok (.iinc 2 1, 3) := by decide +kernel
theorem dX6_fewestPegs_84 : decode cX6_fewestPegs 84 = .ok (.goto (-72), 3) := by decide +kernel
theorem dX6_fewestPegs_87 : decode cX6_fewestPegs 87 = .ok (.iconst (-1), 1) := by decide +kernel
theorem dX6_fewestPegs_88 : decode cX6_fewestPegs 88 = .ok (.ireturn, 1) := by decide +kernel
theorem dX6_allWater_0 : decode cX6_allWater 0 = .ok (.iconst 0, 1) := by decide +kernel
theorem dX6_allWater_1 : decode cX6_allWater 1 = .ok (.istore_n 1, 1) := by decide +kernel
theorem dX6_allWater_2 : decode cX6_allWater 2 = .ok (.iconst 0, 1) := by decide +kernel
theorem dX6_allWater_3 : decode cX6_allWater 3 = .ok (.istore_n 2, 1) := by decide +kernel
theorem dX6_allWater_4 : decode cX6_allWater 4 = .ok (.iload_n 2, 1) := by decide +kernel
theorem dX6_allWater_5 : decode cX6_allWater 5 = .ok (.aload_n 0, 1) := by decide +kernel
theorem dX6_allWater_6 : decode cX6_allWater 6 = .ok (.getfield 17, 3) := by decide +kernel
theorem dX6_allWater_9 : decode cX6_allWater 9 = .ok (.bipush 7, 2) := by decide +kernel
theorem dX6_allWater_11 : decode cX6_allWater 11 = .ok (.iaload, 1) := by decide +kernel
theorem dX6_allWater_12 : decode cX6_allWater 12 = .ok (.if_icmp .ge 18, 3) := by decide +kernel
theorem dX6_allWater_15 : decode cX6_allWater 15 = .ok (.iload_n 1, 1) := by decide +kernel
theorem dX6_allWater_16 : decode cX6_allWater 16 = .ok (.aload_n 0, 1) := by decide +kernel
theorem dX6_allWater_17 : decode cX6_allWater 17 = .ok (.iload_n 2, 1) := by decide +kernel
theorem dX6_allWater_18 : decode cX6_allWater 18 = .ok (.iconst 3, 1) := by decide +kernel
theorem dX6_allWater_19 : decode cX6_allWater 19 = .ok (.invokevirtual 81, 3) := by decide +kernel
theorem dX6_allWater_22 : decode cX6_allWater 22 = .ok (.iadd, 1) := by decide +kernel
theorem dX6_allWater_23 : decode cX6_allWater 23 = .ok (.istore_n 1, 1) := by decide +kernel
theorem dX6_allWater_24 : decode cX6_allWater 24 = .ok (.iinc 2 1, 3) := by decide +kernel
theorem dX6_allWater_27 : decode cX6_allWater 27 = .ok (.goto (-23), 3) := by decide +kernel
theorem dX6_allWater_30 : decode cX6_allWater 30 = .ok (.iload_n 1, 1) := by decide +kernel
theorem dX6_allWater_31 : decode cX6_allWater 31 = .ok (.ireturn, 1) := by decide +kernel
theorem dX6_waterInAll_0 : decode cX6_waterInAll 0 = .ok (.aload_n 0, 1) := by decide +kernel
theorem dX6_waterInAll_1 : decode cX6_waterInAll 1 = .ok (.aload_n 0, 1) := by decide +kernel
theorem dX6_waterInAll_2 : decode cX6_waterInAll 2 = .ok (.invokevirtual 345, 3) := by decide +kernel
theorem dX6_waterInAll_5 : decode cX6_waterInAll 5 = .ok (.invokevirtual 310, 3) := by decide +kernel
theorem dX6_waterInAll_8 : decode cX6_waterInAll 8 = .ok (.ireturn, 1) := by decide +kernel
theorem dX6_waterCame_0 : decode cX6_waterCame 0 = .ok (.aload_n 0, 1) := by decide +kernel
theorem dX6_waterCame_1 : decode cX6_waterCame 1 = .ok (.aload_n 0, 1) := by decide +kernel
theorem dX6_waterCame_2 : decode cX6_waterCame 2 = .ok (.getfield 17, 3) := by decide +kernel
theorem dX6_waterCame_5 : decode cX6_waterCame 5 = .ok (.bipush 8, 2) := by decide +kernel
theorem dX6_waterCame_7 : decode cX6_waterCame 7 = .ok (.iaload, 1) := by decide +kernel
theorem dX6_waterCame_8 : decode cX6_waterCame 8 = .ok (.invokevirtual 310, 3) := by decide +kernel
theorem dX6_waterCame_11 : decode cX6_waterCame 11 = .ok (.ireturn, 1) := by decide +kernel
theorem dX6_driedBySun_0 : decode cX6_driedBySun 0 = .ok (.aload_n 0, 1) := by decide +kernel
theorem dX6_driedBySun_1 : decode cX6_driedBySun 1 = .ok (.aload_n 0, 1) := by decide +kernel
theorem dX6_driedBySun_2 : decode cX6_driedBySun 2 = .ok (.getfield 17, 3) := by decide +kernel
theorem dX6_driedBySun_5 : decode cX6_driedBySun 5 = .ok (.bipush 9, 2) := by decide +kernel
theorem dX6_driedBySun_7 : decode cX6_driedBySun 7 = .ok (.iaload, 1) := by decide +kernel
theorem dX6_driedBySun_8 : decode cX6_driedBySun 8 = .ok (.invokevirtual 310, 3) := by decide +kernel
theorem dX6_driedBySun_11 : decode cX6_driedBySun 11 = .ok (.ireturn, 1) := by decide +kernel
theorem dX6_driedByWind_0 : decode cX6_driedByWind 0 = .ok (.aload_n 0, 1) := by decide +kernel
theorem dX6_driedByWind_1 : decode cX6_driedByWind 1 = .ok (.aload_n 0, 1) := by decide +kernel
theorem dX6_driedByWind_2 : decode cX6_driedByWind 2 = .ok (.getfield 17, 3) := by decide +kernel
theorem dX6_driedByWind_5 : decode cX6_driedByWind 5 = .ok (.bipush 10, 2) := by decide +kernel
theorem dX6_driedByWind_7 : decode cX6_driedByWind 7 = .ok (.iaload, 1) := by decide +kernel
theorem dX6_driedByWind_8 : decode cX6_driedByWind 8 = .ok (.invokevirtual 310, 3) := by decide +kernel
theorem dX6_driedByWind_11 : decode cX6_driedByWind 11 = .ok (.ireturn, 1) := by decide +kernel
theorem dX6_consistencyError_0 : decode cX6_consistencyError 0 = .ok (.aload_n 0, 1) := by decide +kernel
theorem dX6_consistencyError_1 : decode cX6_consistencyError 1 = .ok (.iconst 0, 1) := by decide +kernel
theorem dX6_consistencyError_2 : decode cX6_consistencyError 2 = .ok (.putfield 60, 3) := by decide +kernel
theorem dX6_consistencyError_5 : decode cX6_consistencyError 5 = .ok (.aload_n 0, 1) := by decide +kernel
theorem dX6_consistencyError_6 : decode cX6_consistencyError 6 = .ok (.getfield 17, 3) := by decide +kernel
theorem dX6_consistencyError_9 : decode cX6_consistencyError 9 = .ok (.bipush 8, 2) := by decide +kernel
theorem dX6_consistencyError_11 : decode cX6_consistencyError 11 = .ok (.iaload, 1) := by decide +kernel
theorem dX6_consistencyError_12 : decode cX6_consistencyError 12 = .ok (.aload_n 0, 1) := by decide +kernel
theorem dX6_consistencyError_13 : decode cX6_consistencyError 13 = .ok (.getfield 17, 3) := by decide +kernel
theorem dX6_consistencyError_16 : decode cX6_consistencyError 16 = .ok (.bipush 9, 2) := by decide +kernel
theorem dX6_consistencyError_18 : decode cX6_consistencyError 18 = .ok (.iaload, 1) := by decide +kernel
theorem dX6_consistencyError_19 : decode cX6_consistencyError 19 = .ok (.isub, 1) := by decide +kernel
theorem dX6_consistencyError_20 : decode cX6_consistencyError 20 = .ok (.aload_n 0, 1) := by decide +kernel
theorem dX6_consistencyError_21 : decode cX6_consistencyError 21 = .ok (.getfield 17, 3) := by decide +kernel
theorem dX6_consistencyError_24 : decode cX6_consistencyError 24 = .ok (.bipush 10, 2) := by decide +kernel
theorem dX6_consistencyError_26 : decode cX6_consistencyError 26 = .ok (.iaload, 1) := by decide +kernel
theorem dX6_consistencyError_27 : decode cX6_consistencyError 27 = .ok (.isub, 1) := by decide +kernel
theorem dX6_consistencyError_28 : decode cX6_consistencyError 28 = .ok (.aload_n 0, 1) := by decide +kernel
theorem dX6_consistencyError_29 : decode cX6_consistencyError 29 = .ok (.invokevirtual 345, 3) := by decide +kernel
theorem dX6_consistencyError_32 : decode cX6_consistencyError 32 = .ok (.isub, 1) := by decide +kernel
theorem dX6_consistencyError_33 : decode cX6_consistencyError 33 = .ok (.invokestatic 348, 3) := by decide +kernel
theorem dX6_consistencyError_36 : decode cX6_consistencyError 36 = .ok (.istore_n 1, 1) := by decide +kernel
theorem dX6_consistencyError_37 : decode cX6_consistencyError 37 = .ok (.iconst 0, 1) := by decide +kernel
theorem dX6_consistencyError_38 : decode cX6_consistencyError 38 = .ok (.istore_n 2, 1) := by decide +kernel
theorem dX6_consistencyError_39 : decode cX6_consistencyError 39 = .ok (.iload_n 2, 1) := by decide +kernel
theorem dX6_consistencyError_40 : decode cX6_consistencyError 40 = .ok (.bipush 24, 2) := by decide +kernel
theorem dX6_consistencyError_42 : decode cX6_consistencyError 42 = .ok (.if_icmp .ge 64, 3) := by decide +kernel
theorem dX6_consistencyError_45 : decode cX6_consistencyError 45 = .ok (.iconst 0, 1) := by decide +kernel
theorem dX6_consistencyError_46 : decode cX6_consistencyError 46 = .ok (.istore_n 3, 1) := by decide +kernel
theorem dX6_consistencyError_47 : decode cX6_consistencyError 47 = .ok (.iconst 0, 1) := by decide +kernel
theorem dX6_consistencyError_48 : decode cX6_consistencyError 48 = .ok (.istore 4, 2) := by decide +kernel
theorem dX6_consistencyError_50 : decode cX6_consistencyError 50 = .ok (.iload 4, 2) := by decide +kernel
theorem dX6_consistencyError_52 : decode cX6_consistencyError 52 = .ok (.aload_n 0, 1) := by decide +kernel
theorem dX6_consistencyError_53 : decode cX6_consistencyError 53 = .ok (.getfield 17, 3) := by decide +kernel
theorem dX6_consistencyError_56 : decode cX6_consistencyError 56 = .ok (.bipush 7, 2) := by decide +kernel
theorem dX6_consistencyError_58 : decode cX6_consistencyError 58 = .ok (.iaload, 1) := by decide +kernel
theorem dX6_consistencyError_59 : decode cX6_consistencyError 59 = .ok (.if_icmp .ge 25, 3) := by decide +kernel
theorem dX6_consistencyError_62 : decode cX6_consistencyError 62 = .ok (.iload_n 3, 1) := by decide +kernel
theorem dX6_consistencyError_63 : decode cX6_consistencyError 63 = .ok (.aload_n 0, 1) := by decide +kernel
theorem dX6_consistencyError_64 : decode cX6_consistencyError 64 = .ok (.iload 4, 2) := by decide +kernel
theorem dX6_consistencyError_66 : decode cX6_consistencyError 66 = .ok (.invokevirtual 91, 3) := by decide +kernel
theorem dX6_consistencyError_69 : decode cX6_consistencyError 69 = .ok (.iload_n 2, 1) := by decide +kernel
theorem dX6_consistencyError_70 : decode cX6_consistencyError 70 = .ok (.invokestatic 323, 3) := by decide +kernel
theorem dX6_consistencyError_73 : decode cX6_consistencyError 73 = .ok (.invokestatic 146, 3) := by decide +kernel
theorem dX6_consistencyError_76 : decode cX6_consistencyError 76 = .ok (.iadd, 1) := by decide +kernel
theorem dX6_consistencyError_77 : decode cX6_consistencyError 77 = .ok (.istore_n 3, 1) := by decide +kernel
theorem dX6_consistencyError_78 : decode cX6_consistencyError 78 = .ok (.iinc 4 1, 3) := by decide +kernel
theorem dX6_consistencyError_81 : decode cX6_consistencyError 81 = .ok (.goto (-31), 3) := by decide +kernel
theorem dX6_consistencyError_84 : decode cX6_consistencyError 84 = .ok (.iload_n 1, 1) := by decide +kernel
theorem dX6_consistencyError_85 : decode cX6_consistencyError 85 = .ok (.iload_n 3, 1) := by decide +kernel
theorem dX6_consistencyError_86 : decode cX6_consistencyError 86 = .ok (.iconst 1, 1) := by decide +kernel
theorem dX6_consistencyError_87 : decode cX6_consistencyError 87 = .ok (.if_icmp .le 7, 3) := by decide +kernel
theorem dX6_consistencyError_90 : decode cX6_consistencyError 90 = .ok (.iconst 1, 1) := by decide +kernel
theorem dX6_consistencyError_91 : decode cX6_consistencyError 91 = .ok (.goto 4, 3) := by decide +kernel
theorem dX6_consistencyError_94 : decode cX6_consistencyError 94 = .ok (.iconst 0, 1) := by decide +kernel
theorem dX6_consistencyError_95 : decode cX6_consistencyError 95 = .ok (.invokestatic 146, 3) := by decide +kernel
theorem dX6_consistencyError_98 : decode cX6_consistencyError 98 = .ok (.iadd, 1) := by decide +kernel
theorem dX6_consistencyError_99 : decode cX6_consistencyError 99 = .ok (.istore_n 1, 1) := by decide +kernel
theorem dX6_consistencyError_100 : decode cX6_consistencyError 100 = .ok (.iinc 2 1, 3) := by decide +kernel
theorem dX6_consistencyError_103 : decode cX6_consistencyError 103 = .ok (.goto (-64), 3) := by decide +kernel
theorem dX6_consistencyError_106 : decode cX6_consistencyError 106 = .ok (.iload_n 1, 1) := by decide +kernel
theorem dX6_consistencyError_107 : decode cX6_consistencyError 107 = .ok (.ireturn, 1) := by decide +kernel
theorem dX6_meanWater_0 : decode cX6_meanWater 0 = .ok (.aload_n 0, 1) := by decide +kernel
theorem dX6_meanWater_1 : decode cX6_meanWater 1 = .ok (.iconst 0, 1) := by decide +kernel
theorem dX6_meanWater_2 : decode cX6_meanWater 2 = .ok (.putfield 60, 3) := by decide +kernel
theorem dX6_meanWater_5 : decode cX6_meanWater 5 = .ok (.aload_n 0, 1) := by decide +kernel
theorem dX6_meanWater_6 : decode cX6_meanWater 6 = .ok (.getfield 17, 3) := by decide +kernel
theorem dX6_meanWater_9 : decode cX6_meanWater 9 = .ok (.bipush 7, 2) := by decide +kernel
theorem dX6_meanWater_11 : decode cX6_meanWater 11 = .ok (.iaload, 1) := by decide +kernel
theorem dX6_meanWater_12 : decode cX6_meanWater 12 = .ok (.ifCond .ne 7, 3) := by decide +kernel
theorem dX6_meanWater_15 : decode cX6_meanWater 15 = .ok (.dconst 0, 1) := by decide +kernel
theorem dX6_meanWater_16 : decode cX6_meanWater 16 = .ok (.goto 17, 3) := by decide +kernel
theorem dX6_meanWater_19 : decode cX6_meanWater 19 = .ok (.aload_n 0, 1) := by decide +kernel
theorem dX6_meanWater_20 : decode cX6_meanWater 20 = .ok (.invokevirtual 345, 3) := by decide +kernel
theorem dX6_meanWater_23 : decode cX6_meanWater 23 = .ok (.i2d, 1) := by decide +kernel
theorem dX6_meanWater_24 : decode cX6_meanWater 24 = .ok (.aload_n 0, 1) := by decide +kernel
theorem dX6_meanWater_25 : decode cX6_meanWater 25 = .ok (.getfield 17, 3) := by decide +kernel
theorem dX6_meanWater_28 : decode cX6_meanWater 28 = .ok (.bipush 7, 2) := by decide +kernel
theorem dX6_meanWater_30 : decode cX6_meanWater 30 = .ok (.iaload, 1) := by decide +kernel
theorem dX6_meanWater_31 : decode cX6_meanWater 31 = .ok (.i2d, 1) := by decide +kernel
theorem dX6_meanWater_32 : decode cX6_meanWater 32 = .ok (.ddiv, 1) := by decide +kernel
theorem dX6_meanWater_33 : decode cX6_meanWater 33 = .ok (.dreturn, 1) := by decide +kernel
theorem dX6_dryShare_0 : decode cX6_dryShare 0 = .ok (.aload_n 0, 1) := by decide +kernel
theorem dX6_dryShare_1 : decode cX6_dryShare 1 = .ok (.iconst 0, 1) := by decide +kernel
theorem dX6_dryShare_2 : decode cX6_dryShare 2 = .ok (.putfield 60, 3) := by decide +kernel
theorem dX6_dryShare_5 : decode cX6_dryShare 5 = .ok (.aload_n 0, 1) := by decide +kernel
theorem dX6_dryShare_6 : decode cX6_dryShare 6 = .ok (.getfield 17, 3) := by decide +kernel
theorem dX6_dryShare_9 : decode cX6_dryShare 9 = .ok (.bipush 7, 2) := by decide +kernel
theorem dX6_dryShare_11 : decode cX6_dryShare 11 = .ok (.iaload, 1) := by decide +kernel
theorem dX6_dryShare_12 : decode cX6_dryShare 12 = .ok (.ifCond .ne 7, 3) := by decide +kernel
theorem dX6_dryShare_15 : decode cX6_dryShare 15 = .ok (.fconst 0, 1) := by decide +kernel
theorem dX6_dryShare_16 : decode cX6_dryShare 16 = .ok (.goto 20, 3) := by decide +kernel
theorem dX6_dryShare_19 : decode cX6_dryShare 19 = .ok (.aload_n 0, 1) := by decide +kernel
theorem dX6_dryShare_20 : decode cX6_dryShare 20 = .ok (.invokevirtual 338, 3) := by decide +kernel
theorem dX6_dryShare_23 : decode cX6_dryShare 23 = .ok (.invokestatic 117, 3) := by decide +kernel
theorem dX6_dryShare_26 : decode cX6_dryShare 26 = .ok (.i2f, 1) := by decide +kernel
theorem dX6_dryShare_27 : decode cX6_dryShare 27 = .ok (.aload_n 0, 1) := by decide +kernel
theorem dX6_dryShare_28 : decode cX6_dryShare 28 = .ok (.getfield 17, 3) := by decide +kernel
theorem dX6_dryShare_31 : decode cX6_dryShare 31 = .ok (.bipush 7, 2) := by decide +kernel
theorem dX6_dryShare_33 : decode cX6_dryShare 33 = .ok (.iaload, 1) := by decide +kernel
theorem dX6_dryShare_34 : decode cX6_dryShare 34 = .ok (.i2f, 1) := by decide +kernel
theorem dX6_dryShare_35 : decode cX6_dryShare 35 = .ok (.fdiv, 1) := by decide +kernel
theorem dX6_dryShare_36 : decode cX6_dryShare 36 = .ok (.freturn, 1) := by decide +kernel
theorem dX6_waterAfter_0 : decode cX6_waterAfter 0 = .ok (.aload_n 0, 1) := by decide +kernel
theorem dX6_waterAfter_1 : decode cX6_waterAfter 1 = .ok (.iload_n 1, 1) := by decide +kernel
theorem dX6_waterAfter_2 : decode cX6_waterAfter 2 = .ok (.invokevirtual 332, 3) := by decide +kernel
theorem dX6_waterAfter_5 : decode cX6_waterAfter 5 = .ok (.ifCond .eq 19, 3) := by decide +kernel
theorem dX6_waterAfter_8 : decode cX6_waterAfter 8 = .ok (.aload_n 0, 1) := by decide +kernel
theorem dX6_waterAfter_9 : decode cX6_waterAfter 9 = .ok (.iload_n 2, 1) := by decide +kernel
theorem dX6_waterAfter_10 : decode cX6_waterAfter 10 = .ok (.iconst 0, 1) := by decide +kernel
theorem dX6_waterAfter_11 : decode cX6_waterAfter 11 = .ok (.sipush 500, 3) := by decide +kernel
theorem dX6_waterAfter_14 : decode cX6_waterAfter 14 = .ok (.invokestatic 63, 3) := by decide +kernel
theorem dX6_waterAfter_17 : decode cX6_waterAfter 17 = .ok (.iconst 2, 1) := by decide +kernel
theorem dX6_waterAfter_18 : decode cX6_waterAfter 18 = .ok (.invokevirtual 313, 3) := by decide +kernel
theorem dX6_waterAfter_21 : decode cX6_waterAfter 21 = .ok (.ifCond .eq 5, 3) := by decide +kernel
theorem dX6_waterAfter_24 : decode cX6_waterAfter 24 = .ok (.iconst 0, 1) := by decide +kernel
theorem dX6_waterAfter_25 : decode cX6_waterAfter 25 = .ok (.ireturn, 1) := by decide +kernel
theorem dX6_waterAfter_26 : decode cX6_waterAfter 26 = .ok (.aload_n 0, 1) := by decide +kernel
theorem dX6_waterAfter_27 : decode cX6_waterAfter 27 = .ok (.invokevirtual 292, 3) := by decide +kernel
theorem dX6_waterAfter_30 : decode cX6_waterAfter 30 = .ok (.aload_n 0, 1) := by decide +kernel
theorem dX6_waterAfter_31 : decode cX6_waterAfter 31 = .ok (.iload_n 2, 1) := by decide +kernel
theorem dX6_waterAfter_32 : decode cX6_waterAfter 32 = .ok (.invokevirtual 280, 3) := by decide +kernel
theorem dX6_waterAfter_35 : decode cX6_waterAfter 35 = .ok (.istore_n 3, 1) := by decide +kernel
theorem dX6_waterAfter_36 : decode cX6_waterAfter 36 = .ok (.aload_n 0, 1) := by decide +kernel
theorem dX6_waterAfter_37 : decode cX6_waterAfter 37 = .ok (.aload_n 0, 1) := by decide +kernel
theorem dX6_waterAfter_38 : decode cX6_waterAfter 38 = .ok (.iload_n 1, 1) := by decide +kernel
theorem dX6_waterAfter_39 : decode cX6_waterAfter 39 = .ok (.iconst 3, 1) := by decide +kernel
theorem dX6_waterAfter_40 : decode cX6_waterAfter 40 = .ok (.invokevirtual 81, 3) := by decide +kernel
theorem dX6_waterAfter_43 : decode cX6_waterAfter 43 = .ok (.invokevirtual 301, 3) := by decide +kernel
theorem dX6_waterAfter_46 : decode cX6_waterAfter 46 = .ok (.ireturn, 1) := by decide +kernel
theorem dX6_minutesToDry_0 : decode cX6_minutesToDry 0 = .ok (.aload_n 0, 1) := by decide +kernel
theorem dX6_minutesToDry_1 : decode cX6_minutesToDry 1 = .ok (.iload_n 1, 1) := by decide +kernel
theorem dX6_minutesToDry_2 : decode cX6_minutesToDry 2 = .ok (.invokevirtual 332, 3) := by decide +kernel
theorem dX6_minutesToDry_5 : decode cX6_minutesToDry 5 = .ok (.ifCond .ne 5, 3) := by decide +kernel
theorem dX6_minutesToDry_8 : decode cX6_minutesToDry 8 = .ok (.iconst 0, 1) := by decide +kernel
theorem dX6_minutesToDry_9 : decode cX6_minutesToDry 9 = .ok (.ireturn, 1) := by decide +kernel
theorem dX6_minutesToDry_10 : decode cX6_minutesToDry 10 = .ok (.aload_n 0, 1) := by decide +kernel
theorem dX6_minutesToDry_11 : decode cX6_minutesToDry 11 = .ok (.invokevirtual 292, 3) := by decide +kernel
theorem dX6_minutesToDry_14 : decode cX6_minutesToDry 14 = .ok (.iconst 0, 1) := by decide +kernel
theorem dX6_minutesToDry_15 : decode cX6_minutesToDry 15 = .ok (.istore_n 2, 1) := by decide +kernel
theorem dX6_minutesToDry_16 : decode cX6_minutesToDry 16 = .ok (.iload_n 2, 1) := by decide +kernel
theorem dX6_minutesToDry_17 : decode cX6_minutesToDry 17 = .ok (.sipush 500, 3) := by decide +kernel
theorem dX6_minutesToDry_20 : decode cX6_minutesToDry 20 = .ok (.if_icmp .ge 23, 3) := by decide +kernel
theorem dX6_minutesToDry_23 : decode cX6_minutesToDry 23 = .ok (.aload_n 0, 1) := by decide +kernel
theorem dX6_minutesToDry_24 : decode cX6_minutesToDry 24 = .ok (.iload_n 1, 1) := by decide +kernel
theorem dX6_minutesToDry_25 : decode cX6_minutesToDry 25 = .ok (.iconst 3, 1) := by decide +kernel
theorem dX6_minutesToDry_26 : decode cX6_minutesToDry 26 = .ok (.invokevirtual 81, 3) := by decide +kernel
theorem dX6_minutesToDry_29 : decode cX6_minutesToDry 29 = .ok (.ifCond .le 14, 3) := by decide +kernel
theorem dX6_minutesToDry_32 : decode cX6_minutesToDry 32 = .ok (.aload_n 0, 1) := by decide +kernel
theorem dX6_minutesToDry_33 : decode cX6_minutesToDry 33 = .ok (.invokevirtual 150, 3) := by decide +kernel
theorem dX6_minutesToDry_36 : decode cX6_minutesToDry 36 = .ok (.istore_n 3, 1) := by decide +kernel
theorem dX6_minutesToDry_37 : decode cX6_minutesToDry 37 = .ok (.iinc 2 1, 3) := by decide +kernel
theorem dX6_minutesToDry_40 : decode cX6_minutesToDry 40 = .ok (.goto (-24), 3) := by decide +kernel
theorem dX6_minutesToDry_43 : decode cX6_minutesToDry 43 = .ok (.aload_n 0, 1) := by decide +kernel
theorem dX6_minutesToDry_44 : decode cX6_minutesToDry 44 = .ok (.aload_n 0, 1) := by decide +kernel
theorem dX6_minutesToDry_45 : decode cX6_minutesToDry 45 = .ok (.iload_n 1, 1) := by decide +kernel
theorem dX6_minutesToDry_46 : decode cX6_minutesToDry 46 = .ok (.iconst 3, 1) := by decide +kernel
theorem dX6_minutesToDry_47 : decode cX6_minutesToDry 47 = .ok (.invokevirtual 81, 3) := by decide +kernel
theorem dX6_minutesToDry_50 : decode cX6_minutesToDry 50 = .ok (.ifCond .ne 7, 3) := by decide +kernel
theorem dX6_minutesToDry_53 : decode cX6_minutesToDry 53 = .ok (.iload_n 2, 1) := by decide +kernel
theorem dX6_minutesToDry_54 : decode cX6_minutesToDry 54 = .ok (.goto 4, 3) := by decide +kernel
theorem dX6_minutesToDry_57 : decode cX6_minutesToDry 57 = .ok (.iconst (-1), 1) := by decide +kernel
theorem dX6_minutesToDry_58 : decode cX6_minutesToDry 58 = .ok (.invokevirtual 301, 3) := by decide +kernel
theorem dX6_minutesToDry_61 : decode cX6_minutesToDry 61 = .ok (.ireturn, 1) := by decide +kernel
theorem dX6_minutesToFall_0 : decode cX6_minutesToFall 0 = .ok (.aload_n 0, 1) := by decide +kernel
theorem dX6_minutesToFall_1 : decode cX6_minutesToFall 1 = .ok (.iload_n 1, 1) := by decide +kernel
theorem dX6_minutesToFall_2 : decode cX6_minutesToFall 2 = .ok (.invokevirtual 332, 3) := by decide +kernel
theorem dX6_minutesToFall_5 : decode cX6_minutesToFall 5 = .ok (.ifCond .ne 5, 3) := by decide +kernel
theorem dX6_minutesToFall_8 : decode cX6_minutesToFall 8 = .ok (.iconst 0, 1) := by decide +kernel
theorem dX6_minutesToFall_9 : decode cX6_minutesToFall 9 = .ok (.ireturn, 1) := by decide +kernel
theorem dX6_minutesToFall_10 : decode cX6_minutesToFall 10 = .ok (.aload_n 0, 1) := by decide +kernel
theorem dX6_minutesToFall_11 : decode cX6_minutesToFall 11 = .ok (.invokevirtual 292, 3) := by decide +kernel
theorem dX6_minutesToFall_14 : decode cX6_minutesToFall 14 = .ok (.iconst 0, 1) := by decide +kernel
theorem dX6_minutesToFall_15 : decode cX6_minutesToFall 15 = .ok (.istore_n 2, 1) := by decide +kernel
theorem dX6_minutesToFall_16 : decode cX6_minutesToFall 16 = .ok (.iload_n 2, 1) := by decide +kernel
theorem dX6_minutesToFall_17 : decode cX6_minutesToFall 17 = .ok (.sipush 500, 3) := by decide +kernel
theorem dX6_minutesToFall_20 : decode cX6_minutesToFall 20 = .ok (.if_icmp .ge 23, 3) := by decide +kernel
theorem dX6_minutesToFall_23 : decode cX6_minutesToFall 23 = .ok (.aload_n 0, 1) := by decide +kernel
theorem dX6_minutesToFall_24 : decode cX6_minutesToFall 24 = .ok (.iload_n 1, 1) := by decide +kernel
theorem dX6_minutesToFall_25 : decode cX6_minutesToFall 25 = .ok (.iconst 1, 1) := by decide +kernel
theorem dX6_minutesToFall_26 : decode cX6_minutesToFall 26 = .ok (.invokevirtual 84, 3) := by decide +kernel
theorem dX6_minutesToFall_29 : decode cX6_minutesToFall 29 = .ok (.ifCond .eq 14, 3) := by decide +kernel
theorem dX6_minutesToFall_32 : decode cX6_minutesToFall 32 = .ok (.aload_n 0, 1) := by decide +kernel
theorem dX6_minutesToFall_33 : decode cX6_minutesToFall 33 = .ok (.invokevirtual 150, 3) := by decide +kernel
theorem dX6_minutesToFall_36 : decode cX6_minutesToFall 36 = .ok (.istore_n 3, 1) := by decide +kernel
theorem dX6_minutesToFall_37 : decode cX6_minutesToFall 37 = .ok (.iinc 2 1, 3) := by decide +kernel
theorem dX6_minutesToFall_40 : decode cX6_minutesToFall 40 = .ok (.goto (-24), 3) := by decide +kernel
theorem dX6_minutesToFall_43 : decode cX6_minutesToFall 43 = .ok (.iload_n 2, 1) := by decide +kernel
theorem dX6_minutesToFall_44 : decode cX6_minutesToFall 44 = .ok (.ifCond .le 16, 3) := by decide +kernel
theorem dX6_minutesToFall_47 : decode cX6_minutesToFall 47 = .ok (.aload_n 0, 1) := by decide +kernel
theorem dX6_minutesToFall_48 : decode cX6_minutesToFall 48 = .ok (.iload_n 1, 1) := by decide +kernel
theorem dX6_minutesToFall_49 : decode cX6_minutesToFall 49 = .ok (.iconst 2, 1) := by decide +kernel
theorem dX6_minutesToFall_50 : decode cX6_minutesToFall 50 = .ok (.invokevirtual 84, 3) := by decide +kernel
theorem dX6_minutesToFall_53 : decode cX6_minutesToFall 53 = .ok (.ifCond .eq 7, 3) := by decide +kernel
theorem dX6_minutesToFall_56 : decode cX6_minutesToFall 56 = .ok (.iconst 1, 1) := by decide +kernel
theorem dX6_minutesToFall_57 : decode cX6_minutesToFall 57 = .ok (.goto 4, 3) := by decide +kernel
theorem dX6_minutesToFall_60 : decode cX6_minutesToFall 60 = .ok (.iconst 0, 1) := by decide +kernel
theorem dX6_minutesToFall_61 : decode cX6_minutesToFall 61 = .ok (.istore_n 3, 1) := by decide +kernel
theorem dX6_minutesToFall_62 : decode cX6_minutesToFall 62 = .ok (.aload_n 0, 1) := by decide +kernel
theorem dX6_minutesToFall_63 : decode cX6_minutesToFall 63 = .ok (.iload_n 3, 1) := by decide +kernel
theorem dX6_minutesToFall_64 : decode cX6_minutesToFall 64 = .ok (.ifCond .eq 7, 3) := by decide +kernel
theorem dX6_minutesToFall_67 : decode cX6_minutesToFall 67 = .ok (.iload_n 2, 1) := by decide +kernel
theorem dX6_minutesToFall_68 : decode cX6_minutesToFall 68 = .ok (.goto 4, 3) := by decide +kernel
theorem dX6_minutesToFall_71 : decode cX6_minutesToFall 71 = .ok (.iconst (-1), 1) := by decide +kernel
theorem dX6_minutesToFall_72 : decode cX6_minutesToFall 72 = .ok (.invokevirtual 301, 3) := by decide +kernel
theorem dX6_minutesToFall_75 : decode cX6_minutesToFall 75 = .ok (.ireturn, 1) := by decide +kernel
theorem dX6_garmentsAtRisk_0 : decode cX6_garmentsAtRisk 0 = .ok (.aload_n 0, 1) := by decide +kernel
theorem dX6_garmentsAtRisk_1 : decode cX6_garmentsAtRisk 1 = .ok (.iconst 0, 1) := by decide +kernel
theorem dX6_garmentsAtRisk_2 : decode cX6_garmentsAtRisk 2 = .ok (.putfield 60, 3) := by decide +kernel
theorem dX6_garmentsAtRisk_5 : decode cX6_garmentsAtRisk 5 = .ok (.aload_n 0, 1) := by decide +kernel
theorem dX6_garmentsAtRisk_6 : decode cX6_garmentsAtRisk 6 = .ok (.iconst 1, 1) := by decide +kernel
theorem dX6_garmentsAtRisk_7 : decode cX6_garmentsAtRisk 7 = .ok (.invokevirtual 153, 3) := by decide +kernel
theorem dX6_garmentsAtRisk_10 : decode cX6_garmentsAtRisk 10 = .ok (.istore_n 1, 1) := by decide +kernel
theorem dX6_garmentsAtRisk_11 : decode cX6_garmentsAtRisk 11 = .ok (.aload_n 0, 1) := by decide +kernel
theorem dX6_garmentsAtRisk_12 : decode cX6_garmentsAtRisk 12 = .ok (.invokevirtual 292, 3) := by decide +kernel
theorem dX6_garmentsAtRisk_15 : decode cX6_garmentsAtRisk 15 = .ok (.aload_n 0, 1) := by decide +kernel
theorem dX6_garmentsAtRisk_16 : decode cX6_garmentsAtRisk 16 = .ok (.bipush 60, 2) := by decide +kernel
theorem dX6_garmentsAtRisk_18 : decode cX6_garmentsAtRisk 18 = .ok (.invokevirtual 280, 3) := by decide +kernel
theorem dX6_garmentsAtRisk_21 : decode cX6_garmentsAtRisk 21 = .ok (.istore_n 2, 1) := by decide +kernel
theorem dX6_garmentsAtRisk_22 : decode cX6_garmentsAtRisk 22 = .ok (.aload_n 0, 1) := by decide +kernel
theorem dX6_garmentsAtRisk_23 : decode cX6_garmentsAtRisk 23 = .ok (.iload_n 1, 1) := by decide +kernel
theorem dX6_garmentsAtRisk_24 : decode cX6_garmentsAtRisk 24 = .ok (.aload_n 0, 1) := by decide +kernel
theorem dX6_garmentsAtRisk_25 : decode cX6_garmentsAtRisk 25 = .ok (.iconst 2, 1) := by decide +kernel
theorem dX6_garmentsAtRisk_26 : decode cX6_garmentsAtRisk 26 = .ok (.invokevirtual 153, 3) := by decide +kernel
theorem dX6_garmentsAtRisk_29 : decode cX6_garmentsAtRisk 29 = .ok (.iand, 1) := by decide +kernel
theorem dX6_garmentsAtRisk_30 : decode cX6_garmentsAtRisk 30 = .ok (.invokevirtual 301, 3) := by decide +kernel
theorem dX6_garmentsAtRisk_33 : decode cX6_garmentsAtRisk 33 = .ok (.ireturn, 1) := by decide +kernel
theorem dX6_waterOn_0 : decode cX6_waterOn 0 = .ok (.aload_n 0, 1) := by decide +kernel
theorem dX6_waterOn_1 : decode cX6_waterOn 1 = .ok (.invokevirtual 292, 3) := by decide +kernel
theorem dX6_waterOn_4 : decode cX6_waterOn 4 = .ok (.aload_n 0, 1) := by decide +kernel
theorem dX6_waterOn_5 : decode cX6_waterOn 5 = .ok (.iload_n 1, 1) := by decide +kernel
theorem dX6_waterOn_6 : decode cX6_waterOn 6 = .ok (.bipush 6, 2) := by decide +kernel
theorem dX6_waterOn_8 : decode cX6_waterOn 8 = .ok (.iconst 1, 1) := by decide +kernel
theorem dX6_waterOn_9 : decode cX6_waterOn 9 = .ok (.invokevirtual 106, 3) := by decide +kernel
theorem dX6_waterOn_12 : decode cX6_waterOn 12 = .ok (.aload_n 0, 1) := by decide +kernel
theorem dX6_waterOn_13 : decode cX6_waterOn 13 = .ok (.iload_n 1, 1) := by decide +kernel
theorem dX6_waterOn_14 : decode cX6_waterOn 14 = .ok (.bipush 7, 2) := by decide +kernel
theorem dX6_waterOn_16 : decode cX6_waterOn 16 = .ok (.iload_n 2, 1) := by decide +kernel
theorem dX6_waterOn_17 : decode cX6_waterOn 17 = .ok (.invokevirtual 106, 3) := by decide +kernel
theorem dX6_waterOn_20 : decode cX6_waterOn 20 = .ok (.iconst 0, 1) := by decide +kernel
theorem dX6_waterOn_21 : decode cX6_waterOn 21 = .ok (.istore_n 3, 1) := by decide +kernel
theorem dX6_waterOn_22 : decode cX6_waterOn 22 = .ok (.iload_n 3, 1) := by decide +kernel
theorem dX6_waterOn_23 : decode cX6_waterOn 23 = .ok (.bipush 60, 2) := by decide +kernel
theorem dX6_waterOn_25 : decode cX6_waterOn 25 = .ok (.if_icmp .ge 22, 3) := by decide +kernel
theorem dX6_waterOn_28 : decode cX6_waterOn 28 = .ok (.aload_n 0, 1) := by decide +kernel
theorem dX6_waterOn_29 : decode cX6_waterOn 29 = .ok (.iload_n 1, 1) := by decide +kernel
theorem dX6_waterOn_30 : decode cX6_waterOn 30 = .ok (.aload_n 0, 1) := by decide +kernel
theorem dX6_waterOn_31 : decode cX6_waterOn 31 = .ok (.getfield 17, 3) := by decide +kernel
theorem dX6_waterOn_34 : decode cX6_waterOn 34 = .ok (.iconst 0, 1) := by decide +kernel
theorem dX6_waterOn_35 : decode cX6_waterOn 35 = .ok (.iaload, 1) := by decide +kernel
theorem dX6_waterOn_36 : decode cX6_waterOn 36 = .ok (.iload_n 3, 1) := by decide +kernel
theorem dX6_waterOn_37 : decode cX6_waterOn 37 = .ok (.iadd, 1) := by decide +kernel
theorem dX6_waterOn_38 : decode cX6_waterOn 38 = .ok (.invokevirtual 136, 3) := by decide +kernel
theorem dX6_waterOn_41 : decode cX6_waterOn 41 = .ok (.iinc 3 1, 3) := by decide +kernel
theorem dX6_waterOn_44 : decode cX6_waterOn 44 = .ok (.goto (-22), 3) := by decide +kernel
theorem dX6_waterOn_47 : decode cX6_waterOn 47 = .ok (.aload_n 0, 1) := by decide +kernel
theorem dX6_waterOn_48 : decode cX6_waterOn 48 = .ok (.aload_n 0, 1) := by decide +kernel
theorem dX6_waterOn_49 : decode cX6_waterOn 49 = .ok (.iload_n 1, 1) := by decide +kernel
theorem dX6_waterOn_50 : decode cX6_waterOn 50 = .ok (.iconst 3, 1) := by decide +kernel
theorem dX6_waterOn_51 : decode cX6_waterOn 51 = .ok (.invokevirtual 81, 3) := by decide +kernel
theorem dX6_waterOn_54 : decode cX6_waterOn 54 = .ok (.invokevirtual 301, 3) := by decide +kernel
theorem dX6_waterOn_57 : decode cX6_waterOn 57 = .ok (.ireturn, 1) := by decide +kernel
theorem dX6_bestSpot_0 : decode cX6_bestSpot 0 = .ok (.aload_n 0, 1) := by decide +kernel
theorem dX6_bestSpot_1 : decode cX6_bestSpot 1 = .ok (.iload_n 1, 1) := by decide +kernel
theorem dX6_bestSpot_2 : decode cX6_bestSpot 2 = .ok (.invokevirtual 332, 3) := by decide +kernel
theorem dX6_bestSpot_5 : decode cX6_bestSpot 5 = .ok (.ifCond .ne 5, 3) := by decide +kernel
theorem dX6_bestSpot_8 : decode cX6_bestSpot 8 = .ok (.iconst 0, 1) := by decide +kernel
theorem dX6_bestSpot_9 : decode cX6_bestSpot 9 = .ok (.ireturn, 1) := by decide +kernel
theorem dX6_bestSpot_10 : decode cX6_bestSpot 10 = .ok (.iconst (-1), 1) := by decide +kernel
theorem dX6_bestSpot_11 : decode cX6_bestSpot 11 = .ok (.istore_n 2, 1) := by decide +kernel
theorem dX6_bestSpot_12 : decode cX6_bestSpot 12 = .ok (.iconst 0, 1) := by decide +kernel
theorem dX6_bestSpot_13 : decode cX6_bestSpot 13 = .ok (.istore_n 3, 1) := by decide +kernel
theorem dX6_bestSpot_14 : decode cX6_bestSpot 14 = .ok (.iconst 0, 1) := by decide +kernel
theorem dX6_bestSpot_15 : decode cX6_bestSpot 15 = .ok (.istore 4, 2) := by decide +kernel
theorem dX6_bestSpot_17 : decode cX6_bestSpot 17 = .ok (.iload 4, 2) := by decide +kernel
theorem dX6_bestSpot_19 : decode cX6_bestSpot 19 = .ok (.bipush 24, 2) := by decide +kernel
theorem dX6_bestSpot_21 : decode cX6_bestSpot 21 = .ok (.if_icmp .ge 70, 3) := by decide +kernel
theorem dX6_bestSpot_24 : decode cX6_bestSpot 24 = .ok (.aload_n 0, 1) := by decide +kernel
theorem dX6_bestSpot_25 : decode cX6_bestSpot 25 = .ok (.iload_n 1, 1) := by decide +kernel
theorem dX6_bestSpot_26 : decode cX6_bestSpot 26 = .ok (.iconst 0, 1) := by decide +kernel
theorem dX6_bestSpot_27 : decode cX6_bestSpot 27 = .ok (.invokevirtual 84, 3) := by decide +kernel
theorem dX6_bestSpot_30 : decode cX6_bestSpot 30 = .ok (.ifCond .eq 61, 3) := by decide +kernel
theorem dX6_bestSpot_33 : decode cX6_bestSpot 33 = .ok (.aload_n 0, 1) := by decide +kernel
theorem dX6_bestSpot_34 : decode cX6_bestSpot 34 = .ok (.iload_n 1, 1) := by decide +kernel
theorem dX6_bestSpot_35 : decode cX6_bestSpot 35 = .ok (.iload 4, 2) := by decide +kernel
theorem dX6_bestSpot_37 : decode cX6_bestSpot 37 = .ok (.invokevirtual 97, 3) := by decide +kernel
theorem dX6_bestSpot_40 : decode cX6_bestSpot 40 = .ok (.ifCond .eq 51, 3) := by decide +kernel
theorem dX6_bestSpot_43 : decode cX6_bestSpot 43 = .ok (.aload_n 0, 1) := by decide +kernel
theorem dX6_bestSpot_44 : decode cX6_bestSpot 44 = .ok (.iload_n 1, 1) := by decide +kernel
theorem dX6_bestSpot_45 : decode cX6_bestSpot 45 = .ok (.iload 4, 2) := by decide +kernel
theorem dX6_bestSpot_47 : decode cX6_bestSpot 47 = .ok (.invokevirtual 88, 3) := by decide +kernel
theorem dX6_bestSpot_50 : decode cX6_bestSpot 50 = .ok (.aload_n 0, 1) := by decide +kernel
theorem dX6_bestSpot_51 : decode cX6_bestSpot 51 = .ok (.iconst (-1), 1) := by decide +kernel
theorem dX6_bestSpot_52 : decode cX6_bestSpot 52 = .ok (.invokevirtual 100, 3) := by decide +kernel
theorem dX6_bestSpot_55 : decode cX6_bestSpot 55 = .ok (.iand, 1) := by decide +kernel
theorem dX6_bestSpot_56 : decode cX6_bestSpot 56 = .ok (.ifCond .ne 29, 3) := by decide +kernel
theorem dX6_bestSpot_59 : decode cX6_bestSpot 59 = .ok (.aload_n 0, 1) := by decide +kernel
theorem dX6_bestSpot_60 : decode cX6_bestSpot 60 = .ok (.iload_n 1, 1) := by decide +kernel
theorem dX6_bestSpot_61 : decode cX6_bestSpot 61 = .ok (.iload 4, 2) := by decide +kernel
theorem dX6_bestSpot_63 : decode cX6_bestSpot 63 = .ok (.invokevirtual 351, 3) := by decide +kernel
theorem dX6_bestSpot_66 : decode cX6_bestSpot 66 = .ok (.istore 5, 2) := by decide +kernel
theorem dX6_bestSpot_68 : decode cX6_bestSpot 68 = .ok (.iload_n 2, 1) := by decide +kernel
theorem dX6_bestSpot_69 : decode cX6_bestSpot 69 = .ok (.iconst (-1), 1) := by decide +kernel
theorem dX6_bestSpot_70 : decode cX6_bestSpot 70 = .ok (.if_icmp .eq 9, 3) := by decide +kernel
theorem dX6_bestSpot_73 : decode cX6_bestSpot 73 = .ok (.iload 5, 2) := by decide +kernel
theorem dX6_bestSpot_75 : decode cX6_bestSpot 75 = .ok (.iload_n 3, 1) := by decide +kernel
theorem dX6_bestSpot_76 : decode cX6_bestSpot 76 = .ok (.if_icmp .ge 9, 3) := by decide +kernel
theorem dX6_bestSpot_79 : decode cX6_bestSpot 79 = .ok (.iload 4, 2) := by decide +kernel
theorem dX6_bestSpot_81 : decode cX6_bestSpot 81 = .ok (.istore_n 2, 1) := by decide +kernel
theorem dX6_bestSpot_82 : decode cX6_bestSpot 82 = .ok (.iload 5, 2) := by decide +kernel
theorem dX6_bestSpot_84 : decode cX6_bestSpot 84 = .ok (.istore_n 3, 1) := by decide +kernel
theorem dX6_bestSpot_85 : decode cX6_bestSpot 85 = .ok (.iinc 4 1, 3) := by decide +kernel
theorem dX6_bestSpot_88 : decode cX6_bestSpot 88 = .ok (.goto (-71), 3) := by decide +kernel
theorem dX6_bestSpot_91 : decode cX6_bestSpot 91 = .ok (.iload_n 2, 1) := by decide +kernel
theorem dX6_bestSpot_92 : decode cX6_bestSpot 92 = .ok (.ireturn, 1) := by decide +kernel
theorem dX6_addGarment_0 : decode cX6_addGarment 0 = .ok (.aload_n 0, 1) := by decide +kernel
theorem dX6_addGarment_1 : decode cX6_addGarment 1 = .ok (.iconst 0, 1) := by decide +kernel
theorem dX6_addGarment_2 : decode cX6_addGarment 2 = .ok (.putfield 60, 3) := by decide +kernel
theorem dX6_addGarment_5 : decode cX6_addGarment 5 = .ok (.iload_n 1, 1) := by decide +kernel
theorem dX6_addGarment_6 : decode cX6_addGarment 6 = .ok (.iconst 1, 1) := by decide +kernel
theorem dX6_addGarment_7 : decode cX6_addGarment 7 = .ok (.bipush 6, 2) := by decide +kernel
theorem dX6_addGarment_9 : decode cX6_addGarment 9 = .ok (.invokestatic 63, 3) := by decide +kernel
theorem dX6_addGarment_12 : decode cX6_addGarment 12 = .ok (.ifCond .eq 38, 3) := by decide +kernel
theorem dX6_addGarment_15 : decode cX6_addGarment 15 = .ok (.iload_n 2, 1) := by decide +kernel
theorem dX6_addGarment_16 : decode cX6_addGarment 16 = .ok (.iconst 1, 1) := by decide +kernel
theorem dX6_addGarment_17 : decode cX6_addGarment 17 = .ok (.bipush 99, 2) := by decide +kernel
theorem dX6_addGarment_19 : decode cX6_addGarment 19 = .ok (.invokestatic 63, 3) := by decide +kernel
theorem dX6_addGarment_22 : decode cX6_addGarment 22 = .ok (.ifCond .eq 28, 3) := by decide +kernel
theorem dX6_addGarment_25 : decode cX6_addGarment 25 = .ok (.iload_n 3, 1) := by decide +kernel
theorem dX6_addGarment_26 : decode cX6_addGarment 26 = .ok (.iconst 1, 1) := by decide +kernel
theorem dX6_addGarment_27 : decode cX6_addGarment 27 = .ok (.sipush 999, 3) := by decide +kernel
theorem dX6_addGarment_30 : decode cX6_addGarment 30 = .ok (.invokestatic 63, 3) := by decide +kernel
theorem dX6_addGarment_33 : decode cX6_addGarment 33 = .ok (.ifCond .eq 17, 3) := by decide +kernel
theorem dX6_addGarment_36 : decode cX6_addGarment 36 = .ok (.iload 4, 2) := by decide +kernel
theorem dX6_addGarment_38 : decode cX6_addGarment 38 = .ok (.iconst 0, 1) := by decide +kernel
theorem dX6_addGarment_39 : decode cX6_addGarment 39 = .ok (.iload_n 3, 1) := by decide +kernel
theorem dX6_addGarment_40 : decode cX6_addGarment 40 = .ok (.invokestatic 63, 3) := by decide +kernel
theorem dX6_addGarment_43 : decode cX6_addGarment 43 = .ok (.ifCond .eq 7, 3) := by decide +kernel
theorem dX6_addGarment_46 : decode cX6_addGarment 46 = .ok (.iconst 1, 1) := by decide +kernel
theorem dX6_addGarment_47 : decode cX6_addGarment 47 = .ok (.goto 4, 3) := by decide +kernel
theorem dX6_addGarment_50 : decode cX6_addGarment 50 = .ok (.iconst 0, 1) := by decide +kernel
theorem dX6_addGarment_51 : decode cX6_addGarment 51 = .ok (.istore 5, 2) := by decide +kernel
theorem dX6_addGarment_53 : decode cX6_addGarment 53 = .ok (.aload_n 0, 1) := by decide +kernel
theorem dX6_addGarment_54 : decode cX6_addGarment 54 = .ok (.iload 5, 2) := by decide +kernel
theorem dX6_addGarment_56 : decode cX6_addGarment 56 = .ok (.iconst 1, 1) := by decide +kernel
theorem dX6_addGarment_57 : decode cX6_addGarment 57 = .ok (.invokevirtual 313, 3) := by decide +kernel
theorem dX6_addGarment_60 : decode cX6_addGarment 60 = .ok (.ifCond .ne 28, 3) := by decide +kernel
theorem dX6_addGarment_63 : decode cX6_addGarment 63 = .ok (.aload_n 0, 1) := by decide +kernel
theorem dX6_addGarment_64 : decode cX6_addGarment 64 = .ok (.aload_n 0, 1) := by decide +kernel
theorem dX6_addGarment_65 : decode cX6_addGarment 65 = .ok (.getfield 17, 3) := by decide +kernel
theorem dX6_addGarment_68 : decode cX6_addGarment 68 = .ok (.bipush 7, 2) := by decide +kernel
theorem dX6_addGarment_70 : decode cX6_addGarment 70 = .ok (.iaload, 1) := by decide +kernel
theorem dX6_addGarment_71 : decode cX6_addGarment 71 = .ok (.bipush 10, 2) := by decide +kernel
theorem dX6_addGarment_73 : decode cX6_addGarment 73 = .ok (.if_icmp .ge 7, 3) := by decide +kernel
theorem dX6_addGarment_76 : decode cX6_addGarment 76 = .ok (.iconst 1, 1) := by decide +kernel
theorem dX6_addGarment_77 : decode cX6_addGarment 77 = .ok (.goto 4, 3) := by decide +kernel
theorem dX6_addGarment_80 : decode cX6_addGarment 80 = .ok (.iconst 0, 1) := by decide +kernel
theorem dX6_addGarment_81 : decode cX6_addGarment 81 = .ok (.iconst 2, 1) := by decide +kernel
theorem dX6_addGarment_82 : decode cX6_addGarment 82 = .ok (.invokevirtual 313, 3) := by decide +kernel
theorem dX6_addGarment_85 : decode cX6_addGarment 85 = .ok (.ifCond .eq 5, 3) := by decide +kernel
theorem dX6_addGarment_88 : decode cX6_addGarment 88 = .ok (.iconst 0, 1) := by decide +kernel
theorem dX6_addGarment_89 : decode cX6_addGarment 89 = .ok (.ireturn, 1) := by decide +kernel
theorem dX6_addGarment_90 : decode cX6_addGarment 90 = .ok (.aload_n 0, 1) := by decide +kernel
theorem dX6_addGarment_91 : decode cX6_addGarment 91 = .ok (.invokevirtual 354, 3) := by decide +kernel
theorem dX6_addGarment_94 : decode cX6_addGarment 94 = .ok (.aload_n 0, 1) := by decide +kernel
theorem dX6_addGarment_95 : decode cX6_addGarment 95 = .ok (.iload_n 1, 1) := by decide +kernel
theorem dX6_addGarment_96 : decode cX6_addGarment 96 = .ok (.iload_n 2, 1) := by decide +kernel
theorem dX6_addGarment_97 : decode cX6_addGarment 97 = .ok (.iload_n 3, 1) := by decide +kernel
theorem dX6_addGarment_98 : decode cX6_addGarment 98 = .ok (.iload 4, 2) := by decide +kernel
theorem dX6_addGarment_100 : decode cX6_addGarment 100 = .ok (.invokevirtual 252, 3) := by decide +kernel
theorem dX6_addGarment_103 : decode cX6_addGarment 103 = .ok (.ireturn, 1) := by decide +kernel
theorem dX6_hang_0 : decode cX6_hang 0 = .ok (.aload_n 0, 1) := by decide +kernel
theorem dX6_hang_1 : decode cX6_hang 1 = .ok (.iload_n 1, 1) := by decide +kernel
theorem dX6_hang_2 : decode cX6_hang 2 = .ok (.iload_n 2, 1) := by decide +kernel
theorem dX6_hang_3 : decode cX6_hang 3 = .ok (.iload_n 3, 1) := by decide +kernel
theorem dX6_hang_4 : decode cX6_hang 4 = .ok (.iload 4, 2) := by decide +kernel
theorem dX6_hang_6 : decode cX6_hang 6 = .ok (.invokevirtual 341, 3) := by decide +kernel
theorem dX6_hang_9 : decode cX6_hang 9 = .ok (.ifCond .eq 28, 3) := by decide +kernel
theorem dX6_hang_12 : decode cX6_hang 12 = .ok (.aload_n 0, 1) := by decide +kernel
theorem dX6_hang_13 : decode cX6_hang 13 = .ok (.aload_n 0, 1) := by decide +kernel
theorem dX6_hang_14 : decode cX6_hang 14 = .ok (.iload_n 1, 1) := by decide +kernel
theorem dX6_hang_15 : decode cX6_hang 15 = .ok (.iload_n 2, 1) := by decide +kernel
theorem dX6_hang_16 : decode cX6_hang 16 = .ok (.iload_n 3, 1) := by decide +kernel
theorem dX6_hang_17 : decode cX6_hang 17 = .ok (.iload 4, 2) := by decide +kernel
theorem dX6_hang_19 : decode cX6_hang 19 = .ok (.invokevirtual 245, 3) := by decide +kernel
theorem dX6_hang_22 : decode cX6_hang 22 = .ok (.ifCond .ne 7, 3) := by decide +kernel
theorem dX6_hang_25 : decode cX6_hang 25 = .ok (.iconst 1, 1) := by decide +kernel
theorem dX6_hang_26 : decode cX6_hang 26 = .ok (.goto 4, 3) := by decide +kernel
theorem dX6_hang_29 : decode cX6_hang 29 = .ok (.iconst 0, 1) := by decide +kernel
theorem dX6_hang_30 : decode cX6_hang 30 = .ok (.iconst 3, 1) := by decide +kernel
theorem dX6_hang_31 : decode cX6_hang 31 = .ok (.invokevirtual 313, 3) := by decide +kernel
theorem dX6_hang_34 : decode cX6_hang 34 = .ok (.ifCond .eq 5, 3) := by decide +kernel
theorem dX6_hang_37 : decode cX6_hang 37 = .ok (.iconst 0, 1) := by decide +kernel
theorem dX6_hang_38 : decode cX6_hang 38 = .ok (.ireturn, 1) := by decide +kernel
theorem dX6_hang_39 : decode cX6_hang 39 = .ok (.aload_n 0, 1) := by decide +kernel
theorem dX6_hang_40 : decode cX6_hang 40 = .ok (.invokevirtual 354, 3) := by decide +kernel
theorem dX6_hang_43 : decode cX6_hang 43 = .ok (.aload_n 0, 1) := by decide +kernel
theorem dX6_hang_44 : decode cX6_hang 44 = .ok (.iload_n 1, 1) := by decide +kernel
theorem dX6_hang_45 : decode cX6_hang 45 = .ok (.iload_n 2, 1) := by decide +kernel
theorem dX6_hang_46 : decode cX6_hang 46 = .ok (.iload_n 3, 1) := by decide +kernel
theorem dX6_hang_47 : decode cX6_hang 47 = .ok (.iload 4, 2) := by decide +kernel
theorem dX6_hang_49 : decode cX6_hang 49 = .ok (.invokevirtual 255, 3) := by decide +kernel
theorem dX6_hang_52 : decode cX6_hang 52 = .ok (.ireturn, 1) := by decide +kernel
theorem dX6_takeDown_0 : decode cX6_takeDown 0 = .ok (.aload_n 0, 1) := by decide +kernel
theorem dX6_takeDown_1 : decode cX6_takeDown 1 = .ok (.iload_n 1, 1) := by decide +kernel
theorem dX6_takeDown_2 : decode cX6_takeDown 2 = .ok (.invokevirtual 332, 3) := by decide +kernel
theorem dX6_takeDown_5 : decode cX6_takeDown 5 = .ok (.ifCond .eq 17, 3) := by decide +kernel
theorem dX6_takeDown_8 : decode cX6_takeDown 8 = .ok (.aload_n 0, 1) := by decide +kernel
theorem dX6_takeDown_9 : decode cX6_takeDown 9 = .ok (.aload_n 0, 1) := by decide +kernel
theorem dX6_takeDown_10 : decode cX6_takeDown 10 = .ok (.iload_n 1, 1) := by decide +kernel
theorem dX6_takeDown_11 : decode cX6_takeDown 11 = .ok (.iconst 1, 1) := by decide +kernel
theorem dX6_takeDown_12 : decode cX6_takeDown 12 = .ok (.invokevirtual 84, 3) := by decide +kernel
theorem dX6_takeDown_15 : decode cX6_takeDown 15 = .ok (.iconst 2, 1) := by decide +kernel
theorem dX6_takeDown_16 : decode cX6_takeDown 16 = .ok (.invokevirtual 313, 3) := by decide +kernel
theorem dX6_takeDown_19 : decode cX6_takeDown 19 = .ok (.ifCond .eq 5, 3) := by decide +kernel
theorem dX6_takeDown_22 : decode cX6_takeDown 22 = .ok (.iconst 0, 1) := by decide +kernel
theorem dX6_takeDown_23 : decode cX6_takeDown 23 = .ok (.ireturn, 1) := by decide +kernel
theorem dX6_takeDown_24 : decode cX6_takeDown 24 = .ok (.aload_n 0, 1) := by decide +kernel
theorem dX6_takeDown_25 : decode cX6_takeDown 25 = .ok (.invokevirtual 354, 3) := by decide +kernel
theorem dX6_takeDown_28 : decode cX6_takeDown 28 = .ok (.aload_n 0, 1) := by decide +kernel
theorem dX6_takeDown_29 : decode cX6_takeDown 29 = .ok (.iload_n 1, 1) := by decide +kernel
theorem dX6_takeDown_30 : decode cX6_takeDown 30 = .ok (.invokevirtual 258, 3) := by decide +kernel
theorem dX6_takeDown_33 : decode cX6_takeDown 33 = .ok (.ireturn, 1) := by decide +kernel
theorem dX6_pickUp_0 : decode cX6_pickUp 0 = .ok (.aload_n 0, 1) := by decide +kernel
theorem dX6_pickUp_1 : decode cX6_pickUp 1 = .ok (.iload_n 1, 1) := by decide +kernel
theorem dX6_pickUp_2 : decode cX6_pickUp 2 = .ok (.invokevirtual 332, 3) := by decide +kernel
theorem dX6_pickUp_5 : decode cX6_pickUp 5 = .ok (.ifCond .eq 17, 3) := by decide +kernel
theorem dX6_pickUp_8 : decode cX6_pickUp 8 = .ok (.aload_n 0, 1) := by decide +kernel
theorem dX6_pickUp_9 : decode cX6_pickUp 9 = .ok (.aload_n 0, 1) := by decide +kernel
theorem dX6_pickUp_10 : decode cX6_pickUp 10 = .ok (.iload_n 1, 1) := by decide +kernel
theorem dX6_pickUp_11 : decode cX6_pickUp 11 = .ok (.iconst 2, 1) := by decide +kernel
theorem dX6_pickUp_12 : decode cX6_pickUp 12 = .ok (.invokevirtual 84, 3) := by decide +kernel
theorem dX6_pickUp_15 : decode cX6_pickUp 15 = .ok (.iconst 2, 1) := by decide +kernel
theorem dX6_pickUp_16 : decode cX6_pickUp 16 = .ok (.invokevirtual 313, 3) := by decide +kernel
theorem dX6_pickUp_19 : decode cX6_pickUp 19 = .ok (.ifCond .eq 5, 3) := by decide +kernel
theorem dX6_pickUp_22 : decode cX6_pickUp 22 = .ok (.iconst 0, 1) := by decide +kernel
theorem dX6_pickUp_23 : decode cX6_pickUp 23 = .ok (.ireturn, 1) := by decide +kernel
theorem dX6_pickUp_24 : decode cX6_pickUp 24 = .ok (.aload_n 0, 1) := by decide +kernel
theorem dX6_pickUp_25 : decode cX6_pickUp 25 = .ok (.invokevirtual 354, 3) := by decide +kernel
theorem dX6_pickUp_28 : decode cX6_pickUp 28 = .ok (.aload_n 0, 1) := by decide +kernel
theorem dX6_pickUp_29 : decode cX6_pickUp 29 = .ok (.iload_n 1, 1) := by decide +kernel
theorem dX6_pickUp_30 : decode cX6_pickUp 30 = .ok (.invokevirtual 261, 3) := by decide +kernel
theorem dX6_pickUp_33 : decode cX6_pickUp 33 = .ok (.ireturn, 1) := by decide +kernel
theorem dX6_wash_0 : decode cX6_wash 0 = .ok (.aload_n 0, 1) := by decide +kernel
theorem dX6_wash_1 : decode cX6_wash 1 = .ok (.iload_n 1, 1) := by decide +kernel
theorem dX6_wash_2 : decode cX6_wash 2 = .ok (.invokevirtual 332, 3) := by decide +kernel
theorem dX6_wash_5 : decode cX6_wash 5 = .ok (.ifCond .eq 17, 3) := by decide +kernel
theorem dX6_wash_8 : decode cX6_wash 8 = .ok (.aload_n 0, 1) := by decide +kernel
theorem dX6_wash_9 : decode cX6_wash 9 = .ok (.aload_n 0, 1) := by decide +kernel
theorem dX6_wash_10 : decode cX6_wash 10 = .ok (.iload_n 1, 1) := by decide +kernel
theorem dX6_wash_11 : decode cX6_wash 11 = .ok (.iconst 0, 1) := by decide +kernel
theorem dX6_wash_12 : decode cX6_wash 12 = .ok (.invokevirtual 84, 3) := by decide +kernel
theorem dX6_wash_15 : decode cX6_wash 15 = .ok (.iconst 2, 1) := by decide +kernel
theorem dX6_wash_16 : decode cX6_wash 16 = .ok (.invokevirtual 313, 3) := by decide +kernel
theorem dX6_wash_19 : decode cX6_wash 19 = .ok (.ifCond .eq 5, 3) := by decide +kernel
theorem dX6_wash_22 : decode cX6_wash 22 = .ok (.iconst 0, 1) := by decide +kernel
theorem dX6_wash_23 : decode cX6_wash 23 = .ok (.ireturn, 1) := by decide +kernel
theorem dX6_wash_24 : decode cX6_wash 24 = .ok (.aload_n 0, 1) := by decide +kernel
theorem dX6_wash_25 : decode cX6_wash 25 = .ok (.invokevirtual 354, 3) := by decide +kernel
theorem dX6_wash_28 : decode cX6_wash 28 = .ok (.aload_n 0, 1) := by decide +kernel
theorem dX6_wash_29 : decode cX6_wash 29 = .ok (.iload_n 1, 1) := by decide +kernel
theorem dX6_wash_30 : decode cX6_wash 30 = .ok (.invokevirtual 264, 3) := by decide +kernel
theorem dX6_wash_33 : decode cX6_wash 33 = .ok (.ireturn, 1) := by decide +kernel
theorem dX6_shift_0 : decode cX6_shift 0 = .ok (.aload_n 0, 1) := by decide +kernel
theorem dX6_shift_1 : decode cX6_shift 1 = .ok (.iload_n 1, 1) := by decide +kernel
theorem dX6_shift_2 : decode cX6_shift 2 = .ok (.invokevirtual 332, 3) := by decide +kernel
theorem dX6_shift_5 : decode cX6_shift 5 = .ok (.ifCond .eq 26, 3) := by decide +kernel
theorem dX6_shift_8 : decode cX6_shift 8 = .ok (.aload_n 0, 1) := by decide +kernel
theorem dX6_shift_9 : decode cX6_shift 9 = .ok (.iload_n 2, 1) := by decide +kernel
theorem dX6_shift_10 : decode cX6_shift 10 = .ok (.iconst 2, 1) := by decide +kernel
theorem dX6_shift_11 : decode cX6_shift 11 = .ok (.invokevirtual 326, 3) := by decide +kernel
theorem dX6_shift_14 : decode cX6_shift 14 = .ok (.ifCond .eq 17, 3) := by decide +kernel
theorem dX6_shift_17 : decode cX6_shift 17 = .ok (.aload_n 0, 1) := by decide +kernel
theorem dX6_shift_18 : decode cX6_shift 18 = .ok (.aload_n 0, 1) := by decide +kernel
theorem dX6_shift_19 : decode cX6_shift 19 = .ok (.iload_n 1, 1) := by decide +kernel
theorem dX6_shift_20 : decode cX6_shift 20 = .ok (.iload_n 2, 1) := by decide +kernel
theorem dX6_shift_21 : decode cX6_shift 21 = .ok (.invokevirtual 249, 3) := by decide +kernel
theorem dX6_shift_24 : decode cX6_shift 24 = .ok (.iconst 3, 1) := by decide +kernel
theorem dX6_shift_25 : decode cX6_shift 25 = .ok (.invokevirtual 313, 3) := by decide +kernel
theorem dX6_shift_28 : decode cX6_shift 28 = .ok (.ifCond .eq 5, 3) := by decide +kernel
theorem dX6_shift_31 : decode cX6_shift 31 = .ok (.iconst 0, 1) := by decide +kernel
theorem dX6_shift_32 : decode cX6_shift 32 = .ok (.ireturn, 1) := by decide +kernel
theorem dX6_shift_33 : decode cX6_shift 33 = .ok (.aload_n 0, 1) := by decide +kernel
theorem dX6_shift_34 : decode cX6_shift 34 = .ok (.invokevirtual 354, 3) := by decide +kernel
theorem dX6_shift_37 : decode cX6_shift 37 = .ok (.aload_n 0, 1) := by decide +kernel
theorem dX6_shift_38 : decode cX6_shift 38 = .ok (.iload_n 1, 1) := by decide +kernel
theorem dX6_shift_39 : decode cX6_shift 39 = .ok (.iload_n 2, 1) := by decide +kernel
theorem dX6_shift_40 : decode cX6_shift 40 = .ok (.invokevirtual 267, 3) := by decide +kernel
theorem dX6_shift_43 : decode cX6_shift 43 = .ok (.ireturn, 1) := by decide +kernel
theorem dX6_addShower_0 : decode cX6_addShower 0 = .ok (.aload_n 0, 1) := by decide +kernel
theorem dX6_addShower_1 : decode cX6_addShower 1 = .ok (.iconst 0, 1) := by decide +kernel
theorem dX6_addShower_2 : decode cX6_addShower 2 = .ok (.putfield 60, 3) := by decide +kernel
theorem dX6_addShower_5 : decode cX6_addShower 5 = .ok (.iload_n 1, 1) := by decide +kernel
theorem dX6_addShower_6 : decode cX6_addShower 6 = .ok (.iconst 0, 1) := by decide +kernel
theorem dX6_addShower_7 : decode cX6_addShower 7 = .ok (.sipush 9999, 3) := by decide +kernel
theorem dX6_addShower_10 : decode cX6_addShower 10 = .ok (.invokestatic 63, 3) := by decide +kernel
theorem dX6_addShower_13 : decode cX6_addShower 13 = .ok (.ifCond .eq 28, 3) := by decide +kernel
theorem dX6_addShower_16 : decode cX6_addShower 16 = .ok (.iload_n 2, 1) := by decide +kernel
theorem dX6_addShower_17 : decode cX6_addShower 17 = .ok (.iconst 1, 1) := by decide +kernel
theorem dX6_addShower_18 : decode cX6_addShower 18 = .ok (.sipush 200, 3) := by decide +kernel
theorem dX6_addShower_21 : decode cX6_addShower 21 = .ok (.invokestatic 63, 3) := by decide +kernel
theorem dX6_addShower_24 : decode cX6_addShower 24 = .ok (.ifCond .eq 17, 3) := by decide +kernel
theorem dX6_addShower_27 : decode cX6_addShower 27 = .ok (.iload_n 3, 1) := by decide +kernel
theorem dX6_addShower_28 : decode cX6_addShower 28 = .ok (.iconst 1, 1) := by decide +kernel
theorem dX6_addShower_29 : decode cX6_addShower 29 = .ok (.bipush 20, 2) := by decide +kernel
theorem dX6_addShower_31 : decode cX6_addShower 31 = .ok (.invokestatic 63, 3) := by decide +kernel
theorem dX6_addShower_34 : decode cX6_addShower 34 = .ok (.ifCond .eq 7, 3) := by decide +kernel
theorem dX6_addShower_37 : decode cX6_addShower 37 = .ok (.iconst 1, 1) := by decide +kernel
theorem dX6_addShower_38 : decode cX6_addShower 38 = .ok (.goto 4, 3) := by decide +kernel
theorem dX6_addShower_41 : decode cX6_addShower 41 = .ok (.iconst 0, 1) := by decide +kernel
theorem dX6_addShower_42 : decode cX6_addShower 42 = .ok (.istore 4, 2) := by decide +kernel
theorem dX6_addShower_44 : decode cX6_addShower 44 = .ok (.aload_n 0, 1) := by decide +kernel
theorem dX6_addShower_45 : decode cX6_addShower 45 = .ok (.iload 4, 2) := by decide +kernel
theorem dX6_addShower_47 : decode cX6_addShower 47 = .ok (.iconst 1, 1) := by decide +kernel
theorem dX6_addShower_48 : decode cX6_addShower 48 = .ok (.invokevirtual 313, 3) := by decide +kernel
theorem dX6_addShower_51 : decode cX6_addShower 51 = .ok (.ifCond .ne 26, 3) := by decide +kernel
theorem dX6_addShower_54 : decode cX6_addShower 54 = .ok (.aload_n 0, 1) := by decide +kernel
theorem dX6_addShower_55 : decode cX6_addShower 55 = .ok (.aload_n 0, 1) := by decide +kernel
theorem dX6_addShower_56 : decode cX6_addShower 56 = .ok (.getfield 17, 3) := by decide +kernel
theorem dX6_addShower_59 : decode cX6_addShower 59 = .ok (.iconst 5, 1) := by decide +kernel
theorem dX6_addShower_60 : decode cX6_addShower 60 = .ok (.iaload, 1) := by decide +kernel
theorem dX6_addShower_61 : decode cX6_addShower 61 = .ok (.iconst 4, 1) := by decide +kernel
theorem dX6_addShower_62 : decode cX6_addShower 62 = .ok (.if_icmp .ge 7, 3) := by decide +kernel
theorem dX6_addShower_65 : decode cX6_addShower 65 = .ok (.iconst 1, 1) := by decide +kernel
theorem dX6_addShower_66 : decode cX6_addShower 66 = .ok (.goto 4, 3) := by decide +kernel
theorem dX6_addShower_69 : decode cX6_addShower 69 = .ok (.iconst 0, 1) := by decide +kernel
theorem dX6_addShower_70 : decode cX6_addShower 70 = .ok (.iconst 2, 1) := by decide +kernel
theorem dX6_addShower_71 : decode cX6_addShower 71 = .ok (.invokevirtual 313, 3) := by decide +kernel
theorem dX6_addShower_74 : decode cX6_addShower 74 = .ok (.ifCond .eq 5, 3) := by decide +kernel
theorem dX6_addShower_77 : decode cX6_addShower 77 = .ok (.iconst 0, 1) := by decide +kernel
theorem dX6_addShower_78 : decode cX6_addShower 78 = .ok (.ireturn, 1) := by decide +kernel
theorem dX6_addShower_79 : decode cX6_addShower 79 = .ok (.aload_n 0, 1) := by decide +kernel
theorem dX6_addShower_80 : decode cX6_addShower 80 = .ok (.invokevirtual 354, 3) := by decide +kernel
theorem dX6_addShower_83 : decode cX6_addShower 83 = .ok (.aload_n 0, 1) := by decide +kernel
theorem dX6_addShower_84 : decode cX6_addShower 84 = .ok (.iload_n 1, 1) := by decide +kernel
theorem dX6_addShower_85 : decode cX6_addShower 85 = .ok (.iload_n 2, 1) := by decide +kernel
theorem dX6_addShower_86 : decode cX6_addShower 86 = .ok (.iload_n 3, 1) := by decide +kernel
theorem dX6_addShower_87 : decode cX6_addShower 87 = .ok (.invokevirtual 270, 3) := by decide +kernel
theorem dX6_addShower_90 : decode cX6_addShower 90 = .ok (.ireturn, 1) := by decide +kernel
theorem dX6_addSmoke_0 : decode cX6_addSmoke 0 = .ok (.aload_n 0, 1) := by decide +kernel
theorem dX6_addSmoke_1 : decode cX6_addSmoke 1 = .ok (.iconst 0, 1) := by decide +kernel
theorem dX6_addSmoke_2 : decode cX6_addSmoke 2 = .ok (.putfield 60, 3) := by decide +kernel
theorem dX6_addSmoke_5 : decode cX6_addSmoke 5 = .ok (.aload_n 0, 1) := by decide +kernel
theorem dX6_addSmoke_6 : decode cX6_addSmoke 6 = .ok (.iload_n 1, 1) := by decide +kernel
theorem dX6_addSmoke_7 : decode cX6_addSmoke 7 = .ok (.iconst 0, 1) := by decide +kernel
theorem dX6_addSmoke_8 : decode cX6_addSmoke 8 = .ok (.sipush 9999, 3) := by decide +kernel
theorem dX6_addSmoke_11 : decode cX6_addSmoke 11 = .ok (.invokestatic 63, 3) := by decide +kernel
theorem dX6_addSmoke_14 : decode cX6_addSmoke 14 = .ok (.ifCond .eq 18, 3) := by decide +kernel
theorem dX6_addSmoke_17 : decode cX6_addSmoke 17 = .ok (.iload_n 2, 1) := by decide +kernel
theorem dX6_addSmoke_18 : decode cX6_addSmoke 18 = .ok (.iload_n 1, 1) := by decide +kernel
theorem dX6_addSmoke_19 : decode cX6_addSmoke 19 = .ok (.sipush 9999, 3) := by decide +kernel
theorem dX6_addSmoke_22 : decode cX6_addSmoke 22 = .ok (.invokestatic 63, 3) := by decide +kernel
theorem dX6_addSmoke_25 : decode cX6_addSmoke 25 = .ok (.ifCond .eq 7, 3) := by decide +kernel
theorem dX6_addSmoke_28 : decode cX6_addSmoke 28 = .ok (.iconst 1, 1) := by decide +kernel
theorem dX6_addSmoke_29 : decode cX6_addSmoke 29 = .ok (.goto 4, 3) := by decide +kernel
theorem dX6_addSmoke_32 : decode cX6_addSmoke 32 = .ok (.iconst 0, 1) := by decide +kernel
theorem dX6_addSmoke_33 : decode cX6_addSmoke 33 = .ok (.iconst 1, 1) := by decide +kernel
theorem dX6_addSmoke_34 : decode cX6_addSmoke 34 = .ok (.invokevirtual 313, 3) := by decide +kernel
theorem dX6_addSmoke_37 : decode cX6_addSmoke 37 = .ok (.ifCond .ne 27, 3) := by decide +kernel
theorem dX6_addSmoke_40 : decode cX6_addSmoke 40 = .ok (.aload_n 0, 1) := by decide +kernel
theorem dX6_addSmoke_41 : decode cX6_addSmoke 41 = .ok (.aload_n 0, 1) := by decide +kernel
theorem dX6_addSmoke_42 : decode cX6_addSmoke 42 = .ok (.getfield 17, 3) := by decide +kernel
theorem dX6_addSmoke_45 : decode cX6_addSmoke 45 = .ok (.bipush 6, 2) := by decide +kernel
theorem dX6_addSmoke_47 : decode cX6_addSmoke 47 = .ok (.iaload, 1) := by decide +kernel
theorem dX6_addSmoke_48 : decode cX6_addSmoke 48 = .ok (.iconst 4, 1) := by decide +kernel
theorem dX6_addSmoke_49 : decode cX6_addSmoke 49 = .ok (.if_icmp .ge 7, 3) := by decide +kernel
theorem dX6_addSmoke_52 : decode cX6_addSmoke 52 = .ok (.iconst 1, 1) := by decide +kernel
theorem dX6_addSmoke_53 : decode cX6_addSmoke 53 = .ok (.goto 4, 3) := by decide +kernel
theorem dX6_addSmoke_56 : decode cX6_addSmoke 56 = .ok (.iconst 0, 1) := by decide +kernel
theorem dX6_addSmoke_57 : decode cX6_addSmoke 57 = .ok (.iconst 2, 1) := by decide +kernel
theorem dX6_addSmoke_58 : decode cX6_addSmoke 58 = .ok (.invokevirtual 313, 3) := by decide +kernel
theorem dX6_addSmoke_61 : decode cX6_addSmoke 61 = .ok (.ifCond .eq 5, 3) := by decide +kernel
theorem dX6_addSmoke_64 : decode cX6_addSmoke 64 = .ok (.iconst 0, 1) := by decide +kernel
theorem dX6_addSmoke_65 : decode cX6_addSmoke 65 = .ok (.ireturn, 1) := by decide +kernel
theorem dX6_addSmoke_66 : decode cX6_addSmoke 66 = .ok (.aload_n 0, 1) := by decide +kernel
theorem dX6_addSmoke_67 : decode cX6_addSmoke 67 = .ok (.invokevirtual 354, 3) := by decide +kernel
theorem dX6_addSmoke_70 : decode cX6_addSmoke 70 = .ok (.aload_n 0, 1) := by decide +kernel
theorem dX6_addSmoke_71 : decode cX6_addSmoke 71 = .ok (.iload_n 1, 1) := by decide +kernel
theorem dX6_addSmoke_72 : decode cX6_addSmoke 72 = .ok (.iload_n 2, 1) := by decide +kernel
theorem dX6_addSmoke_73 : decode cX6_addSmoke 73 = .ok (.invokevirtual 274, 3) := by decide +kernel
theorem dX6_addSmoke_76 : decode cX6_addSmoke 76 = .ok (.ireturn, 1) := by decide +kernel
theorem dX6_setWind_0 : decode cX6_setWind 0 = .ok (.aload_n 0, 1) := by decide +kernel
theorem dX6_setWind_1 : decode cX6_setWind 1 = .ok (.iconst 0, 1) := by decide +kernel
theorem dX6_setWind_2 : decode cX6_setWind 2 = .ok (.putfield 60, 3) := by decide +kernel
theorem dX6_setWind_5 : decode cX6_setWind 5 = .ok (.aload_n 0, 1) := by decide +kernel
theorem dX6_setWind_6 : decode cX6_setWind 6 = .ok (.iload_n 1, 1) := by decide +kernel
theorem dX6_setWind_7 : decode cX6_setWind 7 = .ok (.iconst 0, 1) := by decide +kernel
theorem dX6_setWind_8 : decode cX6_setWind 8 = .ok (.aload_n 0, 1) := by decide +kernel
theorem dX6_setWind_9 : decode cX6_setWind 9 = .ok (.getfield 17, 3) := by decide +kernel
theorem dX6_setWind_12 : decode cX6_setWind 12 = .ok (.iconst 4, 1) := by decide +kernel
theorem dX6_setWind_13 : decode cX6_setWind 13 = .ok (.iaload, 1) := by decide +kernel
theorem dX6_setWind_14 : decode cX6_setWind 14 = .ok (.iconst 1, 1) := by decide +kernel
theorem dX6_setWind_15 : decode cX6_setWind 15 = .ok (.isub, 1) := by decide +kernel
theorem dX6_setWind_16 : decode cX6_setWind 16 = .ok (.invokestatic 63, 3) := by decide +kernel
theorem dX6_setWind_19 : decode cX6_setWind 19 = .ok (.iconst 1, 1) := by decide +kernel
theorem dX6_setWind_20 : decode cX6_setWind 20 = .ok (.invokevirtual 313, 3) := by decide +kernel
theorem dX6_setWind_23 : decode cX6_setWind 23 = .ok (.ifCond .ne 17, 3) := by decide +kernel
theorem dX6_setWind_26 : decode cX6_setWind 26 = .ok (.aload_n 0, 1) := by decide +kernel
theorem dX6_setWind_27 : decode cX6_setWind 27 = .ok (.iload_n 2, 1) := by decide +kernel
theorem dX6_setWind_28 : decode cX6_setWind 28 = .ok (.iconst 0, 1) := by decide +kernel
theorem dX6_setWind_29 : decode cX6_setWind 29 = .ok (.iconst 5, 1) := by decide +kernel
theorem dX6_setWind_30 : decode cX6_setWind 30 = .ok (.invokestatic 63, 3) := by decide +kernel
theorem dX6_setWind_33 : decode cX6_setWind 33 = .ok (.iconst 2, 1) := by decide +kernel
theorem dX6_setWind_34 : decode cX6_setWind 34 = .ok (.invokevirtual 313, 3) := by decide +kernel
theorem dX6_setWind_37 : decode cX6_setWind 37 = .ok (.ifCond .eq 5, 3) := by decide +kernel
theorem dX6_setWind_40 : decode cX6_setWind 40 = .ok (.iconst 0, 1) := by decide +kernel
theorem dX6_setWind_41 : decode cX6_setWind 41 = .ok (.ireturn, 1) := by decide +kernel
theorem dX6_setWind_42 : decode cX6_setWind 42 = .ok (.aload_n 0, 1) := by decide +kernel
theorem dX6_setWind_43 : decode cX6_setWind 43 = .ok (.invokevirtual 354, 3) := by decide +kernel
theorem dX6_setWind_46 : decode cX6_setWind 46 = .ok (.aload_n 0, 1) := by decide +kernel
theorem dX6_setWind_47 : decode cX6_setWind 47 = .ok (.iload_n 1, 1) := by decide +kernel
theorem dX6_setWind_48 : decode cX6_setWind 48 = .ok (.iload_n 2, 1) := by decide +kernel
theorem dX6_setWind_49 : decode cX6_setWind 49 = .ok (.invokevirtual 277, 3) := by decide +kernel
theorem dX6_setWind_52 : decode cX6_setWind 52 = .ok (.ireturn, 1) := by decide +kernel
theorem dX6_passMinutes_0 : decode cX6_passMinutes 0 = .ok (.aload_n 0, 1) := by decide +kernel
theorem dX6_passMinutes_1 : decode cX6_passMinutes 1 = .ok (.iconst 0, 1) := by decide +kernel
theorem dX6_passMinutes_2 : decode cX6_passMinutes 2 = .ok (.putfield 60, 3) := by decide +kernel
theorem dX6_passMinutes_5 : decode cX6_passMinutes 5 = .ok (.aload_n 0, 1) := by decide +kernel
theorem dX6_passMinutes_6 : decode cX6_passMinutes 6 = .ok (.iload_n 1, 1) := by decide +kernel
theorem dX6_passMinutes_7 : decode cX6_passMinutes 7 = .ok (.iconst 1, 1) := by decide +kernel
theorem dX6_passMinutes_8 : decode cX6_passMinutes 8 = .ok (.sipush 200, 3) := by decide +kernel
theorem dX6_passMinutes_11 : decode cX6_passMinutes 11 = .ok (.invokestatic 63, 3) := by decide +kernel
theorem dX6_passMinutes_14 : decode cX6_passMinutes 14 = .ok (.iconst 1, 1) := by decide +kernel
theorem dX6_passMinutes_15 : decode cX6_passMinutes 15 = .ok (.invokevirtual 313, 3) := by decide +kernel
theorem dX6_passMinutes_18 : decode cX6_passMinutes 18 = .ok (.ifCond .eq 5, 3) := by decide +kernel
theorem dX6_passMinutes_21 : decode cX6_passMinutes 21 = .ok (.iconst 0, 1) := by decide +kernel
theorem dX6_passMinutes_22 : decode cX6_passMinutes 22 = .ok (.ireturn, 1) := by decide +kernel
theorem dX6_passMinutes_23 : decode cX6_passMinutes 23 = .ok (.aload_n 0, 1) := by decide +kernel
theorem dX6_passMinutes_24 : decode cX6_passMinutes 24 = .ok (.invokevirtual 354, 3) := by decide +kernel
theorem dX6_passMinutes_27 : decode cX6_passMinutes 27 = .ok (.aload_n 0, 1) := by decide +kernel
theorem dX6_passMinutes_28 : decode cX6_passMinutes 28 = .ok (.iload_n 1, 1) := by decide +kernel
theorem dX6_passMinutes_29 : decode cX6_passMinutes 29 = .ok (.invokevirtual 280, 3) := by decide +kernel
theorem dX6_passMinutes_32 : decode cX6_passMinutes 32 = .ok (.ireturn, 1) := by decide +kernel
theorem dX6_pushAside_0 : decode cX6_pushAside 0 = .ok (.aload_n 0, 1) := by decide +kernel
theorem dX6_pushAside_1 : decode cX6_pushAside 1 = .ok (.getfield 304, 3) := by decide +kernel
theorem dX6_pushAside_4 : decode cX6_pushAside 4 = .ok (.bipush 8, 2) := by decide +kernel
theorem dX6_pushAside_6 : decode cX6_pushAside 6 = .ok (.if_icmp .ne 44, 3) := by decide +kernel
theorem dX6_pushAside_9 : decode cX6_pushAside 9 = .ok (.iconst 0, 1) := by decide +kernel
theorem dX6_pushAside_10 : decode cX6_pushAside 10 = .ok (.istore_n 1, 1) := by decide +kernel
theorem dX6_pushAside_11 : decode cX6_pushAside 11 = .ok (.iload_n 1, 1) := by decide +kernel
theorem dX6_pushAside_12 : decode cX6_pushAside 12 = .ok (.sipush 1043, 3) := by decide +kernel
theorem dX6_pushAside_15 : decode cX6_pushAside 15 = .ok (.if_icmp .ge 25, 3) := by decide +kernel
theorem dX6_pushAside_18 : decode cX6_pushAside 18 = .ok (.aload_n 0, 1) := by decide +kernel
theorem dX6_pushAside_19 : decode cX6_pushAside 19 = .ok (.getfield 26, 3) := by decide +kernel
theorem dX6_pushAside_22 : decode cX6_pushAside 22 = .ok (.iload_n 1, 1) := by decide +kernel
theorem dX6_pushAside_23 : decode cX6_pushAside 23 = .ok (.aload_n 0, 1) := by decide +kernel
theorem dX6_pushAside_24 : decode cX6_pushAside 24 = .ok (.getfield 26, 3) := by decide +kernel
theorem dX6_pushAside_27 : decode cX6_pushAside 27 = .ok (.iload_n 1, 1) := by decide +kernel
theorem dX6_pushAside_28 : decode cX6_pushAside 28 = .ok (.sipush 149, 3) := by decide +kernel
theorem dX6_pushAside_31 : decode cX6_pushAside 31 = .ok (.iadd, 1) := by decide +kernel
theorem dX6_pushAside_32 : decode cX6_pushAside 32 = .ok (.iaload, 1) := by decide +kernel
theorem dX6_pushAside_33 : decode cX6_pushAside 33 = .ok (.iastore, 1) := by decide +kernel
theorem dX6_pushAside_34 : decode cX6_pushAside 34 = .ok (.iinc 1 1, 3) := by decide +kernel
theorem dX6_pushAside_37 : decode cX6_pushAside 37 = .ok (.goto (-26), 3) := by decide +kernel
theorem dX6_pushAside_40 : decode cX6_pushAside 40 = .ok (.aload_n 0, 1) := by decide +kernel
theorem dX6_pushAside_41 : decode cX6_pushAside 41 = .ok (.dup, 1) := by decide +kernel
theorem dX6_pushAside_42 : decode cX6_pushAside 42 = .ok (.getfield 304, 3) := by decide +kernel
theorem dX6_pushAside_45 : decode cX6_pushAside 45 = .ok (.iconst 1, 1) := by decide +kernel
theorem dX6_pushAside_46 : decode cX6_pushAside 46 = .ok (.isub, 1) := by decide +kernel
theorem dX6_pushAside_47 : decode cX6_pushAside 47 = .ok (.putfield 304, 3) := by decide +kernel
theorem dX6_pushAside_50 : decode cX6_pushAside 50 = .ok (.iconst 0, 1) := by decide +kernel
theorem dX6_pushAside_51 : decode cX6_pushAside 51 = .ok (.istore_n 1, 1) := by decide +kernel
theorem dX6_pushAside_52 : decode cX6_pushAside 52 = .ok (.iload_n 1, 1) := by decide +kernel
theorem dX6_pushAside_53 : decode cX6_pushAside 53 = .ok (.sipush 149, 3) := by decide +kernel
theorem dX6_pushAside_56 : decode cX6_pushAside 56 = .ok (.if_icmp .ge 30, 3) := by decide +kernel
theorem dX6_pushAside_59 : decode cX6_pushAside 59 = .ok (.aload_n 0, 1) := by decide +kernel
theorem dX6_pushAside_60 : decode cX6_pushAside 60 = .ok (.getfield 26, 3) := by decide +kernel
theorem dX6_pushAside_63 : decode cX6_pushAside 63 = .ok (.sipush 149, 3) := by decide +kernel
theorem dX6_pushAside_66 : decode cX6_pushAside 66 = .ok (.aload_n 0, 1) := by decide +kernel
theorem dX6_pushAside_67 : decode cX6_pushAside 67 = .ok (.getfield 304, 3) := by decide +kernel
theorem dX6_pushAside_70 : decode cX6_pushAside 70 = .ok (.imul, 1) := by decide +kernel
theorem dX6_pushAside_71 : decode cX6_pushAside 71 = .ok (.iload_n 1, 1) := by decide +kernel
theorem dX6_pushAside_72 : decode cX6_pushAside 72 = .ok (.iadd, 1) := by decide +kernel
theorem dX6_pushAside_73 : decode cX6_pushAside 73 = .ok (.aload_n 0, 1) := by decide +kernel
theorem dX6_pushAside_74 : decode cX6_pushAside 74 = .ok (.getfield 20, 3) := by decide +kernel
theorem dX6_pushAside_77 : decode cX6_pushAside 77 = .ok (.iload_n 1, 1) := by decide +kernel
theorem dX6_pushAside_78 : decode cX6_pushAside 78 = .ok (.iaload, 1) := by decide +kernel
theorem dX6_pushAside_79 : decode cX6_pushAside 79 = .ok (.iastore, 1) := by decide +kernel
theorem dX6_pushAside_80 : decode cX6_pushAside 80 = .ok (.iinc 1 1, 3) := by decide +kernel
theorem dX6_pushAside_83 : decode cX6_pushAside 83 = .ok (.goto (-31), 3) := by decide +kernel
theorem dX6_pushAside_86 : decode cX6_pushAside 86 = .ok (.aload_n 0, 1) := by decide +kernel
theorem dX6_pushAside_87 : decode cX6_pushAside 87 = .ok (.dup, 1) := by decide +kernel
theorem dX6_pushAside_88 : decode cX6_pushAside 88 = .ok (.getfield 304, 3) := by decide +kernel
theorem dX6_pushAside_91 : decode cX6_pushAside 91 = .ok (.iconst 1, 1) := by decide +kernel
theorem dX6_pushAside_92 : decode cX6_pushAside 92 = .ok (.iadd, 1) := by decide +kernel
theorem dX6_pushAside_93 : decode cX6_pushAside 93 = .ok (.putfield 304, 3) := by decide +kernel
theorem dX6_pushAside_96 : decode cX6_pushAside 96 = .ok (.return_, 1) := by decide +kernel
theorem dX6_record_0 : decode cX6_record 0 = .ok (.iconst 0, 1) := by decide +kernel
theorem dX6_record_1 : decode cX6_record 1 = .ok (.istore_n 1, 1) := by decide +kernel
theorem dX6_record_2 : decode cX6_record 2 = .ok (.iload_n 1, 1) := by decide +kernel
theorem dX6_record_3 : decode cX6_record 3 = .ok (.sipush 149, 3) := by decide +kernel
theorem dX6_record_6 : decode cX6_record 6 = .ok (.if_icmp .ge 21, 3) := by decide +kernel
theorem dX6_record_9 : decode cX6_record 9 = .ok (.aload_n 0, 1) := by decide +kernel
theorem dX6_record_10 : decode cX6_record 10 = .ok (.getfield 20, 3) := by decide +kernel
theorem dX6_record_13 : decode cX6_record 13 = .ok (.iload_n 1, 1) := by decide +kernel
theorem dX6_record_14 : decode cX6_record 14 = .ok (.aload_n 0, 1) := by decide +kernel
theorem dX6_record_15 : decode cX6_record 15 = .ok (.getfield 17, 3) := by decide +kernel
theorem dX6_record_18 : decode cX6_record 18 = .ok (.iload_n 1, 1) := by decide +kernel
theorem dX6_record_19 : decode cX6_record 19 = .ok (.iaload, 1) := by decide +kernel
theorem dX6_record_20 : decode cX6_record 20 = .ok (.iastore, 1) := by decide +kernel
theorem dX6_record_21 : decode cX6_record 21 = .ok (.iinc 1 1, 3) := by decide +kernel
theorem dX6_record_24 : decode cX6_record 24 = .ok (.goto (-22), 3) := by decide +kernel
theorem dX6_record_27 : decode cX6_record 27 = .ok (.aload_n 0, 1) := by decide +kernel
theorem dX6_record_28 : decode cX6_record 28 = .ok (.invokevirtual 307, 3) := by decide +kernel
theorem dX6_record_31 : decode cX6_record 31 = .ok (.return_, 1) := by decide +kernel
theorem dX6_undo_0 : decode cX6_undo 0 = .ok (.aload_n 0, 1) := by decide +kernel
theorem dX6_undo_1 : decode cX6_undo 1 = .ok (.iconst 0, 1) := by decide +kernel
theorem dX6_undo_2 : decode cX6_undo 2 = .ok (.putfield 60, 3) := by decide +kernel
theorem dX6_undo_5 : decode cX6_undo 5 = .ok (.aload_n 0, 1) := by decide +kernel
theorem dX6_undo_6 : decode cX6_undo 6 = .ok (.aload_n 0, 1) := by decide +kernel
theorem dX6_undo_7 : decode cX6_undo 7 = .ok (.getfield 304, 3) := by decide +kernel
theorem dX6_undo_10 : decode cX6_undo 10 = .ok (.ifCond .le 7, 3) := by decide +kernel
theorem dX6_undo_13 : decode cX6_undo 13 = .ok (.iconst 1, 1) := by decide +kernel
theorem dX6_undo_14 : decode cX6_undo 14 = .ok (.goto 4, 3) := by decide +kernel
theorem dX6_undo_17 : decode cX6_undo 17 = .ok (.iconst 0, 1) := by decide +kernel
theorem dX6_undo_18 : decode cX6_undo 18 = .ok (.iconst 1, 1) := by decide +kernel
theorem dX6_undo_19 : decode cX6_undo 19 = .ok (.invokevirtual 313, 3) := by decide +kernel
theorem dX6_undo_22 : decode cX6_undo 22 = .ok (.ifCond .eq 5, 3) := by decide +kernel
theorem dX6_undo_25 : decode cX6_undo 25 = .ok (.iconst 0, 1) := by decide +kernel
theorem dX6_undo_26 : decode cX6_undo 26 = .ok (.ireturn, 1) := by decide +kernel
theorem dX6_undo_27 : decode cX6_undo 27 = .ok (.aload_n 0, 1) := by decide +kernel
theorem dX6_undo_28 : decode cX6_undo 28 = .ok (.dup, 1) := by decide +kernel
theorem dX6_undo_29 : decode cX6_undo 29 = .ok (.getfield 304, 3) := by decide +kernel
theorem dX6_undo_32 : decode cX6_undo 32 = .ok (.iconst 1, 1) := by decide +kernel
theorem dX6_undo_33 : decode cX6_undo 33 = .ok (.isub, 1) := by decide +kernel
theorem dX6_undo_34 : decode cX6_undo 34 = .ok (.putfield 304, 3) := by decide +kernel
theorem dX6_undo_37 : decode cX6_undo 37 = .ok (.iconst 0, 1) := by decide +kernel
theorem dX6_undo_38 : decode cX6_undo 38 = .ok (.istore_n 1, 1) := by decide +kernel
theorem dX6_undo_39 : decode cX6_undo 39 = .ok (.iload_n 1, 1) := by decide +kernel
theorem dX6_undo_40 : decode cX6_undo 40 = .ok (.sipush 149, 3) := by decide +kernel
theorem dX6_undo_43 : decode cX6_undo 43 = .ok (.if_icmp .ge 30, 3) := by decide +kernel
theorem dX6_undo_46 : decode cX6_undo 46 = .ok (.aload_n 0, 1) := by decide +kernel
theorem dX6_undo_47 : decode cX6_undo 47 = .ok (.getfield 17, 3) := by decide +kernel
theorem dX6_undo_50 : decode cX6_undo 50 = .ok (.iload_n 1, 1) := by decide +kernel
theorem dX6_undo_51 : decode cX6_undo 51 = .ok (.aload_n 0, 1) := by decide +kernel
theorem dX6_undo_52 : decode cX6_undo 52 = .ok (.getfield 26, 3) := by decide +kernel
theorem dX6_undo_55 : decode cX6_undo 55 = .ok (.sipush 149, 3) := by decide +kernel
theorem dX6_undo_58 : decode cX6_undo 58 = .ok (.aload_n 0, 1) := by decide +kernel
theorem dX6_undo_59 : decode cX6_undo 59 = .ok (.getfield 304, 3) := by decide +kernel
theorem dX6_undo_62 : decode cX6_undo 62 = .ok (.imul, 1) := by decide +kernel
theorem dX6_undo_63 : decode cX6_undo 63 = .ok (.iload_n 1, 1) := by decide +kernel
theorem dX6_undo_64 : decode cX6_undo 64 = .ok (.iadd, 1) := by decide +kernel
theorem dX6_undo_65 : decode cX6_undo 65 = .ok (.iaload, 1) := by decide +kernel
theorem dX6_undo_66 : decode cX6_undo 66 = .ok (.iastore, 1) := by decide +kernel
theorem dX6_undo_67 : decode cX6_undo 67 = .ok (.iinc 1 1, 3) := by decide +kernel
theorem dX6_undo_70 : decode cX6_undo 70 = .ok (.goto (-31), 3) := by decide +kernel
theorem dX6_undo_73 : decode cX6_undo 73 = .ok (.aload_n 0, 1) := by decide +kernel
theorem dX6_undo_74 : decode cX6_undo 74 = .ok (.getfield 304, 3) := by decide +kernel
theorem dX6_undo_77 : decode cX6_undo 77 = .ok (.ireturn, 1) := by decide +kernel
theorem dX6_save_0 : decode cX6_save 0 = .ok (.aload_n 0, 1) := by decide +kernel
theorem dX6_save_1 : decode cX6_save 1 = .ok (.iconst 0, 1) := by decide +kernel
theorem dX6_save_2 : decode cX6_save 2 = .ok (.putfield 60, 3) := by decide +kernel
theorem dX6_save_5 : decode cX6_save 5 = .ok (.aload_n 0, 1) := by decide +kernel
theorem dX6_save_6 : decode cX6_save 6 = .ok (.iload_n 1, 1) := by decide +kernel
theorem dX6_save_7 : decode cX6_save 7 = .ok (.iconst 0, 1) := by decide +kernel
theorem dX6_save_8 : decode cX6_save 8 = .ok (.iconst 1, 1) := by decide +kernel
theorem dX6_save_9 : decode cX6_save 9 = .ok (.invokestatic 63, 3) := by decide +kernel
theorem dX6_save_12 : decode cX6_save 12 = .ok (.iconst 1, 1) := by decide +kernel
theorem dX6_save_13 : decode cX6_save 13 = .ok (.invokevirtual 313, 3) := by decide +kernel
theorem dX6_save_16 : decode cX6_save 16 = .ok (.ifCond .eq 5, 3) := by decide +kernel
theorem dX6_save_19 : decode cX6_save 19 = .ok (.iconst 0, 1) := by decide +kernel
theorem dX6_save_20 : decode cX6_save 20 = .ok (.ireturn, 1) := by decide +kernel
theorem dX6_save_21 : decode cX6_save 21 = .ok (.iconst 0, 1) := by decide +kernel
theorem dX6_save_22 : decode cX6_save 22 = .ok (.istore_n 2, 1) := by decide +kernel
theorem dX6_save_23 : decode cX6_save 23 = .ok (.iload_n 2, 1) := by decide +kernel
theorem dX6_save_24 : decode cX6_save 24 = .ok (.sipush 149, 3) := by decide +kernel
theorem dX6_save_27 : decode cX6_save 27 = .ok (.if_icmp .ge 27, 3) := by decide +kernel
theorem dX6_save_30 : decode cX6_save 30 = .ok (.aload_n 0, 1) := by decide +kernel
theorem dX6_save_31 : decode cX6_save 31 = .ok (.getfield 29, 3) := by decide +kernel
theorem dX6_save_34 : decode cX6_save 34 = .ok (.sipush 149, 3) := by decide +kernel
theorem dX6_save_37 : decode cX6_save 37 = .ok (.iload_n 1, 1) := by decide +kernel
theorem dX6_save_38 : decode cX6_save 38 = .ok (.imul, 1) := by decide +kernel
theorem dX6_save_39 : decode cX6_save 39 = .ok (.iload_n 2, 1) := by decide +kernel
theorem dX6_save_40 : decode cX6_save 40 = .ok (.iadd, 1) := by decide +kernel
theorem dX6_save_41 : decode cX6_save 41 = .ok (.aload_n 0, 1) := by decide +kernel
theorem dX6_save_42 : decode cX6_save 42 = .ok (.getfield 17, 3) := by decide +kernel
theorem dX6_save_45 : decode cX6_save 45 = .ok (.iload_n 2, 1) := by decide +kernel
theorem dX6_save_46 : decode cX6_save 46 = .ok (.iaload, 1) := by decide +kernel
theorem dX6_save_47 : decode cX6_save 47 = .ok (.iastore, 1) := by decide +kernel
theorem dX6_save_48 : decode cX6_save 48 = .ok (.iinc 2 1, 3) := by decide +kernel
theorem dX6_save_51 : decode cX6_save 51 = .ok (.goto (-28), 3) := by decide +kernel
theorem dX6_save_54 : decode cX6_save 54 = .ok (.aload_n 0, 1) := by decide +kernel
theorem dX6_save_55 : decode cX6_save 55 = .ok (.getfield 32, 3) := by decide +kernel
theorem dX6_save_58 : decode cX6_save 58 = .ok (.iload_n 1, 1) := by decide +kernel
theorem dX6_save_59 : decode cX6_save 59 = .ok (.iconst 1, 1) := by decide +kernel
theorem dX6_save_60 : decode cX6_save 60 = .ok (.bastore, 1) := by decide +kernel
theorem dX6_save_61 : decode cX6_save 61 = .ok (.aload_n 0, 1) := by decide +kernel
theorem dX6_save_62 : decode cX6_save 62 = .ok (.getfield 17, 3) := by decide +kernel
theorem dX6_save_65 : decode cX6_save 65 = .ok (.iconst 0, 1) := by decide +kernel
theorem dX6_save_66 : decode cX6_save 66 = .ok (.iaload, 1) := by decide +kernel
theorem dX6_save_67 : decode cX6_save 67 = .ok (.ireturn, 1) := by decide +kernel
theorem dX6_restore_0 : decode cX6_restore 0 = .ok (.aload_n 0, 1) := by decide +kernel
theorem dX6_restore_1 : decode cX6_restore 1 = .ok (.iconst 0, 1) := by decide +kernel
theorem dX6_restore_2 : decode cX6_restore 2 = .ok (.putfield 60, 3) := by decide +kernel
theorem dX6_restore_5 : decode cX6_restore 5 = .ok (.aload_n 0, 1) := by decide +kernel
theorem dX6_restore_6 : decode cX6_restore 6 = .ok (.iload_n 1, 1) := by decide +kernel
theorem dX6_restore_7 : decode cX6_restore 7 = .ok (.iconst 0, 1) := by decide +kernel
theorem dX6_restore_8 : decode cX6_restore 8 = .ok (.iconst 1, 1) := by decide +kernel
theorem dX6_restore_9 : decode cX6_restore 9 = .ok (.invokestatic 63, 3) := by decide +kernel
theorem dX6_restore_12 : decode cX6_restore 12 = .ok (.iconst 1, 1) := by decide +kernel
theorem dX6_restore_13 : decode cX6_restore 13 = .ok (.invokevirtual 313, 3) := by decide +kernel
theorem dX6_restore_16 : decode cX6_restore 16 = .ok (.ifCond .ne 17, 3) := by decide +kernel
theorem dX6_restore_19 : decode cX6_restore 19 = .ok (.aload_n 0, 1) := by decide +kernel
theorem dX6_restore_20 : decode cX6_restore 20 = .ok (.aload_n 0, 1) := by decide +kernel
theorem dX6_restore_21 : decode cX6_restore 21 = .ok (.getfield 32, 3) := by decide +kernel
theorem dX6_restore_24 : decode cX6_restore 24 = .ok (.iload_n 1, 1) := by decide +kernel
theorem dX6_restore_25 : decode cX6_restore 25 = .ok (.baload, 1) := by decide +kernel
theorem dX6_restore_26 : decode cX6_restore 26 = .ok (.iconst 2, 1) := by decide +kernel
theorem dX6_restore_27 : decode cX6_restore 27 = .ok (.invokevirtual 313, 3) := by decide +kernel
theorem dX6_restore_30 : decode cX6_restore 30 = .ok (.ifCond .eq 5, 3) := by decide +kernel
theorem dX6_restore_33 : decode cX6_restore 33 = .ok (.iconst 0, 1) := by decide +kernel
theorem dX6_restore_34 : decode cX6_restore 34 = .ok (.ireturn, 1) := by decide +kernel
theorem dX6_restore_35 : decode cX6_restore 35 = .ok (.iconst 0, 1) := by decide +kernel
theorem dX6_restore_36 : decode cX6_restore 36 = .ok (.istore_n 2, 1) := by decide +kernel
theorem dX6_restore_37 : decode cX6_restore 37 = .ok (.iload_n 2, 1) := by decide +kernel
theorem dX6_restore_38 : decode cX6_restore 38 = .ok (.sipush 149, 3) := by decide +kernel
theorem dX6_restore_41 : decode cX6_restore 41 = .ok (.if_icmp .ge 27, 3) := by decide +kernel
theorem dX6_restore_44 : decode cX6_restore 44 = .ok (.aload_n 0, 1) := by decide +kernel
theorem dX6_restore_45 : decode cX6_restore 45 = .ok (.getfield 17, 3) := by decide +kernel
theorem dX6_restore_48 : decode cX6_restore 48 = .ok (.iload_n 2, 1) := by decide +kernel
theorem dX6_restore_49 : decode cX6_restore 49 = .ok (.aload_n 0, 1) := by decide +kernel
theorem dX6_restore_50 : decode cX6_restore 50 = .ok (.getfield 29, 3) := by decide +kernel
theorem dX6_restore_53 : decode cX6_restore 53 = .ok (.sipush 149, 3) := by decide +kernel
theorem dX6_restore_56 : decode cX6_restore 56 = .ok (.iload_n 1, 1) := by decide +kernel
theorem dX6_restore_57 : decode cX6_restore 57 = .ok (.imul, 1) := by decide +kernel
theorem dX6_restore_58 : decode cX6_restore 58 = .ok (.iload_n 2, 1) := by decide +kernel
theorem dX6_restore_59 : decode cX6_restore 59 = .ok (.iadd, 1) := by decide +kernel
theorem dX6_restore_60 : decode cX6_restore 60 = .ok (.iaload, 1) := by decide +kernel
theorem dX6_restore_61 : decode cX6_restore 61 = .ok (.iastore, 1) := by decide +kernel
theorem dX6_restore_62 : decode cX6_restore 62 = .ok (.iinc 2 1, 3) := by decide +kernel
theorem dX6_restore_65 : decode cX6_restore 65 = .ok (.goto (-28), 3) := by decide +kernel
theorem dX6_restore_68 : decode cX6_restore 68 = .ok (.aload_n 0, 1) := by decide +kernel
theorem dX6_restore_69 : decode cX6_restore 69 = .ok (.iconst 0, 1) := by decide +kernel
theorem dX6_restore_70 : decode cX6_restore 70 = .ok (.putfield 304, 3) := by decide +kernel
theorem dX6_restore_73 : decode cX6_restore 73 = .ok (.aload_n 0, 1) := by decide +kernel
theorem dX6_restore_74 : decode cX6_restore 74 = .ok (.getfield 17, 3) := by decide +kernel
theorem dX6_restore_77 : decode cX6_restore 77 = .ok (.iconst 0, 1) := by decide +kernel
theorem dX6_restore_78 : decode cX6_restore 78 = .ok (.iaload, 1) := by decide +kernel
theorem dX6_restore_79 : decode cX6_restore 79 = .ok (.ireturn, 1) := by decide +kernel
theorem dX6_writeLine_0 : decode cX6_writeLine 0 = .ok (.aload_n 0, 1) := by decide +kernel
theorem dX6_writeLine_1 : decode cX6_writeLine 1 = .ok (.iconst 0, 1) := by decide +kernel
theorem dX6_writeLine_2 : decode cX6_writeLine 2 = .ok (.putfield 60, 3) := by decide +kernel
theorem dX6_writeLine_5 : decode cX6_writeLine 5 = .ok (.aload_n 0, 1) := by decide +kernel
theorem dX6_writeLine_6 : decode cX6_writeLine 6 = .ok (.aload_n 0, 1) := by decide +kernel
theorem dX6_writeLine_7 : decode cX6_writeLine 7 = .ok (.getfield 17, 3) := by decide +kernel
theorem dX6_writeLine_10 : decode cX6_writeLine 10 = .ok (.iconst 0, 1) := by decide +kernel
theorem dX6_writeLine_11 : decode cX6_writeLine 11 = .ok (.iaload, 1) := by decide +kernel
theorem dX6_writeLine_12 : decode cX6_writeLine 12 = .ok (.invokevirtual 114, 3) := by decide +kernel
theorem dX6_writeLine_15 : decode cX6_writeLine 15 = .ok (.istore_n 1, 1) := by decide +kernel
theorem dX6_writeLine_16 : decode cX6_writeLine 16 = .ok (.aload_n 0, 1) := by decide +kernel
theorem dX6_writeLine_17 : decode cX6_writeLine 17 = .ok (.bipush 24, 2) := by decide +kernel
theorem dX6_writeLine_19 : decode cX6_writeLine 19 = .ok (.putfield 357, 3) := by decide +kernel
theorem dX6_writeLine_22 : decode cX6_writeLine 22 = .ok (.iconst 0, 1) := by decide +kernel
theorem dX6_writeLine_23 : decode cX6_writeLine 23 = .ok (.istore_n 2, 1) := by decide +kernel
theorem dX6_writeLine_24 : decode cX6_writeLine 24 = .ok (.iload_n 2, 1) := by decide +kernel
theorem dX6_writeLine_25 : decode cX6_writeLine 25 = .ok (.bipush 24, 2) := by decide +kernel
theorem dX6_writeLine_27 : decode cX6_writeLine 27 = .ok (.if_icmp .ge 48, 3) := by decide +kernel
theorem dX6_writeLine_30 : decode cX6_writeLine 30 = .ok (.aload_n 0, 1) := by decide +kernel
theorem dX6_writeLine_31 : decode cX6_writeLine 31 = .ok (.iload_n 2, 1) := by decide +kernel
theorem dX6_writeLine_32 : decode cX6_writeLine 32 = .ok (.invokevirtual 329, 3) := by decide +kernel
theorem dX6_writeLine_35 : decode cX6_writeLine 35 = .ok (.istore_n 3, 1) := by decide +kernel
theorem dX6_writeLine_36 : decode cX6_writeLine 36 = .ok (.aload_n 0, 1) := by decide +kernel
theorem dX6_writeLine_37 : decode cX6_writeLine 37 = .ok (.getfield 39, 3) := by decide +kernel
theorem dX6_writeLine_40 : decode cX6_writeLine 40 = .ok (.iload_n 2, 1) := by decide +kernel
theorem dX6_writeLine_41 : decode cX6_writeLine 41 = .ok (.iload_n 3, 1) := by decide +kernel
theorem dX6_writeLine_42 : decode cX6_writeLine 42 = .ok (.iconst (-1), 1) := by decide +kernel
theorem dX6_writeLine_43 : decode cX6_writeLine 43 = .ok (.if_icmp .eq 10, 3) := by decide +kernel
theorem dX6_writeLine_46 : decode cX6_writeLine 46 = .ok (.bipush 48, 2) := by decide +kernel
theorem dX6_writeLine_48 : decode cX6_writeLine 48 = .ok (.iload_n 3, 1) := by decide +kernel
theorem dX6_writeLine_49 : decode cX6_writeLine 49 = .ok (.iadd, 1) := by decide +kernel
theorem dX6_writeLine_50 : decode cX6_writeLine 50 = .ok (.goto 18, 3) := by decide +kernel
theorem dX6_writeLine_53 : decode cX6_writeLine 53 = .ok (.iload_n 1, 1) := by decide +kernel
theorem dX6_writeLine_54 : decode cX6_writeLine 54 = .ok (.iload_n 2, 1) := by decide +kernel
theorem dX6_writeLine_55 : decode cX6_writeLine 55 = .ok (.invokestatic 323, 3) := by decide +kernel
theorem dX6_writeLine_58 : decode cX6_writeLine 58 = .ok (.ifCond .eq 8, 3) := by decide +kernel
theorem dX6_writeLine_61 : decode cX6_writeLine 61 = .ok (.bipush 42, 2) := by decide +kernel
theorem dX6_writeLine_63 : decode cX6_writeLine 63 = .ok (.goto 5, 3) := by decide +kernel
theorem dX6_writeLine_66 : decode cX6_writeLine 66 = .ok (.bipush 45, 2) := by decide +kernel
theorem dX6_writeLine_68 : decode cX6_writeLine 68 = .ok (.iastore, 1) := by decide +kernel
theorem dX6_writeLine_69 : decode cX6_writeLine 69 = .ok (.iinc 2 1, 3) := by decide +kernel
theorem dX6_writeLine_72 : decode cX6_writeLine 72 = .ok (.goto (-48), 3) := by decide +kernel
theorem dX6_writeLine_75 : decode cX6_writeLine 75 = .ok (.aload_n 0, 1) := by decide +kernel
theorem dX6_writeLine_76 : decode cX6_writeLine 76 = .ok (.getfield 357, 3) := by decide +kernel
theorem dX6_writeLine_79 : decode cX6_writeLine 79 = .ok (.ireturn, 1) := by decide +kernel
theorem dX6_outputByte_0 : decode cX6_outputByte 0 = .ok (.aload_n 0, 1) := by decide +kernel
theorem dX6_outputByte_1 : decode cX6_outputByte 1 = .ok (.iconst 0, 1) := by decide +kernel
theorem dX6_outputByte_2 : decode cX6_outputByte 2 = .ok (.putfield 60, 3) := by decide +kernel
theorem dX6_outputByte_5 : decode cX6_outputByte 5 = .ok (.iload_n 1, 1) := by decide +kernel
theorem dX6_outputByte_6 : decode cX6_outputByte 6 = .ok (.iconst 0, 1) := by decide +kernel
theorem dX6_outputByte_7 : decode cX6_outputByte 7 = .ok (.aload_n 0, 1) := by decide +kernel
theorem dX6_outputByte_8 : decode cX6_outputByte 8 = .ok (.getfield 357, 3) := by decide +kernel
theorem dX6_outputByte_11 : decode cX6_outputByte 11 = .ok (.iconst 1, 1) := by decide +kernel
theorem dX6_outputByte_12 : decode cX6_outputByte 12 = .ok (.isub, 1) := by decide +kernel
theorem dX6_outputByte_13 : decode cX6_outputByte 13 = .ok (.invokestatic 63, 3) := by decide +kernel
theorem dX6_outputByte_16 : decode cX6_outputByte 16 = .ok (.ifCond .eq 12, 3) := by decide +kernel
theorem dX6_outputByte_19 : decode cX6_outputByte 19 = .ok (.aload_n 0, 1) := by decide +kernel
theorem dX6_outputByte_20 : decode cX6_outputByte 20 = .ok (.getfield 39, 3) := by decide +kernel
theorem dX6_outputByte_23 : decode cX6_outputByte 23 = .ok (.iload_n 1, 1) := by decide +kernel
theorem dX6_outputByte_24 : decode cX6_outputByte 24 = .ok (.iaload, 1) := by decide +kernel
theorem dX6_outputByte_25 : decode cX6_outputByte 25 = .ok (.goto 4, 3) := by decide +kernel
theorem dX6_outputByte_28 : decode cX6_outputByte 28 = .ok (.iconst (-1), 1) := by decide +kernel
theorem dX6_outputByte_29 : decode cX6_outputByte 29 = .ok (.ireturn, 1) := by decide +kernel
theorem dJ6_bitCount_0f7a4_0 : decode cJ6_bitCount_0f7a4 0 = .ok (.iload_n 0, 1) := by decide +kernel
theorem dJ6_bitCount_0f7a4_1 : decode cJ6_bitCount_0f7a4 1 = .ok (.iload_n 0, 1) := by decide +kernel
theorem dJ6_bitCount_0f7a4_2 : decode cJ6_bitCount_0f7a4 2 = .ok (.iconst 1, 1) := by decide +kernel
theorem dJ6_bitCount_0f7a4_3 : decode cJ6_bitCount_0f7a4 3 = .ok (.iushr, 1) := by decide +kernel
theorem dJ6_bitCount_0f7a4_4 : decode cJ6_bitCount_0f7a4 4 = .ok (.ldc_w 265, 3) := by decide +kernel
theorem dJ6_bitCount_0f7a4_7 : decode cJ6_bitCount_0f7a4 7 = .ok (.iand, 1) := by decide +kernel
theorem dJ6_bitCount_0f7a4_8 : decode cJ6_bitCount_0f7a4 8 = .ok (.isub, 1) := by decide +kernel
theorem dJ6_bitCount_0f7a4_9 : decode cJ6_bitCount_0f7a4 9 = .ok (.istore_n 0, 1) := by decide +kernel
theorem dJ6_bitCount_0f7a4_10 : decode cJ6_bitCount_0f7a4 10 = .ok (.iload_n 0, 1) := by decide +kernel
theorem dJ6_bitCount_0f7a4_11 : decode cJ6_bitCount_0f7a4 11 = .ok (.ldc_w 266, 3) := by decide +kernel
theorem dJ6_bitCount_0f7a4_14 : decode cJ6_bitCount_0f7a4 14 = .ok (.iand, 1) := by decide +kernel
theorem dJ6_bitCount_0f7a4_15 : decode cJ6_bitCount_0f7a4 15 = .ok (.iload_n 0, 1) := by decide +kernel
theorem dJ6_bitCount_0f7a4_16 : decode cJ6_bitCount_0f7a4 16 = .ok (.iconst 2, 1) := by decide +kernel
theorem dJ6_bitCount_0f7a4_17 : decode cJ6_bitCount_0f7a4 17 = .ok (.iushr, 1) := by decide +kernel
theorem dJ6_bitCount_0f7a4_18 : decode cJ6_bitCount_0f7a4 18 = .ok (.ldc_w 266, 3) := by decide +kernel
theorem dJ6_bitCount_0f7a4_21 : decode cJ6_bitCount_0f7a4 21 = .ok (.iand, 1) := by decide +kernel
theorem dJ6_bitCount_0f7a4_22 : decode cJ6_bitCount_0f7a4 22 = .ok (.iadd, 1) := by decide +kernel
theorem dJ6_bitCount_0f7a4_23 : decode cJ6_bitCount_0f7a4 23 = .ok (.istore_n 0, 1) := by decide +kernel
theorem dJ6_bitCount_0f7a4_24 : decode cJ6_bitCount_0f7a4 24 = .ok (.iload_n 0, 1) := by decide +kernel
theorem dJ6_bitCount_0f7a4_25 : decode cJ6_bitCount_0f7a4 25 = .ok (.iload_n 0, 1) := by decide +kernel
theorem dJ6_bitCount_0f7a4_26 : decode cJ6_bitCount_0f7a4 26 = .ok (.iconst 4, 1) := by decide +kernel
theorem dJ6_bitCount_0f7a4_27 : decode cJ6_bitCount_0f7a4 27 = .ok (.iushr, 1) := by decide +kernel
theorem dJ6_bitCount_0f7a4_28 : decode cJ6_bitCount_0f7a4 28 = .ok (.iadd, 1) := by decide +kernel
theorem dJ6_bitCount_0f7a4_29 : decode cJ6_bitCount_0f7a4 29 = .ok (.ldc_w 267, 3) := by decide +kernel
theorem dJ6_bitCount_0f7a4_32 : decode cJ6_bitCount_0f7a4 32 = .ok (.iand, 1) := by decide +kernel
theorem dJ6_bitCount_0f7a4_33 : decode cJ6_bitCount_0f7a4 33 = .ok (.istore_n 0, 1) := by decide +kernel
theorem dJ6_bitCount_0f7a4_34 : decode cJ6_bitCount_0f7a4 34 = .ok (.iload_n 0, 1) := by decide +kernel
theorem dJ6_bitCount_0f7a4_35 : decode cJ6_bitCount_0f7a4 35 = .ok (.iload_n 0, 1) := by decide +kernel
theorem dJ6_bitCount_0f7a4_36 : decode cJ6_bitCount_0f7a4 36 = .ok (.bipush 8, 2) := by decide +kernel
theorem dJ6_bitCount_0f7a4_38 : decode cJ6_bitCount_0f7a4 38 = .ok (.iushr, 1) := by decide +kernel
theorem dJ6_bitCount_0f7a4_39 : decode cJ6_bitCount_0f7a4 39 = .ok (.iadd, 1) := by decide +kernel
theorem dJ6_bitCount_0f7a4_40 : decode cJ6_bitCount_0f7a4 40 = .ok (.istore_n 0, 1) := by decide +kernel
theorem dJ6_bitCount_0f7a4_41 : decode cJ6_bitCount_0f7a4 41 = .ok (.iload_n 0, 1) := by decide +kernel
theorem dJ6_bitCount_0f7a4_42 : decode cJ6_bitCount_0f7a4 42 = .ok (.iload_n 0, 1) := by decide +kernel
theorem dJ6_bitCount_0f7a4_43 : decode cJ6_bitCount_0f7a4 43 = .ok (.bipush 16, 2) := by decide +kernel
theorem dJ6_bitCount_0f7a4_45 : decode cJ6_bitCount_0f7a4 45 = .ok (.iushr, 1) := by decide +kernel
theorem dJ6_bitCount_0f7a4_46 : decode cJ6_bitCount_0f7a4 46 = .ok (.iadd, 1) := by decide +kernel
theorem dJ6_bitCount_0f7a4_47 : decode cJ6_bitCount_0f7a4 47 = .ok (.istore_n 0, 1) := by decide +kernel
theorem dJ6_bitCount_0f7a4_48 : decode cJ6_bitCount_0f7a4 48 = .ok (.iload_n 0, 1) := by decide +kernel
theorem dJ6_bitCount_0f7a4_49 : decode cJ6_bitCount_0f7a4 49 = .ok (.bipush 63, 2) := by decide +kernel
theorem dJ6_bitCount_0f7a4_51 : decode cJ6_bitCount_0f7a4 51 = .ok (.iand, 1) := by decide +kernel
theorem dJ6_bitCount_0f7a4_52 : decode cJ6_bitCount_0f7a4 52 = .ok (.ireturn, 1) := by decide +kernel
theorem dJ9_abs_0f7a4_0 : decode cJ9_abs_0f7a4 0 = .ok (.iload_n 0, 1) := by decide +kernel
theorem dJ9_abs_0f7a4_1 : decode cJ9_abs_0f7a4 1 = .ok (.ifCond .ge 8, 3) := by decide +kernel
theorem dJ9_abs_0f7a4_4 : decode cJ9_abs_0f7a4 4 = .ok (.iload_n 0, 1) := by decide +kernel
theorem dJ9_abs_0f7a4_5 : decode cJ9_abs_0f7a4 5 = .ok (.ineg, 1) := by decide +kernel
theorem dJ9_abs_0f7a4_6 : decode cJ9_abs_0f7a4 6 = .ok (.goto 4, 3) := by decide +kernel
theorem dJ9_abs_0f7a4_9 : decode cJ9_abs_0f7a4 9 = .ok (.iload_n 0, 1) := by decide +kernel
theorem dJ9_abs_0f7a4_10 : decode cJ9_abs_0f7a4 10 = .ok (.ireturn, 1) := by decide +kernel
theorem dJ9_max_7cf53_0 : decode cJ9_max_7cf53 0 = .ok (.iload_n 0, 1) := by decide +kernel
theorem dJ9_max_7cf53_1 : decode cJ9_max_7cf53 1 = .ok (.iload_n 1, 1) := by decide +kernel
theorem dJ9_max_7cf53_2 : decode cJ9_max_7cf53 2 = .ok (.if_icmp .lt 7, 3) := by decide +kernel
theorem dJ9_max_7cf53_5 : decode cJ9_max_7cf53 5 = .ok (.iload_n 0, 1) := by decide +kernel
theorem dJ9_max_7cf53_6 : decode cJ9_max_7cf53 6 = .ok (.goto 4, 3) := by decide +kernel
theorem dJ9_max_7cf53_9 : decode cJ9_max_7cf53 9 = .ok (.iload_n 1, 1) := by decide +kernel
theorem dJ9_max_7cf53_10 : decode cJ9_max_7cf53 10 = .ok (.ireturn, 1) := by decide +kernel
theorem dJ9_min_7cf53_0 : decode cJ9_min_7cf53 0 = .ok (.iload_n 0, 1) := by decide +kernel
theorem dJ9_min_7cf53_1 : decode cJ9_min_7cf53 1 = .ok (.iload_n 1, 1) := by decide +kernel
theorem dJ9_min_7cf53_2 : decode cJ9_min_7cf53 2 = .ok (.if_icmp .gt 7, 3) := by decide +kernel
theorem dJ9_min_7cf53_5 : decode cJ9_min_7cf53 5 = .ok (.iload_n 0, 1) := by decide +kernel
theorem dJ9_min_7cf53_6 : decode cJ9_min_7cf53 6 = .ok (.goto 4, 3) := by decide +kernel
theorem dJ9_min_7cf53_9 : decode cJ9_min_7cf53 9 = .ok (.iload_n 1, 1) := by decide +kernel
theorem dJ9_min_7cf53_10 : decode cJ9_min_7cf53 10 = .ok (.ireturn, 1) := by decide +kernel
theorem dJ0_length_8abf5_0 : decode cJ0_length_8abf5 0 = .ok (.aload_n 0, 1) := by decide +kernel
theorem dJ0_length_8abf5_1 : decode cJ0_length_8abf5 1 = .ok (.getfield 9, 3) := by decide +kernel
theorem dJ0_length_8abf5_4 : decode cJ0_length_8abf5 4 = .ok (.arraylength, 1) := by decide +kernel
theorem dJ0_length_8abf5_5 : decode cJ0_length_8abf5 5 = .ok (.aload_n 0, 1) := by decide +kernel
theorem dJ0_length_8abf5_6 : decode cJ0_length_8abf5 6 = .ok (.invokevirtual 335, 3) := by decide +kernel
theorem dJ0_length_8abf5_9 : decode cJ0_length_8abf5 9 = .ok (.ishr, 1) := by decide +kernel
theorem dJ0_length_8abf5_10 : decode cJ0_length_8abf5 10 = .ok (.ireturn, 1) := by decide +kernel
theorem dJ0_charAt_5068e_0 : decode cJ0_charAt_5068e 0 = .ok (.aload_n 0, 1) := by decide +kernel
theorem dJ0_charAt_5068e_1 : decode cJ0_charAt_5068e 1 = .ok (.invokevirtual 492, 3) := by decide +kernel
theorem dJ0_charAt_5068e_4 : decode cJ0_charAt_5068e 4 = .ok (.ifCond .eq 12, 3) := by decide +kernel
theorem dJ0_charAt_5068e_7 : decode cJ0_charAt_5068e 7 = .ok (.aload_n 0, 1) := by decide +kernel
theorem dJ0_charAt_5068e_8 : decode cJ0_charAt_5068e 8 = .ok (.getfield 9, 3) := by decide +kernel
theorem dJ0_charAt_5068e_11 : decode cJ0_charAt_5068e 11 = .ok (.iload_n 1, 1) := by decide +kernel
theorem dJ0_charAt_5068e_12 : decode cJ0_charAt_5068e 12 = .ok (.invokestatic 495, 3) := by decide +kernel
theorem dJ0_charAt_5068e_15 : decode cJ0_charAt_5068e 15 = .ok (.ireturn, 1) := by decide +kernel
theorem dJ0_charAt_5068e_16 : decode cJ0_charAt_5068e 16 = .ok (.aload_n 0, 1) := by decide +kernel
theorem dJ0_charAt_5068e_17 : decode cJ0_charAt_5068e 17 = .ok (.getfield 9, 3) := by decide +kernel
theorem dJ0_charAt_5068e_20 : decode cJ0_charAt_5068e 20 = .ok (.iload_n 1, 1) := by decide +kernel
theorem dJ0_charAt_5068e_21 : decode cJ0_charAt_5068e 21 = .ok (.invokestatic 498, 3) := by decide +kernel
theorem dJ0_charAt_5068e_24 : decode cJ0_charAt_5068e 24 = .ok (.ireturn, 1) := by decide +kernel
theorem dJ0_coder_7d493_0 : decode cJ0_coder_7d493 0 = .ok (.getstatic 38, 3) := by decide +kernel
theorem dJ0_coder_7d493_3 : decode cJ0_coder_7d493 3 = .ok (.ifCond .eq 10, 3) := by decide +kernel
theorem dJ0_coder_7d493_6 : decode cJ0_coder_7d493 6 = .ok (.aload_n 0, 1) := by decide +kernel
theorem dJ0_coder_7d493_7 : decode cJ0_coder_7d493 7 = .ok (.getfield 15, 3) := by decide +kernel
theorem dJ0_coder_7d493_10 : decode cJ0_coder_7d493 10 = .ok (.goto 4, 3) := by decide +kernel
theorem dJ0_coder_7d493_13 : decode cJ0_coder_7d493 13 = .ok (.iconst 1, 1) := by decide +kernel
theorem dJ0_coder_7d493_14 : decode cJ0_coder_7d493 14 = .ok (.ireturn, 1) := by decide +kernel
theorem dJ0_isLatin1_aae02_0 : decode cJ0_isLatin1_aae02 0 = .ok (.getstatic 38, 3) := by decide +kernel
theorem dJ0_isLatin1_aae02_3 : decode cJ0_isLatin1_aae02 3 = .ok (.ifCond .eq 14, 3) := by decide +kernel
theorem dJ0_isLatin1_aae02_6 : decode cJ0_isLatin1_aae02 6 = .ok (.aload_n 0, 1) := by decide +kernel
theorem dJ0_isLatin1_aae02_7 : decode cJ0_isLatin1_aae02 7 = .ok (.getfield 15, 3) := by decide +kernel
theorem dJ0_isLatin1_aae02_10 : decode cJ0_isLatin1_aae02 10 = .ok (.ifCond .ne 7, 3) := by decide +kernel
theorem dJ0_isLatin1_aae02_13 : decode cJ0_isLatin1_aae02 13 = .ok (.iconst 1, 1) := by decide +kernel
theorem dJ0_isLatin1_aae02_14 : decode cJ0_isLatin1_aae02 14 = .ok (.goto 4, 3) := by decide +kernel
theorem dJ0_isLatin1_aae02_17 : decode cJ0_isLatin1_aae02 17 = .ok (.iconst 0, 1) := by decide +kernel
theorem dJ0_isLatin1_aae02_18 : decode cJ0_isLatin1_aae02 18 = .ok (.ireturn, 1) := by decide +kernel
theorem dJ0_checkIndex_df160_0 : decode cJ0_checkIndex_df160 0 = .ok (.iload_n 0, 1) := by decide +kernel
theorem dJ0_checkIndex_df160_1 : decode cJ0_checkIndex_df160 1 = .ok (.iload_n 1, 1) := by decide +kernel
theorem dJ0_checkIndex_df160_2 : decode cJ0_checkIndex_df160 2 = .ok (.getstatic 1053, 3) := by decide +kernel
theorem dJ0_checkIndex_df160_5 : decode cJ0_checkIndex_df160 5 = .ok (.invokestatic 1059, 3) := by decide +kernel
theorem dJ0_checkIndex_df160_8 : decode cJ0_checkIndex_df160 8 = .ok (.pop, 1) := by decide +kernel
theorem dJ0_checkIndex_df160_9 : decode cJ0_checkIndex_df160 9 = .ok (.return_, 1) := by decide +kernel
theorem dJ1_charAt_3b067_0 : decode cJ1_charAt_3b067 0 = .ok (.iload_n 1, 1) := by decide +kernel
theorem dJ1_charAt_3b067_1 : decode cJ1_charAt_3b067 1 = .ok (.aload_n 0, 1) := by decide +kernel
theorem dJ1_charAt_3b067_2 : decode cJ1_charAt_3b067 2 = .ok (.arraylength, 1) := by decide +kernel
theorem dJ1_charAt_3b067_3 : decode cJ1_charAt_3b067 3 = .ok (.invokestatic 9, 3) := by decide +kernel
theorem dJ1_charAt_3b067_6 : decode cJ1_charAt_3b067 6 = .ok (.aload_n 0, 1) := by decide +kernel
theorem dJ1_charAt_3b067_7 : decode cJ1_charAt_3b067 7 = .ok (.iload_n 1, 1) := by decide +kernel
theorem dJ1_charAt_3b067_8 : decode cJ1_charAt_3b067 8 = .ok (.baload, 1) := by decide +kernel
theorem dJ1_charAt_3b067_9 : decode cJ1_charAt_3b067 9 = .ok (.sipush 255, 3) := by decide +kernel
theorem dJ1_charAt_3b067_12 : decode cJ1_charAt_3b067 12 = .ok (.iand, 1) := by decide +kernel
theorem dJ1_charAt_3b067_13 : decode cJ1_charAt_3b067 13 = .ok (.i2c, 1) := by decide +kernel
theorem dJ1_charAt_3b067_14 : decode cJ1_charAt_3b067 14 = .ok (.ireturn, 1) := by decide +kernel
theorem dJ2_getChar_3b067_0 : decode cJ2_getChar_3b067 0 = .ok (.getstatic 44, 3) := by decide +kernel
theorem dJ2_getChar_3b067_3 : decode cJ2_getChar_3b067 3 = .ok (.ifCond .ne 25, 3) := by decide +kernel
theorem dJ2_getChar_3b067_6 : decode cJ2_getChar_3b067 6 = .ok (.iload_n 1, 1) := by decide +kernel
theorem dJ2_getChar_3b067_7 : decode cJ2_getChar_3b067 7 = .ok (.ifCond .lt 11, 3) := by decide +kernel
theorem dJ2_getChar_3b067_10 : decode cJ2_getChar_3b067 10 = .ok (.iload_n 1, 1) := by decide +kernel
theorem dJ2_getChar_3b067_11 : decode cJ2_getChar_3b067 11 = .ok (.aload_n 0, 1) := by decide +kernel
theorem dJ2_getChar_3b067_12 : decode cJ2_getChar_3b067 12 = .ok (.invokestatic 48, 3) := by decide +kernel
theorem dJ2_getChar_3b067_15 : decode cJ2_getChar_3b067 15 = .ok (.if_icmp .lt 13, 3) := by decide +kernel
theorem dJ2_getChar_3b067_18 : decode cJ2_getChar_3b067 18 = .ok (.new 52, 3) := by decide +kernel
theorem dJ2_getChar_3b067_21 : decode cJ2_getChar_3b067 21 = .ok (.dup, 1) := by decide +kernel
theorem dJ2_getChar_3b067_22 : decode cJ2_getChar_3b067 22 = .ok (.ldc 54, 2) := by decide +kernel
theorem dJ2_getChar_3b067_24 : decode cJ2_getChar_3b067 24 = .ok (.invokespecial 56, 3) := by decide +kernel
theorem dJ2_getChar_3b067_27 : decode cJ2_getChar_3b067 27 = .ok (.athrow, 1) := by decide +kernel
theorem dJ2_getChar_3b067_28 : decode cJ2_getChar_3b067 28 = .ok (.iload_n 1, 1) := by decide +kernel
theorem dJ2_getChar_3b067_29 : decode cJ2_getChar_3b067 29 = .ok (.iconst 1, 1) := by decide +kernel
theorem dJ2_getChar_3b067_30 : decode cJ2_getChar_3b067 30 = .ok (.ishl, 1) := by decide +kernel
theorem dJ2_getChar_3b067_31 : decode cJ2_getChar_3b067 31 = .ok (.istore_n 1, 1) := by decide +kernel
theorem dJ2_getChar_3b067_32 : decode cJ2_getChar_3b067 32 = .ok (.aload_n 0, 1) := by decide +kernel
theorem dJ2_getChar_3b067_33 : decode cJ2_getChar_3b067 33 = .ok (.iload_n 1, 1) := by decide +kernel
theorem dJ2_getChar_3b067_34 : decode cJ2_getChar_3b067 34 = .ok (.iinc 1 1, 3) := by decide +kernel
theorem dJ2_getChar_3b067_37 : decode cJ2_getChar_3b067 37 = .ok (.baload, 1) := by decide +kernel
theorem dJ2_getChar_3b067_38 : decode cJ2_getChar_3b067 38 = .ok (.sipush 255, 3) := by decide +kernel
theorem dJ2_getChar_3b067_41 : decode cJ2_getChar_3b067 41 = .ok (.iand, 1) := by decide +kernel
theorem dJ2_getChar_3b067_42 : decode cJ2_getChar_3b067 42 = .ok (.getstatic 59, 3) := by decide +kernel
theorem dJ2_getChar_3b067_45 : decode cJ2_getChar_3b067 45 = .ok (.ishl, 1) := by decide +kernel
theorem dJ2_getChar_3b067_46 : decode cJ2_getChar_3b067 46 = .ok (.aload_n 0, 1) := by decide +kernel
theorem dJ2_getChar_3b067_47 : decode cJ2_getChar_3b067 47 = .ok (.iload_n 1, 1) := by decide +kernel
theorem dJ2_getChar_3b067_48 : decode cJ2_getChar_3b067 48 = .ok (.baload, 1) := by decide +kernel
theorem dJ2_getChar_3b067_49 : decode cJ2_getChar_3b067 49 = .ok (.sipush 255, 3) := by decide +kernel
theorem dJ2_getChar_3b067_52 : decode cJ2_getChar_3b067 52 = .ok (.iand, 1) := by decide +kernel
theorem dJ2_getChar_3b067_53 : decode cJ2_getChar_3b067 53 = .ok (.getstatic 63, 3) := by decide +kernel
theorem dJ2_getChar_3b067_56 : decode cJ2_getChar_3b067 56 = .ok (.ishl, 1) := by decide +kernel
theorem dJ2_getChar_3b067_57 : decode cJ2_getChar_3b067 57 = .ok (.ior, 1) := by decide +kernel
theorem dJ2_getChar_3b067_58 : decode cJ2_getChar_3b067 58 = .ok (.i2c, 1) := by decide +kernel
theorem dJ2_getChar_3b067_59 : decode cJ2_getChar_3b067 59 = .ok (.ireturn, 1) := by decide +kernel
theorem dJ2_length_9d52b_0 : decode cJ2_length_9d52b 0 = .ok (.aload_n 0, 1) := by decide +kernel
theorem dJ2_length_9d52b_1 : decode cJ2_length_9d52b 1 = .ok (.arraylength, 1) := by decide +kernel
theorem dJ2_length_9d52b_2 : decode cJ2_length_9d52b 2 = .ok (.iconst 1, 1) := by decide +kernel
theorem dJ2_length_9d52b_3 : decode cJ2_length_9d52b 3 = .ok (.ishr, 1) := by decide +kernel
theorem dJ2_length_9d52b_4 : decode cJ2_length_9d52b 4 = .ok (.ireturn, 1) := by decide +kernel
theorem dJ2_charAt_3b067_0 : decode cJ2_charAt_3b067 0 = .ok (.iload_n 1, 1) := by decide +kernel
theorem dJ2_charAt_3b067_1 : decode cJ2_charAt_3b067 1 = .ok (.aload_n 0, 1) := by decide +kernel
theorem dJ2_charAt_3b067_2 : decode cJ2_charAt_3b067 2 = .ok (.invokestatic 67, 3) := by decide +kernel
theorem dJ2_charAt_3b067_5 : decode cJ2_charAt_3b067 5 = .ok (.aload_n 0, 1) := by decide +kernel
theorem dJ2_charAt_3b067_6 : decode cJ2_charAt_3b067 6 = .ok (.iload_n 1, 1) := by decide +kernel
theorem dJ2_charAt_3b067_7 : decode cJ2_charAt_3b067 7 = .ok (.invokestatic 71, 3) := by decide +kernel
theorem dJ2_charAt_3b067_10 : decode cJ2_charAt_3b067 10 = .ok (.ireturn, 1) := by decide +kernel
theorem dJ2_checkIndex_2214a_0 : decode cJ2_checkIndex_2214a 0 = .ok (.iload_n 0, 1) := by decide +kernel
theorem dJ2_checkIndex_2214a_1 : decode cJ2_checkIndex_2214a 1 = .ok (.aload_n 1, 1) := by decide +kernel
theorem dJ2_checkIndex_2214a_2 : decode cJ2_checkIndex_2214a 2 = .ok (.invokestatic 48, 3) := by decide +kernel
theorem dJ2_checkIndex_2214a_5 : decode cJ2_checkIndex_2214a 5 = .ok (.invokestatic 414, 3) := by decide +kernel
theorem dJ2_checkIndex_2214a_8 : decode cJ2_checkIndex_2214a 8 = .ok (.return_, 1) := by decide +kernel
theorem dJ3_checkIndex_8e157_0 : decode cJ3_checkIndex_8e157 0 = .ok (.iload_n 0, 1) := by decide +kernel
theorem dJ3_checkIndex_8e157_1 : decode cJ3_checkIndex_8e157 1 = .ok (.ifCond .lt 8, 3) := by decide +kernel
theorem dJ3_checkIndex_8e157_4 : decode cJ3_checkIndex_8e157 4 = .ok (.iload_n 0, 1) := by decide +kernel
theorem dJ3_checkIndex_8e157_5 : decode cJ3_checkIndex_8e157 5 = .ok (.iload_n 1, 1) := by decide +kernel
theorem dJ3_checkIndex_8e157_6 : decode cJ3_checkIndex_8e157 6 = .ok (.if_icmp .lt 10, 3) := by decide +kernel
theorem dJ3_checkIndex_8e157_9 : decode cJ3_checkIndex_8e157 9 = .ok (.aload_n 2, 1) := by decide +kernel
theorem dJ3_checkIndex_8e157_10 : decode cJ3_checkIndex_8e157 10 = .ok (.iload_n 0, 1) := by decide +kernel
theorem dJ3_checkIndex_8e157_11 : decode cJ3_checkIndex_8e157 11 = .ok (.iload_n 1, 1) := by decide +kernel
theorem dJ3_checkIndex_8e157_12 : decode cJ3_checkIndex_8e157 12 = .ok (.invokestatic 95, 3) := by decide +kernel
theorem dJ3_checkIndex_8e157_15 : decode cJ3_checkIndex_8e157 15 = .ok (.athrow, 1) := by decide +kernel
theorem dJ3_checkIndex_8e157_16 : decode cJ3_checkIndex_8e157 16 = .ok (.iload_n 0, 1) := by decide +kernel
theorem dJ3_checkIndex_8e157_17 : decode cJ3_checkIndex_8e157 17 = .ok (.ireturn, 1) := by decide +kernel
theorem dL_windIn_0 : decode cL_windIn 0 = .ok (.aload_n 2, 1) := by decide +kernel
theorem dL_windIn_1 : decode cL_windIn 1 = .ok (.iconst 0, 1) := by decide +kernel
theorem dL_windIn_2 : decode cL_windIn 2 = .ok (.aload_n 0, 1) := by decide +kernel
theorem dL_windIn_3 : decode cL_windIn 3 = .ok (.iload_n 1, 1) := by decide +kernel
theorem dL_windIn_4 : decode cL_windIn 4 = .ok (.invokevirtual 7, 3) := by decide +kernel
theorem dL_windIn_7 : decode cL_windIn 7 = .ok (.i2l, 1) := by decide +kernel
theorem dL_windIn_8 : decode cL_windIn 8 = .ok (.lastore, 1) := by decide +kernel
theorem dL_windIn_9 : decode cL_windIn 9 = .ok (.goto 6, 3) := by decide +kernel
theorem dL_windIn_12 : decode cL_windIn 12 = .ok (.astore_n 3, 1) := by decide +kernel
theorem dL_windIn_13 : decode cL_windIn 13 = .ok (.iconst 1, 1) := by decide +kernel
theorem dL_windIn_14 : decode cL_windIn 14 = .ok (.ireturn, 1) := by decide +kernel
theorem dL_windIn_15 : decode cL_windIn 15 = .ok (.iconst 0, 1) := by decide +kernel
theorem dL_windIn_16 : decode cL_windIn 16 = .ok (.ireturn, 1) := by decide +kernel
theorem dL_rainIn_0 : decode cL_rainIn 0 = .ok (.aload_n 2, 1) := by decide +kernel
theorem dL_rainIn_1 : decode cL_rainIn 1 = .ok (.iconst 0, 1) := by decide +kernel
theorem dL_rainIn_2 : decode cL_rainIn 2 = .ok (.aload_n 0, 1) := by decide +kernel
theorem dL_rainIn_3 : decode cL_rainIn 3 = .ok (.iload_n 1, 1) := by decide +kernel
theorem dL_rainIn_4 : decode cL_rainIn 4 = .ok (.invokevirtual 15, 3) := by decide +kernel
theorem dL_rainIn_7 : decode cL_rainIn 7 = .ok (.i2l, 1) := by decide +kernel
theorem dL_rainIn_8 : decode cL_rainIn 8 = .ok (.lastore, 1) := by decide +kernel
theorem dL_rainIn_9 : decode cL_rainIn 9 = .ok (.goto 6, 3) := by decide +kernel
theorem dL_rainIn_12 : decode cL_rainIn 12 = .ok (.astore_n 3, 1) := by decide +kernel
theorem dL_rainIn_13 : decode cL_rainIn 13 = .ok (.iconst 1, 1) := by decide +kernel
theorem dL_rainIn_14 : decode cL_rainIn 14 = .ok (.ireturn, 1) := by decide +kernel
theorem dL_rainIn_15 : decode cL_rainIn 15 = .ok (.iconst 0, 1) := by decide +kernel
theorem dL_rainIn_16 : decode cL_rainIn 16 = .ok (.ireturn, 1) := by decide +kernel
theorem dL_sunnySpots_0 : decode cL_sunnySpots 0 = .ok (.aload_n 2, 1) := by decide +kernel
theorem dL_sunnySpots_1 : decode cL_sunnySpots 1 = .ok (.iconst 0, 1) := by decide +kernel
theorem dL_sunnySpots_2 : decode cL_sunnySpots 2 = .ok (.aload_n 0, 1) := by decide +kernel
theorem dL_sunnySpots_3 : decode cL_sunnySpots 3 = .ok (.iload_n 1, 1) := by decide +kernel
theorem dL_sunnySpots_4 : decode cL_sunnySpots 4 = .ok (.invokevirtual 18, 3) := by decide +kernel
theorem dL_sunnySpots_7 : decode cL_sunnySpots 7 = .ok (.i2l, 1) := by decide +kernel
theorem dL_sunnySpots_8 : decode cL_sunnySpots 8 = .ok (.lastore, 1) := by decide +kernel
theorem dL_sunnySpots_9 : decode cL_sunnySpots 9 = .ok (.goto 6, 3) := by decide +kernel
theorem dL_sunnySpots_12 : decode cL_sunnySpots 12 = .ok (.astore_n 3, 1) := by decide +kernel
theorem dL_sunnySpots_13 : decode cL_sunnySpots 13 = .ok (.iconst 1, 1) := by decide +kernel
theorem dL_sunnySpots_14 : decode cL_sunnySpots 14 = .ok (.ireturn, 1) := by decide +kernel
theorem dL_sunnySpots_15 : decode cL_sunnySpots 15 = .ok (.iconst 0, 1) := by decide +kernel
theorem dL_sunnySpots_16 : decode cL_sunnySpots 16 = .ok (.ireturn, 1) := by decide +kernel
theorem dL_smokySpots_0 : decode cL_smokySpots 0 = .ok (.aload_n 2, 1) := by decide +kernel
theorem dL_smokySpots_1 : decode cL_smokySpots 1 = .ok (.iconst 0, 1) := by decide +kernel
theorem dL_smokySpots_2 : decode cL_smokySpots 2 = .ok (.aload_n 0, 1) := by decide +kernel
theorem dL_smokySpots_3 : decode cL_smokySpots 3 = .ok (.iload_n 1, 1) := by decide +kernel
theorem dL_smokySpots_4 : decode cL_smokySpots 4 = .ok (.invokevirtual 21, 3) := by decide +kernel
theorem dL_smokySpots_7 : decode cL_smokySpots 7 = .ok (.i2l, 1) := by decide +kernel
theorem dL_smokySpots_8 : decode cL_smokySpots 8 = .ok (.lastore, 1) := by decide +kernel
theorem dL_smokySpots_9 : decode cL_smokySpots 9 = .ok (.goto 6, 3) := by decide +kernel
theorem dL_smokySpots_12 : decode cL_smokySpots 12 = .ok (.astore_n 3, 1) := by decide +kernel
theorem dL_smokySpots_13 : decode cL_smokySpots 13 = .ok (.iconst 1, 1) := by decide +kernel
theorem dL_smokySpots_14 : decode cL_smokySpots 14 = .ok (.ireturn, 1) := by decide +kernel
theorem dL_smokySpots_15 : decode cL_smokySpots 15 = .ok (.iconst 0, 1) := by decide +kernel
theorem dL_smokySpots_16 : decode cL_smokySpots 16 = .ok (.ireturn, 1) := by decide +kernel
theorem dL_garmentAt_0 : decode cL_garmentAt 0 = .ok (.aload_n 2, 1) := by decide +kernel
theorem dL_garmentAt_1 : decode cL_garmentAt 1 = .ok (.iconst 0, 1) := by decide +kernel
theorem dL_garmentAt_2 : decode cL_garmentAt 2 = .ok (.aload_n 0, 1) := by decide +kernel
theorem dL_garmentAt_3 : decode cL_garmentAt 3 = .ok (.iload_n 1, 1) := by decide +kernel
theorem dL_garmentAt_4 : decode cL_garmentAt 4 = .ok (.invokevirtual 24, 3) := by decide +kernel
theorem dL_garmentAt_7 : decode cL_garmentAt 7 = .ok (.i2l, 1) := by decide +kernel
theorem dL_garmentAt_8 : decode cL_garmentAt 8 = .ok (.lastore, 1) := by decide +kernel
theorem dL_garmentAt_9 : decode cL_garmentAt 9 = .ok (.goto 6, 3) := by decide +kernel
theorem dL_garmentAt_12 : decode cL_garmentAt 12 = .ok (.astore_n 3, 1) := by decide +kernel
theorem dL_garmentAt_13 : decode cL_garmentAt 13 = .ok (.iconst 1, 1) := by decide +kernel
theorem dL_garmentAt_14 : decode cL_garmentAt 14 = .ok (.ireturn, 1) := by decide +kernel
theorem dL_garmentAt_15 : decode cL_garmentAt 15 = .ok (.iconst 0, 1) := by decide +kernel
theorem dL_garmentAt_16 : decode cL_garmentAt 16 = .ok (.ireturn, 1) := by decide +kernel
theorem dL_stateOf_0 : decode cL_stateOf 0 = .ok (.aload_n 2, 1) := by decide +kernel
theorem dL_stateOf_1 : decode cL_stateOf 1 = .ok (.iconst 0, 1) := by decide +kernel
theorem dL_stateOf_2 : decode cL_stateOf 2 = .ok (.aload_n 0, 1) := by decide +kernel
theorem dL_stateOf_3 : decode cL_stateOf 3 = .ok (.iload_n 1, 1) := by decide +kernel
theorem dL_stateOf_4 : decode cL_stateOf 4 = .ok (.invokevirtual 27, 3) := by decide +kernel
theorem dL_stateOf_7 : decode cL_stateOf 7 = .ok (.i2l, 1) := by decide +kernel
theorem dL_stateOf_8 : decode cL_stateOf 8 = .ok (.lastore, 1) := by decide +kernel
theorem dL_stateOf_9 : decode cL_stateOf 9 = .ok (.goto 6, 3) := by decide +kernel
theorem dL_stateOf_12 : decode cL_stateOf 12 = .ok (.astore_n 3, 1) := by decide +kernel
theorem dL_stateOf_13 : decode cL_stateOf 13 = .ok (.iconst 1, 1) := by decide +kernel
theorem dL_stateOf_14 : decode cL_stateOf 14 = .ok (.ireturn, 1) := by decide +kernel
theorem dL_stateOf_15 : decode cL_stateOf 15 = .ok (.iconst 0, 1) := by decide +kernel
theorem dL_stateOf_16 : decode cL_stateOf 16 = .ok (.ireturn, 1) := by decide +kernel
theorem dL_widthOf_0 : decode cL_widthOf 0 = .ok (.aload_n 2, 1) := by decide +kernel
theorem dL_widthOf_1 : decode cL_widthOf 1 = .ok (.iconst 0, 1) := by decide +kernel
theorem dL_widthOf_2 : decode cL_widthOf 2 = .ok (.aload_n 0, 1) := by decide +kernel
theorem dL_widthOf_3 : decode cL_widthOf 3 = .ok (.iload_n 1, 1) := by decide +kernel
theorem dL_widthOf_4 : decode cL_widthOf 4 = .ok (.invokevirtual 32, 3) := by decide +kernel
theorem dL_widthOf_7 : decode cL_widthOf 7 = .ok (.i2l, 1) := by decide +kernel
theorem dL_widthOf_8 : decode cL_widthOf 8 = .ok (.lastore, 1) := by decide +kernel
theorem dL_widthOf_9 : decode cL_widthOf 9 = .ok (.goto 6, 3) := by decide +kernel
theorem dL_widthOf_12 : decode cL_widthOf 12 = .ok (.astore_n 3, 1) := by decide +kernel
theorem dL_widthOf_13 : decode cL_widthOf 13 = .ok (.iconst 1, 1) := by decide +kernel
theorem dL_widthOf_14 : decode cL_widthOf 14 = .ok (.ireturn, 1) := by decide +kernel
theorem dL_widthOf_15 : decode cL_widthOf 15 = .ok (.iconst 0, 1) := by decide +kernel
theorem dL_widthOf_16 : decode cL_widthOf 16 = .ok (.ireturn, 1) := by decide +kernel
theorem dL_dryWeight_0 : decode cL_dryWeight 0 = .ok (.aload_n 2, 1) := by decide +kernel
theorem dL_dryWeight_1 : decode cL_dryWeight 1 = .ok (.iconst 0, 1) := by decide +kernel
theorem dL_dryWeight_2 : decode cL_dryWeight 2 = .ok (.aload_n 0, 1) := by decide +kernel
theorem dL_dryWeight_3 : decode cL_dryWeight 3 = .ok (.iload_n 1, 1) := by decide +kernel
theorem dL_dryWeight_4 : decode cL_dryWeight 4 = .ok (.invokevirtual 35, 3) := by decide +kernel
theorem dL_dryWeight_7 : decode cL_dryWeight 7 = .ok (.i2l, 1) := by decide +kernel
theorem dL_dryWeight_8 : decode cL_dryWeight 8 = .ok (.lastore, 1) := by decide +kernel
theorem dL_dryWeight_9 : decode cL_dryWeight 9 = .ok (.goto 6, 3) := by decide +kernel
theorem dL_dryWeight_12 : decode cL_dryWeight 12 = .ok (.astore_n 3, 1) := by decide +kernel
theorem dL_dryWeight_13 : decode cL_dryWeight 13 = .ok (.iconst 1, 1) := by decide +kernel
theorem dL_dryWeight_14 : decode cL_dryWeight 14 = .ok (.ireturn, 1) := by decide +kernel
theorem dL_dryWeight_15 : decode cL_dryWeight 15 = .ok (.iconst 0, 1) := by decide +kernel
theorem dL_dryWeight_16 : decode cL_dryWeight 16 = .ok (.ireturn, 1) := by decide +kernel
theorem dL_capacityOf_0 : decode cL_capacityOf 0 = .ok (.aload_n 2, 1) := by decide +kernel
theorem dL_capacityOf_1 : decode cL_capacityOf 1 = .ok (.iconst 0, 1) := by decide +kernel
theorem dL_capacityOf_2 : decode cL_capacityOf 2 = .ok (.aload_n 0, 1) := by decide +kernel
theorem dL_capacityOf_3 : decode cL_capacityOf 3 = .ok (.iload_n 1, 1) := by decide +kernel
theorem dL_capacityOf_4 : decode cL_capacityOf 4 = .ok (.invokevirtual 38, 3) := by decide +kernel
theorem dL_capacityOf_7 : decode cL_capacityOf 7 = .ok (.i2l, 1) := by decide +kernel
theorem dL_capacityOf_8 : decode cL_capacityOf 8 = .ok (.lastore, 1) := by decide +kernel
theorem dL_capacityOf_9 : decode cL_capacityOf 9 = .ok (.goto 6, 3) := by decide +kernel
theorem dL_capacityOf_12 : decode cL_capacityOf 12 = .ok (.astore_n 3, 1) := by decide +kernel
theorem dL_capacityOf_13 : decode cL_capacityOf 13 = .ok (.iconst 1, 1) := by decide +kernel
theorem dL_capacityOf_14 : decode cL_capacityOf 14 = .ok (.ireturn, 1) := by decide +kernel
theorem dL_capacityOf_15 : decode cL_capacityOf 15 = .ok (.iconst 0, 1) := by decide +kernel
theorem dL_capacityOf_16 : decode cL_capacityOf 16 = .ok (.ireturn, 1) := by decide +kernel
theorem dL_waterOf_0 : decode cL_waterOf 0 = .ok (.aload_n 2, 1) := by decide +kernel
theorem dL_waterOf_1 : decode cL_waterOf 1 = .ok (.iconst 0, 1) := by decide +kernel
theorem dL_waterOf_2 : decode cL_waterOf 2 = .ok (.aload_n 0, 1) := by decide +kernel
theorem dL_waterOf_3 : decode cL_waterOf 3 = .ok (.iload_n 1, 1) := by decide +kernel
theorem dL_waterOf_4 : decode cL_waterOf 4 = .ok (.invokevirtual 41, 3) := by decide +kernel
theorem dL_waterOf_7 : decode cL_waterOf 7 = .ok (.i2l, 1) := by decide +kernel
theorem dL_waterOf_8 : decode cL_waterOf 8 = .ok (.lastore, 1) := by decide +kernel
theorem dL_waterOf_9 : decode cL_waterOf 9 = .ok (.goto 6, 3) := by decide +kernel
theorem dL_waterOf_12 : decode cL_waterOf 12 = .ok (.astore_n 3, 1) := by decide +kernel
theorem dL_waterOf_13 : decode cL_waterOf 13 = .ok (.iconst 1, 1) := by decide +kernel
theorem dL_waterOf_14 : decode cL_waterOf 14 = .ok (.ireturn, 1) := by decide +kernel
theorem dL_waterOf_15 : decode cL_waterOf 15 = .ok (.iconst 0, 1) := by decide +kernel
theorem dL_waterOf_16 : decode cL_waterOf 16 = .ok (.ireturn, 1) := by decide +kernel
theorem dL_weightOf_0 : decode cL_weightOf 0 = .ok (.aload_n 2, 1) := by decide +kernel
theorem dL_weightOf_1 : decode cL_weightOf 1 = .ok (.iconst 0, 1) := by decide +kernel
theorem dL_weightOf_2 : decode cL_weightOf 2 = .ok (.aload_n 0, 1) := by decide +kernel
theorem dL_weightOf_3 : decode cL_weightOf 3 = .ok (.iload_n 1, 1) := by decide +kernel
theorem dL_weightOf_4 : decode cL_weightOf 4 = .ok (.invokevirtual 44, 3) := by decide +kernel
theorem dL_weightOf_7 : decode cL_weightOf 7 = .ok (.i2l, 1) := by decide +kernel
theorem dL_weightOf_8 : decode cL_weightOf 8 = .ok (.lastore, 1) := by decide +kernel
theorem dL_weightOf_9 : decode cL_weightOf 9 = .ok (.goto 6, 3) := by decide +kernel
theorem dL_weightOf_12 : decode cL_weightOf 12 = .ok (.astore_n 3, 1) := by decide +kernel
theorem dL_weightOf_13 : decode cL_weightOf 13 = .ok (.iconst 1, 1) := by decide +kernel
theorem dL_weightOf_14 : decode cL_weightOf 14 = .ok (.ireturn, 1) := by decide +kernel
theorem dL_weightOf_15 : decode cL_weightOf 15 = .ok (.iconst 0, 1) := by decide +kernel
theorem dL_weightOf_16 : decode cL_weightOf 16 = .ok (.ireturn, 1) := by decide +kernel
theorem dL_smellOf_0 : decode cL_smellOf 0 = .ok (.aload_n 2, 1) := by decide +kernel
theorem dL_smellOf_1 : decode cL_smellOf 1 = .ok (.iconst 0, 1) := by decide +kernel
theorem dL_smellOf_2 : decode cL_smellOf 2 = .ok (.aload_n 0, 1) := by decide +kernel
theorem dL_smellOf_3 : decode cL_smellOf 3 = .ok (.iload_n 1, 1) := by decide +kernel
theorem dL_smellOf_4 : decode cL_smellOf 4 = .ok (.invokevirtual 47, 3) := by decide +kernel
theorem dL_smellOf_7 : decode cL_smellOf 7 = .ok (.i2l, 1) := by decide +kernel
theorem dL_smellOf_8 : decode cL_smellOf 8 = .ok (.lastore, 1) := by decide +kernel
theorem dL_smellOf_9 : decode cL_smellOf 9 = .ok (.goto 6, 3) := by decide +kernel
theorem dL_smellOf_12 : decode cL_smellOf 12 = .ok (.astore_n 3, 1) := by decide +kernel
theorem dL_smellOf_13 : decode cL_smellOf 13 = .ok (.iconst 1, 1) := by decide +kernel
theorem dL_smellOf_14 : decode cL_smellOf 14 = .ok (.ireturn, 1) := by decide +kernel
theorem dL_smellOf_15 : decode cL_smellOf 15 = .ok (.iconst 0, 1) := by decide +kernel
theorem dL_smellOf_16 : decode cL_smellOf 16 = .ok (.ireturn, 1) := by decide +kernel
theorem dL_spotOf_0 : decode cL_spotOf 0 = .ok (.aload_n 2, 1) := by decide +kernel
theorem dL_spotOf_1 : decode cL_spotOf 1 = .ok (.iconst 0, 1) := by decide +kernel
theorem dL_spotOf_2 : decode cL_spotOf 2 = .ok (.aload_n 0, 1) := by decide +kernel
theorem dL_spotOf_3 : decode cL_spotOf 3 = .ok (.iload_n 1, 1) := by decide +kernel
theorem dL_spotOf_4 : decode cL_spotOf 4 = .ok (.invokevirtual 50, 3) := by decide +kernel
theorem dL_spotOf_7 : decode cL_spotOf 7 = .ok (.i2l, 1) := by decide +kernel
theorem dL_spotOf_8 : decode cL_spotOf 8 = .ok (.lastore, 1) := by decide +kernel
theorem dL_spotOf_9 : decode cL_spotOf 9 = .ok (.goto 6, 3) := by decide +kernel
theorem dL_spotOf_12 : decode cL_spotOf 12 = .ok (.astore_n 3, 1) := by decide +kernel
theorem dL_spotOf_13 : decode cL_spotOf 13 = .ok (.iconst 1, 1) := by decide +kernel
theorem dL_spotOf_14 : decode cL_spotOf 14 = .ok (.ireturn, 1) := by decide +kernel
theorem dL_spotOf_15 : decode cL_spotOf 15 = .ok (.iconst 0, 1) := by decide +kernel
theorem dL_spotOf_16 : decode cL_spotOf 16 = .ok (.ireturn, 1) := by decide +kernel
theorem dL_woodenOf_0 : decode cL_woodenOf 0 = .ok (.aload_n 2, 1) := by decide +kernel
theorem dL_woodenOf_1 : decode cL_woodenOf 1 = .ok (.iconst 0, 1) := by decide +kernel
theorem dL_woodenOf_2 : decode cL_woodenOf 2 = .ok (.aload_n 0, 1) := by decide +kernel
theorem dL_woodenOf_3 : decode cL_woodenOf 3 = .ok (.iload_n 1, 1) := by decide +kernel
theorem dL_woodenOf_4 : decode cL_woodenOf 4 = .ok (.invokevirtual 53, 3) := by decide +kernel
theorem dL_woodenOf_7 : decode cL_woodenOf 7 = .ok (.i2l, 1) := by decide +kernel
theorem dL_woodenOf_8 : decode cL_woodenOf 8 = .ok (.lastore, 1) := by decide +kernel
theorem dL_woodenOf_9 : decode cL_woodenOf 9 = .ok (.goto 6, 3) := by decide +kernel
theorem dL_woodenOf_12 : decode cL_woodenOf 12 = .ok (.astore_n 3, 1) := by decide +kernel
theorem dL_woodenOf_13 : decode cL_woodenOf 13 = .ok (.iconst 1, 1) := by decide +kernel
theorem dL_woodenOf_14 : decode cL_woodenOf 14 = .ok (.ireturn, 1) := by decide +kernel
theorem dL_woodenOf_15 : decode cL_woodenOf 15 = .ok (.iconst 0, 1) := by decide +kernel
theorem dL_woodenOf_16 : decode cL_woodenOf 16 = .ok (.ireturn, 1) := by decide +kernel
theorem dL_steelOf_0 : decode cL_steelOf 0 = .ok (.aload_n 2, 1) := by decide +kernel
theorem dL_steelOf_1 : decode cL_steelOf 1 = .ok (.iconst 0, 1) := by decide +kernel
theorem dL_steelOf_2 : decode cL_steelOf 2 = .ok (.aload_n 0, 1) := by decide +kernel
theorem dL_steelOf_3 : decode cL_steelOf 3 = .ok (.iload_n 1, 1) := by decide +kernel
theorem dL_steelOf_4 : decode cL_steelOf 4 = .ok (.invokevirtual 56, 3) := by decide +kernel
theorem dL_steelOf_7 : decode cL_steelOf 7 = .ok (.i2l, 1) := by decide +kernel
theorem dL_steelOf_8 : decode cL_steelOf 8 = .ok (.lastore, 1) := by decide +kernel
theorem dL_steelOf_9 : decode cL_steelOf 9 = .ok (.goto 6, 3) := by decide +kernel
theorem dL_steelOf_12 : decode cL_steelOf 12 = .ok (.astore_n 3, 1) := by decide +kernel
theorem dL_steelOf_13 : decode cL_steelOf 13 = .ok (.iconst 1, 1) := by decide +kernel
theorem dL_steelOf_14 : decode cL_steelOf 14 = .ok (.ireturn, 1) := by decide +kernel
theorem dL_steelOf_15 : decode cL_steelOf 15 = .ok (.iconst 0, 1) := by decide +kernel
theorem dL_steelOf_16 : decode cL_steelOf 16 = .ok (.ireturn, 1) := by decide +kernel
theorem dL_holdOf_0 : decode cL_holdOf 0 = .ok (.aload_n 2, 1) := by decide +kernel
theorem dL_holdOf_1 : decode cL_holdOf 1 = .ok (.iconst 0, 1) := by decide +kernel
theorem dL_holdOf_2 : decode cL_holdOf 2 = .ok (.aload_n 0, 1) := by decide +kernel
theorem dL_holdOf_3 : decode cL_holdOf 3 = .ok (.iload_n 1, 1) := by decide +kernel
theorem dL_holdOf_4 : decode cL_holdOf 4 = .ok (.invokevirtual 59, 3) := by decide +kernel
theorem dL_holdOf_7 : decode cL_holdOf 7 = .ok (.i2l, 1) := by decide +kernel
theorem dL_holdOf_8 : decode cL_holdOf 8 = .ok (.lastore, 1) := by decide +kernel
theorem dL_holdOf_9 : decode cL_holdOf 9 = .ok (.goto 6, 3) := by decide +kernel
theorem dL_holdOf_12 : decode cL_holdOf 12 = .ok (.astore_n 3, 1) := by decide +kernel
theorem dL_holdOf_13 : decode cL_holdOf 13 = .ok (.iconst 1, 1) := by decide +kernel
theorem dL_holdOf_14 : decode cL_holdOf 14 = .ok (.ireturn, 1) := by decide +kernel
theorem dL_holdOf_15 : decode cL_holdOf 15 = .ok (.iconst 0, 1) := by decide +kernel
theorem dL_holdOf_16 : decode cL_holdOf 16 = .ok (.ireturn, 1) := by decide +kernel
theorem dL_fallsOf_0 : decode cL_fallsOf 0 = .ok (.aload_n 2, 1) := by decide +kernel
theorem dL_fallsOf_1 : decode cL_fallsOf 1 = .ok (.iconst 0, 1) := by decide +kernel
theorem dL_fallsOf_2 : decode cL_fallsOf 2 = .ok (.aload_n 0, 1) := by decide +kernel
theorem dL_fallsOf_3 : decode cL_fallsOf 3 = .ok (.iload_n 1, 1) := by decide +kernel
theorem dL_fallsOf_4 : decode cL_fallsOf 4 = .ok (.invokevirtual 62, 3) := by decide +kernel
theorem dL_fallsOf_7 : decode cL_fallsOf 7 = .ok (.i2l, 1) := by decide +kernel
theorem dL_fallsOf_8 : decode cL_fallsOf 8 = .ok (.lastore, 1) := by decide +kernel
theorem dL_fallsOf_9 : decode cL_fallsOf 9 = .ok (.goto 6, 3) := by decide +kernel
theorem dL_fallsOf_12 : decode cL_fallsOf 12 = .ok (.astore_n 3, 1) := by decide +kernel
theorem dL_fallsOf_13 : decode cL_fallsOf 13 = .ok (.iconst 1, 1) := by decide +kernel
theorem dL_fallsOf_14 : decode cL_fallsOf 14 = .ok (.ireturn, 1) := by decide +kernel
theorem dL_fallsOf_15 : decode cL_fallsOf 15 = .ok (.iconst 0, 1) := by decide +kernel
theorem dL_fallsOf_16 : decode cL_fallsOf 16 = .ok (.ireturn, 1) := by decide +kernel
theorem dL_isDirty_0 : decode cL_isDirty 0 = .ok (.aload_n 2, 1) := by decide +kernel
theorem dL_isDirty_1 : decode cL_isDirty 1 = .ok (.iconst 0, 1) := by decide +kernel
theorem dL_isDirty_2 : decode cL_isDirty 2 = .ok (.aload_n 0, 1) := by decide +kernel
theorem dL_isDirty_3 : decode cL_isDirty 3 = .ok (.iload_n 1, 1) := by decide +kernel
theorem dL_isDirty_4 : decode cL_isDirty 4 = .ok (.invokevirtual 65, 3) := by decide +kernel
theorem dL_isDirty_7 : decode cL_isDirty 7 = .ok (.ifCond .eq 7, 3) := by decide +kernel
theorem dL_isDirty_10 : decode cL_isDirty 10 = .ok (.lconst 1, 1) := by decide +kernel
theorem dL_isDirty_11 : decode cL_isDirty 11 = .ok (.goto 4, 3) := by decide +kernel
theorem dL_isDirty_14 : decode cL_isDirty 14 = .ok (.lconst 0, 1) := by decide +kernel
theorem dL_isDirty_15 : decode cL_isDirty 15 = .ok (.lastore, 1) := by decide +kernel
theorem dL_isDirty_16 : decode cL_isDirty 16 = .ok (.goto 6, 3) := by decide +kernel
theorem dL_isDirty_19 : decode cL_isDirty 19 = .ok (.astore_n 3, 1) := by decide +kernel
theorem dL_isDirty_20 : decode cL_isDirty 20 = .ok (.iconst 1, 1) := by decide +kernel
theorem dL_isDirty_21 : decode cL_isDirty 21 = .ok (.ireturn, 1) := by decide +kernel
theorem dL_isDirty_22 : decode cL_isDirty 22 = .ok (.iconst 0, 1) := by decide +kernel
theorem dL_isDirty_23 : decode cL_isDirty 23 = .ok (.ireturn, 1) := by decide +kernel
theorem dL_garmentsIn_0 : decode cL_garmentsIn 0 = .ok (.aload_n 2, 1) := by decide +kernel
theorem dL_garmentsIn_1 : decode cL_garmentsIn 1 = .ok (.iconst 0, 1) := by decide +kernel
theorem dL_garmentsIn_2 : decode cL_garmentsIn 2 = .ok (.aload_n 0, 1) := by decide +kernel
theorem dL_garmentsIn_3 : decode cL_garmentsIn 3 = .ok (.iload_n 1, 1) := by decide +kernel
theorem dL_garmentsIn_4 : decode cL_garmentsIn 4 = .ok (.invokevirtual 69, 3) := by decide +kernel
theorem dL_garmentsIn_7 : decode cL_garmentsIn 7 = .ok (.i2l, 1) := by decide +kernel
theorem dL_garmentsIn_8 : decode cL_garmentsIn 8 = .ok (.lastore, 1) := by decide +kernel
theorem dL_garmentsIn_9 : decode cL_garmentsIn 9 = .ok (.goto 6, 3) := by decide +kernel
theorem dL_garmentsIn_12 : decode cL_garmentsIn 12 = .ok (.astore_n 3, 1) := by decide +kernel
theorem dL_garmentsIn_13 : decode cL_garmentsIn 13 = .ok (.iconst 1, 1) := by decide +kernel
theorem dL_garmentsIn_14 : decode cL_garmentsIn 14 = .ok (.ireturn, 1) := by decide +kernel
theorem dL_garmentsIn_15 : decode cL_garmentsIn 15 = .ok (.iconst 0, 1) := by decide +kernel
theorem dL_garmentsIn_16 : decode cL_garmentsIn 16 = .ok (.ireturn, 1) := by decide +kernel
theorem dL_hangObstacle_0 : decode cL_hangObstacle 0 = .ok (.aload 5, 2) := by decide +kernel
theorem dL_hangObstacle_2 : decode cL_hangObstacle 2 = .ok (.iconst 0, 1) := by decide +kernel
theorem dL_hangObstacle_3 : decode cL_hangObstacle 3 = .ok (.aload_n 0, 1) := by decide +kernel
theorem dL_hangObstacle_4 : decode cL_hangObstacle 4 = .ok (.iload_n 1, 1) := by decide +kernel
theorem dL_hangObstacle_5 : decode cL_hangObstacle 5 = .ok (.iload_n 2, 1) := by decide +kernel
theorem dL_hangObstacle_6 : decode cL_hangObstacle 6 = .ok (.iload_n 3, 1) := by decide +kernel
theorem dL_hangObstacle_7 : decode cL_hangObstacle 7 = .ok (.iload 4, 2) := by decide +kernel
theorem dL_hangObstacle_9 : decode cL_hangObstacle 9 = .ok (.invokevirtual 72, 3) := by decide +kernel
theorem dL_hangObstacle_12 : decode cL_hangObstacle 12 = .ok (.i2l, 1) := by decide +kernel
theorem dL_hangObstacle_13 : decode cL_hangObstacle 13 = .ok (.lastore, 1) := by decide +kernel
theorem dL_hangObstacle_14 : decode cL_hangObstacle 14 = .ok (.goto 11, 3) := by decide +kernel
theorem dL_hangObstacle_17 : decode cL_hangObstacle 17 = .ok (.astore 6, 2) := by decide +kernel
theorem dL_hangObstacle_19 : decode cL_hangObstacle 19 = .ok (.iconst 1, 1) := by decide +kernel
theorem dL_hangObstacle_20 : decode cL_hangObstacle 20 = .ok (.ireturn, 1) := by decide +kernel
theorem dL_hangObstacle_21 : decode cL_hangObstacle 21 = .ok (.astore 6, 2) := by decide +kernel
theorem dL_hangObstacle_23 : decode cL_hangObstacle 23 = .ok (.iconst 2, 1) := by decide +kernel
theorem dL_hangObstacle_24 : decode cL_hangObstacle 24 = .ok (.ireturn, 1) := by decide +kernel
theorem dL_hangObstacle_25 : decode cL_hangObstacle 25 = .ok (.iconst 0, 1) := by decide +kernel
theorem dL_hangObstacle_26 : decode cL_hangObstacle 26 = .ok (.ireturn, 1) := by decide +kernel
theorem dL_fewestPegs_0 : decode cL_fewestPegs 0 = .ok (.aload_n 2, 1) := by decide +kernel
theorem dL_fewestPegs_1 : decode cL_fewestPegs 1 = .ok (.iconst 0, 1) := by decide +kernel
theorem dL_fewestPegs_2 : decode cL_fewestPegs 2 = .ok (.aload_n 0, 1) := by decide +kernel
theorem dL_fewestPegs_3 : decode cL_fewestPegs 3 = .ok (.iload_n 1, 1) := by decide +kernel
theorem dL_fewestPegs_4 : decode cL_fewestPegs 4 = .ok (.invokevirtual 76, 3) := by decide +kernel
theorem dL_fewestPegs_7 : decode cL_fewestPegs 7 = .ok (.i2l, 1) := by decide +kernel
theorem dL_fewestPegs_8 : decode cL_fewestPegs 8 = .ok (.lastore, 1) := by decide +kernel
theorem dL_fewestPegs_9 : decode cL_fewestPegs 9 = .ok (.goto 6, 3) := by decide +kernel
theorem dL_fewestPegs_12 : decode cL_fewestPegs 12 = .ok (.astore_n 3, 1) := by decide +kernel
theorem dL_fewestPegs_13 : decode cL_fewestPegs 13 = .ok (.iconst 1, 1) := by decide +kernel
theorem dL_fewestPegs_14 : decode cL_fewestPegs 14 = .ok (.ireturn, 1) := by decide +kernel
theorem dL_fewestPegs_15 : decode cL_fewestPegs 15 = .ok (.iconst 0, 1) := by decide +kernel
theorem dL_fewestPegs_16 : decode cL_fewestPegs 16 = .ok (.ireturn, 1) := by decide +kernel
theorem dL_waterAfter_0 : decode cL_waterAfter 0 = .ok (.aload_n 3, 1) := by decide +kernel
theorem dL_waterAfter_1 : decode cL_waterAfter 1 = .ok (.iconst 0, 1) := by decide +kernel
theorem dL_waterAfter_2 : decode cL_waterAfter 2 = .ok (.aload_n 0, 1) := by decide +kernel
theorem dL_waterAfter_3 : decode cL_waterAfter 3 = .ok (.iload_n 1, 1) := by decide +kernel
theorem dL_waterAfter_4 : decode cL_waterAfter 4 = .ok (.iload_n 2, 1) := by decide +kernel
theorem dL_waterAfter_5 : decode cL_waterAfter 5 = .ok (.invokevirtual 79, 3) := by decide +kernel
theorem dL_waterAfter_8 : decode cL_waterAfter 8 = .ok (.i2l, 1) := by decide +kernel
theorem dL_waterAfter_9 : decode cL_waterAfter 9 = .ok (.lastore, 1) := by decide +kernel
theorem dL_waterAfter_10 : decode cL_waterAfter 10 = .ok (.goto 11, 3) := by decide +kernel
theorem dL_waterAfter_13 : decode cL_waterAfter 13 = .ok (.astore 4, 2) := by decide +kernel
theorem dL_waterAfter_15 : decode cL_waterAfter 15 = .ok (.iconst 1, 1) := by decide +kernel
theorem dL_waterAfter_16 : decode cL_waterAfter 16 = .ok (.ireturn, 1) := by decide +kernel
theorem dL_waterAfter_17 : decode cL_waterAfter 17 = .ok (.astore 4, 2) := by decide +kernel
theorem dL_waterAfter_19 : decode cL_waterAfter 19 = .ok (.iconst 2, 1) := by decide +kernel
theorem dL_waterAfter_20 : decode cL_waterAfter 20 = .ok (.ireturn, 1) := by decide +kernel
theorem dL_waterAfter_21 : decode cL_waterAfter 21 = .ok (.iconst 0, 1) := by decide +kernel
theorem dL_waterAfter_22 : decode cL_waterAfter 22 = .ok (.ireturn, 1) := by decide +kernel
theorem dL_minutesToDry_0 : decode cL_minutesToDry 0 = .ok (.aload_n 2, 1) := by decide +kernel
theorem dL_minutesToDry_1 : decode cL_minutesToDry 1 = .ok (.iconst 0, 1) := by decide +kernel
theorem dL_minutesToDry_2 : decode cL_minutesToDry 2 = .ok (.aload_n 0, 1) := by decide +kernel
theorem dL_minutesToDry_3 : decode cL_minutesToDry 3 = .ok (.iload_n 1, 1) := by decide +kernel
theorem dL_minutesToDry_4 : decode cL_minutesToDry 4 = .ok (.invokevirtual 83, 3) := by decide +kernel
theorem dL_minutesToDry_7 : decode cL_minutesToDry 7 = .ok (.i2l, 1) := by decide +kernel
theorem dL_minutesToDry_8 : decode cL_minutesToDry 8 = .ok (.lastore, 1) := by decide +kernel
theorem dL_minutesToDry_9 : decode cL_minutesToDry 9 = .ok (.goto 6, 3) := by decide +kernel
theorem dL_minutesToDry_12 : decode cL_minutesToDry 12 = .ok (.astore_n 3, 1) := by decide +kernel
theorem dL_minutesToDry_13 : decode cL_minutesToDry 13 = .ok (.iconst 1, 1) := by decide +kernel
theorem dL_minutesToDry_14 : decode cL_minutesToDry 14 = .ok (.ireturn, 1) := by decide +kernel
theorem dL_minutesToDry_15 : decode cL_minutesToDry 15 = .ok (.iconst 0, 1) := by decide +kernel
theorem dL_minutesToDry_16 : decode cL_minutesToDry 16 = .ok (.ireturn, 1) := by decide +kernel
theorem dL_minutesToFall_0 : decode cL_minutesToFall 0 = .ok (.aload_n 2, 1) := by decide +kernel
theorem dL_minutesToFall_1 : decode cL_minutesToFall 1 = .ok (.iconst 0, 1) := by decide +kernel
theorem dL_minutesToFall_2 : decode cL_minutesToFall 2 = .ok (.aload_n 0, 1) := by decide +kernel
theorem dL_minutesToFall_3 : decode cL_minutesToFall 3 = .ok (.iload_n 1, 1) := by decide +kernel
theorem dL_minutesToFall_4 : decode cL_minutesToFall 4 = .ok (.invokevirtual 86, 3) := by decide +kernel
theorem dL_minutesToFall_7 : decode cL_minutesToFall 7 = .ok (.i2l, 1) := by decide +kernel
theorem dL_minutesToFall_8 : decode cL_minutesToFall 8 = .ok (.lastore, 1) := by decide +kernel
theorem dL_minutesToFall_9 : decode cL_minutesToFall 9 = .ok (.goto 6, 3) := by decide +kernel
theorem dL_minutesToFall_12 : decode cL_minutesToFall 12 = .ok (.astore_n 3, 1) := by decide +kernel
theorem dL_minutesToFall_13 : decode cL_minutesToFall 13 = .ok (.iconst 1, 1) := by decide +kernel
theorem dL_minutesToFall_14 : decode cL_minutesToFall 14 = .ok (.ireturn, 1) := by decide +kernel
theorem dL_minutesToFall_15 : decode cL_minutesToFall 15 = .ok (.iconst 0, 1) := by decide +kernel
theorem dL_minutesToFall_16 : decode cL_minutesToFall 16 = .ok (.ireturn, 1) := by decide +kernel
theorem dL_bestSpot_0 : decode cL_bestSpot 0 = .ok (.aload_n 2, 1) := by decide +kernel
theorem dL_bestSpot_1 : decode cL_bestSpot 1 = .ok (.iconst 0, 1) := by decide +kernel
theorem dL_bestSpot_2 : decode cL_bestSpot 2 = .ok (.aload_n 0, 1) := by decide +kernel
theorem dL_bestSpot_3 : decode cL_bestSpot 3 = .ok (.iload_n 1, 1) := by decide +kernel
theorem dL_bestSpot_4 : decode cL_bestSpot 4 = .ok (.invokevirtual 89, 3) := by decide +kernel
theorem dL_bestSpot_7 : decode cL_bestSpot 7 = .ok (.i2l, 1) := by decide +kernel
theorem dL_bestSpot_8 : decode cL_bestSpot 8 = .ok (.lastore, 1) := by decide +kernel
theorem dL_bestSpot_9 : decode cL_bestSpot 9 = .ok (.goto 6, 3) := by decide +kernel
theorem dL_bestSpot_12 : decode cL_bestSpot 12 = .ok (.astore_n 3, 1) := by decide +kernel
theorem dL_bestSpot_13 : decode cL_bestSpot 13 = .ok (.iconst 1, 1) := by decide +kernel
theorem dL_bestSpot_14 : decode cL_bestSpot 14 = .ok (.ireturn, 1) := by decide +kernel
theorem dL_bestSpot_15 : decode cL_bestSpot 15 = .ok (.iconst 0, 1) := by decide +kernel
theorem dL_bestSpot_16 : decode cL_bestSpot 16 = .ok (.ireturn, 1) := by decide +kernel
theorem dL_addGarment_0 : decode cL_addGarment 0 = .ok (.aload 5, 2) := by decide +kernel
theorem dL_addGarment_2 : decode cL_addGarment 2 = .ok (.iconst 0, 1) := by decide +kernel
theorem dL_addGarment_3 : decode cL_addGarment 3 = .ok (.aload_n 0, 1) := by decide +kernel
theorem dL_addGarment_4 : decode cL_addGarment 4 = .ok (.iload_n 1, 1) := by decide +kernel
theorem dL_addGarment_5 : decode cL_addGarment 5 = .ok (.iload_n 2, 1) := by decide +kernel
theorem dL_addGarment_6 : decode cL_addGarment 6 = .ok (.iload_n 3, 1) := by decide +kernel
theorem dL_addGarment_7 : decode cL_addGarment 7 = .ok (.iload 4, 2) := by decide +kernel
theorem dL_addGarment_9 : decode cL_addGarment 9 = .ok (.invokevirtual 92, 3) := by decide +kernel
theorem dL_addGarment_12 : decode cL_addGarment 12 = .ok (.i2l, 1) := by decide +kernel
theorem dL_addGarment_13 : decode cL_addGarment 13 = .ok (.lastore, 1) := by decide +kernel
theorem dL_addGarment_14 : decode cL_addGarment 14 = .ok (.goto 11, 3) := by decide +kernel
theorem dL_addGarment_17 : decode cL_addGarment 17 = .ok (.astore 6, 2) := by decide +kernel
theorem dL_addGarment_19 : decode cL_addGarment 19 = .ok (.iconst 1, 1) := by decide +kernel
theorem dL_addGarment_20 : decode cL_addGarment 20 = .ok (.ireturn, 1) := by decide +kernel
theorem dL_addGarment_21 : decode cL_addGarment 21 = .ok (.astore 6, 2) := by decide +kernel
theorem dL_addGarment_23 : decode cL_addGarment 23 = .ok (.iconst 2, 1) := by decide +kernel
theorem dL_addGarment_24 : decode cL_addGarment 24 = .ok (.ireturn, 1) := by decide +kernel
theorem dL_addGarment_25 : decode cL_addGarment 25 = .ok (.iconst 0, 1) := by decide +kernel
theorem dL_addGarment_26 : decode cL_addGarment 26 = .ok (.ireturn, 1) := by decide +kernel
theorem dL_hang_0 : decode cL_hang 0 = .ok (.aload 5, 2) := by decide +kernel
theorem dL_hang_2 : decode cL_hang 2 = .ok (.iconst 0, 1) := by decide +kernel
theorem dL_hang_3 : decode cL_hang 3 = .ok (.aload_n 0, 1) := by decide +kernel
theorem dL_hang_4 : decode cL_hang 4 = .ok (.iload_n 1, 1) := by decide +kernel
theorem dL_hang_5 : decode cL_hang 5 = .ok (.iload_n 2, 1) := by decide +kernel
theorem dL_hang_6 : decode cL_hang 6 = .ok (.iload_n 3, 1) := by decide +kernel
theorem dL_hang_7 : decode cL_hang 7 = .ok (.iload 4, 2) := by decide +kernel
theorem dL_hang_9 : decode cL_hang 9 = .ok (.invokevirtual 97, 3) := by decide +kernel
theorem dL_hang_12 : decode cL_hang 12 = .ok (.i2l, 1) := by decide +kernel
theorem dL_hang_13 : decode cL_hang 13 = .ok (.lastore, 1) := by decide +kernel
theorem dL_hang_14 : decode cL_hang 14 = .ok (.goto 15, 3) := by decide +kernel
theorem dL_hang_17 : decode cL_hang 17 = .ok (.astore 6, 2) := by decide +kernel
theorem dL_hang_19 : decode cL_hang 19 = .ok (.iconst 1, 1) := by decide +kernel
theorem dL_hang_20 : decode cL_hang 20 = .ok (.ireturn, 1) := by decide +kernel
theorem dL_hang_21 : decode cL_hang 21 = .ok (.astore 6, 2) := by decide +kernel
theorem dL_hang_23 : decode cL_hang 23 = .ok (.iconst 2, 1) := by decide +kernel
theorem dL_hang_24 : decode cL_hang 24 = .ok (.ireturn, 1) := by decide +kernel
theorem dL_hang_25 : decode cL_hang 25 = .ok (.astore 6, 2) := by decide +kernel
theorem dL_hang_27 : decode cL_hang 27 = .ok (.iconst 3, 1) := by decide +kernel
theorem dL_hang_28 : decode cL_hang 28 = .ok (.ireturn, 1) := by decide +kernel
theorem dL_hang_29 : decode cL_hang 29 = .ok (.iconst 0, 1) := by decide +kernel
theorem dL_hang_30 : decode cL_hang 30 = .ok (.ireturn, 1) := by decide +kernel
theorem dL_takeDown_0 : decode cL_takeDown 0 = .ok (.aload_n 2, 1) := by decide +kernel
theorem dL_takeDown_1 : decode cL_takeDown 1 = .ok (.iconst 0, 1) := by decide +kernel
theorem dL_takeDown_2 : decode cL_takeDown 2 = .ok (.aload_n 0, 1) := by decide +kernel
theorem dL_takeDown_3 : decode cL_takeDown 3 = .ok (.iload_n 1, 1) := by decide +kernel
theorem dL_takeDown_4 : decode cL_takeDown 4 = .ok (.invokevirtual 100, 3) := by decide +kernel
theorem dL_takeDown_7 : decode cL_takeDown 7 = .ok (.i2l, 1) := by decide +kernel
theorem dL_takeDown_8 : decode cL_takeDown 8 = .ok (.lastore, 1) := by decide +kernel
theorem dL_takeDown_9 : decode cL_takeDown 9 = .ok (.goto 9, 3) := by decide +kernel
theorem dL_takeDown_12 : decode cL_takeDown 12 = .ok (.astore_n 3, 1) := by decide +kernel
theorem dL_takeDown_13 : decode cL_takeDown 13 = .ok (.iconst 1, 1) := by decide +kernel
theorem dL_takeDown_14 : decode cL_takeDown 14 = .ok (.ireturn, 1) := by decide +kernel
theorem dL_takeDown_15 : decode cL_takeDown 15 = .ok (.astore_n 3, 1) := by decide +kernel
theorem dL_takeDown_16 : decode cL_takeDown 16 = .ok (.iconst 2, 1) := by decide +kernel
theorem dL_takeDown_17 : decode cL_takeDown 17 = .ok (.ireturn, 1) := by decide +kernel
theorem dL_takeDown_18 : decode cL_takeDown 18 = .ok (.iconst 0, 1) := by decide +kernel
theorem dL_takeDown_19 : decode cL_takeDown 19 = .ok (.ireturn, 1) := by decide +kernel
theorem dL_pickUp_0 : decode cL_pickUp 0 = .ok (.aload_n 2, 1) := by decide +kernel
theorem dL_pickUp_1 : decode cL_pickUp 1 = .ok (.iconst 0, 1) := by decide +kernel
theorem dL_pickUp_2 : decode cL_pickUp 2 = .ok (.aload_n 0, 1) := by decide +kernel
theorem dL_pickUp_3 : decode cL_pickUp 3 = .ok (.iload_n 1, 1) := by decide +kernel
theorem dL_pickUp_4 : decode cL_pickUp 4 = .ok (.invokevirtual 103, 3) := by decide +kernel
theorem dL_pickUp_7 : decode cL_pickUp 7 = .ok (.i2l, 1) := by decide +kernel
theorem dL_pickUp_8 : decode cL_pickUp 8 = .ok (.lastore, 1) := by decide +kernel
theorem dL_pickUp_9 : decode cL_pickUp 9 = .ok (.goto 9, 3) := by decide +kernel
theorem dL_pickUp_12 : decode cL_pickUp 12 = .ok (.astore_n 3, 1) := by decide +kernel
theorem dL_pickUp_13 : decode cL_pickUp 13 = .ok (.iconst 1, 1) := by decide +kernel
theorem dL_pickUp_14 : decode cL_pickUp 14 = .ok (.ireturn, 1) := by decide +kernel
theorem dL_pickUp_15 : decode cL_pickUp 15 = .ok (.astore_n 3, 1) := by decide +kernel
theorem dL_pickUp_16 : decode cL_pickUp 16 = .ok (.iconst 2, 1) := by decide +kernel
theorem dL_pickUp_17 : decode cL_pickUp 17 = .ok (.ireturn, 1) := by decide +kernel
theorem dL_pickUp_18 : decode cL_pickUp 18 = .ok (.iconst 0, 1) := by decide +kernel
theorem dL_pickUp_19 : decode cL_pickUp 19 = .ok (.ireturn, 1) := by decide +kernel
theorem dL_wash_0 : decode cL_wash 0 = .ok (.aload_n 2, 1) := by decide +kernel
theorem dL_wash_1 : decode cL_wash 1 = .ok (.iconst 0, 1) := by decide +kernel
theorem dL_wash_2 : decode cL_wash 2 = .ok (.aload_n 0, 1) := by decide +kernel
theorem dL_wash_3 : decode cL_wash 3 = .ok (.iload_n 1, 1) := by decide +kernel
theorem dL_wash_4 : decode cL_wash 4 = .ok (.invokevirtual 106, 3) := by decide +kernel
theorem dL_wash_7 : decode cL_wash 7 = .ok (.i2l, 1) := by decide +kernel
theorem dL_wash_8 : decode cL_wash 8 = .ok (.lastore, 1) := by decide +kernel
theorem dL_wash_9 : decode cL_wash 9 = .ok (.goto 9, 3) := by decide +kernel
theorem dL_wash_12 : decode cL_wash 12 = .ok (.astore_n 3, 1) := by decide +kernel
theorem dL_wash_13 : decode cL_wash 13 = .ok (.iconst 1, 1) := by decide +kernel
theorem dL_wash_14 : decode cL_wash 14 = .ok (.ireturn, 1) := by decide +kernel
theorem dL_wash_15 : decode cL_wash 15 = .ok (.astore_n 3, 1) := by decide +kernel
theorem dL_wash_16 : decode cL_wash 16 = .ok (.iconst 2, 1) := by decide +kernel
theorem dL_wash_17 : decode cL_wash 17 = .ok (.ireturn, 1) := by decide +kernel
theorem dL_wash_18 : decode cL_wash 18 = .ok (.iconst 0, 1) := by decide +kernel
theorem dL_wash_19 : decode cL_wash 19 = .ok (.ireturn, 1) := by decide +kernel
theorem dL_shift_0 : decode cL_shift 0 = .ok (.aload_n 3, 1) := by decide +kernel
theorem dL_shift_1 : decode cL_shift 1 = .ok (.iconst 0, 1) := by decide +kernel
theorem dL_shift_2 : decode cL_shift 2 = .ok (.aload_n 0, 1) := by decide +kernel
theorem dL_shift_3 : decode cL_shift 3 = .ok (.iload_n 1, 1) := by decide +kernel
theorem dL_shift_4 : decode cL_shift 4 = .ok (.iload_n 2, 1) := by decide +kernel
theorem dL_shift_5 : decode cL_shift 5 = .ok (.invokevirtual 109, 3) := by decide +kernel
theorem dL_shift_8 : decode cL_shift 8 = .ok (.i2l, 1) := by decide +kernel
theorem dL_shift_9 : decode cL_shift 9 = .ok (.lastore, 1) := by decide +kernel
theorem dL_shift_10 : decode cL_shift 10 = .ok (.goto 15, 3) := by decide +kernel
theorem dL_shift_13 : decode cL_shift 13 = .ok (.astore 4, 2) := by decide +kernel
theorem dL_shift_15 : decode cL_shift 15 = .ok (.iconst 1, 1) := by decide +kernel
theorem dL_shift_16 : decode cL_shift 16 = .ok (.ireturn, 1) := by decide +kernel
theorem dL_shift_17 : decode cL_shift 17 = .ok (.astore 4, 2) := by decide +kernel
theorem dL_shift_19 : decode cL_shift 19 = .ok (.iconst 2, 1) := by decide +kernel
theorem dL_shift_20 : decode cL_shift 20 = .ok (.ireturn, 1) := by decide +kernel
theorem dL_shift_21 : decode cL_shift 21 = .ok (.astore 4, 2) := by decide +kernel
theorem dL_shift_23 : decode cL_shift 23 = .ok (.iconst 3, 1) := by decide +kernel
theorem dL_shift_24 : decode cL_shift 24 = .ok (.ireturn, 1) := by decide +kernel
theorem dL_shift_25 : decode cL_shift 25 = .ok (.iconst 0, 1) := by decide +kernel
theorem dL_shift_26 : decode cL_shift 26 = .ok (.ireturn, 1) := by decide +kernel
theorem dL_addShower_0 : decode cL_addShower 0 = .ok (.aload 4, 2) := by decide +kernel
theorem dL_addShower_2 : decode cL_addShower 2 = .ok (.iconst 0, 1) := by decide +kernel
theorem dL_addShower_3 : decode cL_addShower 3 = .ok (.aload_n 0, 1) := by decide +kernel
theorem dL_addShower_4 : decode cL_addShower 4 = .ok (.iload_n 1, 1) := by decide +kernel
theorem dL_addShower_5 : decode cL_addShower 5 = .ok (.iload_n 2, 1) := by decide +kernel
theorem dL_addShower_6 : decode cL_addShower 6 = .ok (.iload_n 3, 1) := by decide +kernel
theorem dL_addShower_7 : decode cL_addShower 7 = .ok (.invokevirtual 112, 3) := by decide +kernel
theorem dL_addShower_10 : decode cL_addShower 10 = .ok (.i2l, 1) := by decide +kernel
theorem dL_addShower_11 : decode cL_addShower 11 = .ok (.lastore, 1) := by decide +kernel
theorem dL_addShower_12 : decode cL_addShower 12 = .ok (.goto 11, 3) := by decide +kernel
theorem dL_addShower_15 : decode cL_addShower 15 = .ok (.astore 5, 2) := by decide +kernel
theorem dL_addShower_17 : decode cL_addShower 17 = .ok (.iconst 1, 1) := by decide +kernel
theorem dL_addShower_18 : decode cL_addShower 18 = .ok (.ireturn, 1) := by decide +kernel
theorem dL_addShower_19 : decode cL_addShower 19 = .ok (.astore 5, 2) := by decide +kernel
theorem dL_addShower_21 : decode cL_addShower 21 = .ok (.iconst 2, 1) := by decide +kernel
theorem dL_addShower_22 : decode cL_addShower 22 = .ok (.ireturn, 1) := by decide +kernel
theorem dL_addShower_23 : decode cL_addShower 23 = .ok (.iconst 0, 1) := by decide +kernel
theorem dL_addShower_24 : decode cL_addShower 24 = .ok (.ireturn, 1) := by decide +kernel
theorem dL_addSmoke_0 : decode cL_addSmoke 0 = .ok (.aload_n 3, 1) := by decide +kernel
theorem dL_addSmoke_1 : decode cL_addSmoke 1 = .ok (.iconst 0, 1) := by decide +kernel
theorem dL_addSmoke_2 : decode cL_addSmoke 2 = .ok (.aload_n 0, 1) := by decide +kernel
theorem dL_addSmoke_3 : decode cL_addSmoke 3 = .ok (.iload_n 1, 1) := by decide +kernel
theorem dL_addSmoke_4 : decode cL_addSmoke 4 = .ok (.iload_n 2, 1) := by decide +kernel
theorem dL_addSmoke_5 : decode cL_addSmoke 5 = .ok (.invokevirtual 116, 3) := by decide +kernel
theorem dL_addSmoke_8 : decode cL_addSmoke 8 = .ok (.i2l, 1) := by decide +kernel
theorem dL_addSmoke_9 : decode cL_addSmoke 9 = .ok (.lastore, 1) := by decide +kernel
theorem dL_addSmoke_10 : decode cL_addSmoke 10 = .ok (.goto 11, 3) := by decide +kernel
theorem dL_addSmoke_13 : decode cL_addSmoke 13 = .ok (.astore 4, 2) := by decide +kernel
theorem dL_addSmoke_15 : decode cL_addSmoke 15 = .ok (.iconst 1, 1) := by decide +kernel
theorem dL_addSmoke_16 : decode cL_addSmoke 16 = .ok (.ireturn, 1) := by decide +kernel
theorem dL_addSmoke_17 : decode cL_addSmoke 17 = .ok (.astore 4, 2) := by decide +kernel
theorem dL_addSmoke_19 : decode cL_addSmoke 19 = .ok (.iconst 2, 1) := by decide +kernel
theorem dL_addSmoke_20 : decode cL_addSmoke 20 = .ok (.ireturn, 1) := by decide +kernel
theorem dL_addSmoke_21 : decode cL_addSmoke 21 = .ok (.iconst 0, 1) := by decide +kernel
theorem dL_addSmoke_22 : decode cL_addSmoke 22 = .ok (.ireturn, 1) := by decide +kernel
theorem dL_setWind_0 : decode cL_setWind 0 = .ok (.aload_n 3, 1) := by decide +kernel
theorem dL_setWind_1 : decode cL_setWind 1 = .ok (.iconst 0, 1) := by decide +kernel
theorem dL_setWind_2 : decode cL_setWind 2 = .ok (.aload_n 0, 1) := by decide +kernel
theorem dL_setWind_3 : decode cL_setWind 3 = .ok (.iload_n 1, 1) := by decide +kernel
theorem dL_setWind_4 : decode cL_setWind 4 = .ok (.iload_n 2, 1) := by decide +kernel
theorem dL_setWind_5 : decode cL_setWind 5 = .ok (.invokevirtual 119, 3) := by decide +kernel
theorem dL_setWind_8 : decode cL_setWind 8 = .ok (.i2l, 1) := by decide +kernel
theorem dL_setWind_9 : decode cL_setWind 9 = .ok (.lastore, 1) := by decide +kernel
theorem dL_setWind_10 : decode cL_setWind 10 = .ok (.goto 11, 3) := by decide +kernel
theorem dL_setWind_13 : decode cL_setWind 13 = .ok (.astore 4, 2) := by decide +kernel
theorem dL_setWind_15 : decode cL_setWind 15 = .ok (.iconst 1, 1) := by decide +kernel
theorem dL_setWind_16 : decode cL_setWind 16 = .ok (.ireturn, 1) := by decide +kernel
theorem dL_setWind_17 : decode cL_setWind 17 = .ok (.astore 4, 2) := by decide +kernel
theorem dL_setWind_19 : decode cL_setWind 19 = .ok (.iconst 2, 1) := by decide +kernel
theorem dL_setWind_20 : decode cL_setWind 20 = .ok (.ireturn, 1) := by decide +kernel
theorem dL_setWind_21 : decode cL_setWind 21 = .ok (.iconst 0, 1) := by decide +kernel
theorem dL_setWind_22 : decode cL_setWind 22 = .ok (.ireturn, 1) := by decide +kernel
theorem dL_passMinutes_0 : decode cL_passMinutes 0 = .ok (.aload_n 2, 1) := by decide +kernel
theorem dL_passMinutes_1 : decode cL_passMinutes 1 = .ok (.iconst 0, 1) := by decide +kernel
theorem dL_passMinutes_2 : decode cL_passMinutes 2 = .ok (.aload_n 0, 1) := by decide +kernel
theorem dL_passMinutes_3 : decode cL_passMinutes 3 = .ok (.iload_n 1, 1) := by decide +kernel
theorem dL_passMinutes_4 : decode cL_passMinutes 4 = .ok (.invokevirtual 122, 3) := by decide +kernel
theorem dL_passMinutes_7 : decode cL_passMinutes 7 = .ok (.i2l, 1) := by decide +kernel
theorem dL_passMinutes_8 : decode cL_passMinutes 8 = .ok (.lastore, 1) := by decide +kernel
theorem dL_passMinutes_9 : decode cL_passMinutes 9 = .ok (.goto 6, 3) := by decide +kernel
theorem dL_passMinutes_12 : decode cL_passMinutes 12 = .ok (.astore_n 3, 1) := by decide +kernel
theorem dL_passMinutes_13 : decode cL_passMinutes 13 = .ok (.iconst 1, 1) := by decide +kernel
theorem dL_passMinutes_14 : decode cL_passMinutes 14 = .ok (.ireturn, 1) := by decide +kernel
theorem dL_passMinutes_15 : decode cL_passMinutes 15 = .ok (.iconst 0, 1) := by decide +kernel
theorem dL_passMinutes_16 : decode cL_passMinutes 16 = .ok (.ireturn, 1) := by decide +kernel
theorem dL_undo_0 : decode cL_undo 0 = .ok (.aload_n 1, 1) := by decide +kernel
theorem dL_undo_1 : decode cL_undo 1 = .ok (.iconst 0, 1) := by decide +kernel
theorem dL_undo_2 : decode cL_undo 2 = .ok (.aload_n 0, 1) := by decide +kernel
theorem dL_undo_3 : decode cL_undo 3 = .ok (.invokevirtual 125, 3) := by decide +kernel
theorem dL_undo_6 : decode cL_undo 6 = .ok (.i2l, 1) := by decide +kernel
theorem dL_undo_7 : decode cL_undo 7 = .ok (.lastore, 1) := by decide +kernel
theorem dL_undo_8 : decode cL_undo 8 = .ok (.goto 6, 3) := by decide +kernel
theorem dL_undo_11 : decode cL_undo 11 = .ok (.astore_n 2, 1) := by decide +kernel
theorem dL_undo_12 : decode cL_undo 12 = .ok (.iconst 1, 1) := by decide +kernel
theorem dL_undo_13 : decode cL_undo 13 = .ok (.ireturn, 1) := by decide +kernel
theorem dL_undo_14 : decode cL_undo 14 = .ok (.iconst 0, 1) := by decide +kernel
theorem dL_undo_15 : decode cL_undo 15 = .ok (.ireturn, 1) := by decide +kernel
theorem dL_save_0 : decode cL_save 0 = .ok (.aload_n 2, 1) := by decide +kernel
theorem dL_save_1 : decode cL_save 1 = .ok (.iconst 0, 1) := by decide +kernel
theorem dL_save_2 : decode cL_save 2 = .ok (.aload_n 0, 1) := by decide +kernel
theorem dL_save_3 : decode cL_save 3 = .ok (.iload_n 1, 1) := by decide +kernel
theorem dL_save_4 : decode cL_save 4 = .ok (.invokevirtual 129, 3) := by decide +kernel
theorem dL_save_7 : decode cL_save 7 = .ok (.i2l, 1) := by decide +kernel
theorem dL_save_8 : decode cL_save 8 = .ok (.lastore, 1) := by decide +kernel
theorem dL_save_9 : decode cL_save 9 = .ok (.goto 6, 3) := by decide +kernel
theorem dL_save_12 : decode cL_save 12 = .ok (.astore_n 3, 1) := by decide +kernel
theorem dL_save_13 : decode cL_save 13 = .ok (.iconst 1, 1) := by decide +kernel
theorem dL_save_14 : decode cL_save 14 = .ok (.ireturn, 1) := by decide +kernel
theorem dL_save_15 : decode cL_save 15 = .ok (.iconst 0, 1) := by decide +kernel
theorem dL_save_16 : decode cL_save 16 = .ok (.ireturn, 1) := by decide +kernel
theorem dL_restore_0 : decode cL_restore 0 = .ok (.aload_n 2, 1) := by decide +kernel
theorem dL_restore_1 : decode cL_restore 1 = .ok (.iconst 0, 1) := by decide +kernel
theorem dL_restore_2 : decode cL_restore 2 = .ok (.aload_n 0, 1) := by decide +kernel
theorem dL_restore_3 : decode cL_restore 3 = .ok (.iload_n 1, 1) := by decide +kernel
theorem dL_restore_4 : decode cL_restore 4 = .ok (.invokevirtual 132, 3) := by decide +kernel
theorem dL_restore_7 : decode cL_restore 7 = .ok (.i2l, 1) := by decide +kernel
theorem dL_restore_8 : decode cL_restore 8 = .ok (.lastore, 1) := by decide +kernel
theorem dL_restore_9 : decode cL_restore 9 = .ok (.goto 9, 3) := by decide +kernel
theorem dL_restore_12 : decode cL_restore 12 = .ok (.astore_n 3, 1) := by decide +kernel
theorem dL_restore_13 : decode cL_restore 13 = .ok (.iconst 1, 1) := by decide +kernel
theorem dL_restore_14 : decode cL_restore 14 = .ok (.ireturn, 1) := by decide +kernel
theorem dL_restore_15 : decode cL_restore 15 = .ok (.astore_n 3, 1) := by decide +kernel
theorem dL_restore_16 : decode cL_restore 16 = .ok (.iconst 2, 1) := by decide +kernel
theorem dL_restore_17 : decode cL_restore 17 = .ok (.ireturn, 1) := by decide +kernel
theorem dL_restore_18 : decode cL_restore 18 = .ok (.iconst 0, 1) := by decide +kernel
theorem dL_restore_19 : decode cL_restore 19 = .ok (.ireturn, 1) := by decide +kernel
