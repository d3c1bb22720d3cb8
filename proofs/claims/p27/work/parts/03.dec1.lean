theorem dX4_dropFirst_38 : decode cX4_dropFirst 38 = .ok (.getfield 15, 3) := by decide +kernel
theorem dX4_dropFirst_41 : decode cX4_dropFirst 41 = .ok (.iconst 1, 1) := by decide +kernel
theorem dX4_dropFirst_42 : decode cX4_dropFirst 42 = .ok (.isub, 1) := by decide +kernel
theorem dX4_dropFirst_43 : decode cX4_dropFirst 43 = .ok (.putfield 15, 3) := by decide +kernel
theorem dX4_dropFirst_46 : decode cX4_dropFirst 46 = .ok (.return_, 1) := by decide +kernel
theorem dX4_copyFrom_0 : decode cX4_copyFrom 0 = .ok (.aload_n 1, 1) := by decide +kernel
theorem dX4_copyFrom_1 : decode cX4_copyFrom 1 = .ok (.getfield 9, 3) := by decide +kernel
theorem dX4_copyFrom_4 : decode cX4_copyFrom 4 = .ok (.iconst 0, 1) := by decide +kernel
theorem dX4_copyFrom_5 : decode cX4_copyFrom 5 = .ok (.aload_n 0, 1) := by decide +kernel
theorem dX4_copyFrom_6 : decode cX4_copyFrom 6 = .ok (.getfield 9, 3) := by decide +kernel
theorem dX4_copyFrom_9 : decode cX4_copyFrom 9 = .ok (.iconst 0, 1) := by decide +kernel
theorem dX4_copyFrom_10 : decode cX4_copyFrom 10 = .ok (.bipush 8, 2) := by decide +kernel
theorem dX4_copyFrom_12 : decode cX4_copyFrom 12 = .ok (.invokestatic 19, 3) := by decide +kernel
theorem dX4_copyFrom_15 : decode cX4_copyFrom 15 = .ok (.aload_n 0, 1) := by decide +kernel
theorem dX4_copyFrom_16 : decode cX4_copyFrom 16 = .ok (.aload_n 1, 1) := by decide +kernel
theorem dX4_copyFrom_17 : decode cX4_copyFrom 17 = .ok (.getfield 15, 3) := by decide +kernel
theorem dX4_copyFrom_20 : decode cX4_copyFrom 20 = .ok (.putfield 15, 3) := by decide +kernel
theorem dX4_copyFrom_23 : decode cX4_copyFrom 23 = .ok (.return_, 1) := by decide +kernel
theorem dX5_init_0 : decode cX5_init 0 = .ok (.aload_n 0, 1) := by decide +kernel
theorem dX5_init_1 : decode cX5_init 1 = .ok (.invokespecial 3, 3) := by decide +kernel
theorem dX5_init_4 : decode cX5_init 4 = .ok (.aload_n 0, 1) := by decide +kernel
theorem dX5_init_5 : decode cX5_init 5 = .ok (.new 9, 3) := by decide +kernel
theorem dX5_init_8 : decode cX5_init 8 = .ok (.dup, 1) := by decide +kernel
theorem dX5_init_9 : decode cX5_init 9 = .ok (.invokespecial 11, 3) := by decide +kernel
theorem dX5_init_12 : decode cX5_init 12 = .ok (.putfield 12, 3) := by decide +kernel
theorem dX5_init_15 : decode cX5_init 15 = .ok (.aload_n 0, 1) := by decide +kernel
theorem dX5_init_16 : decode cX5_init 16 = .ok (.new 9, 3) := by decide +kernel
theorem dX5_init_19 : decode cX5_init 19 = .ok (.dup, 1) := by decide +kernel
theorem dX5_init_20 : decode cX5_init 20 = .ok (.invokespecial 11, 3) := by decide +kernel
theorem dX5_init_23 : decode cX5_init 23 = .ok (.putfield 16, 3) := by decide +kernel
theorem dX5_init_26 : decode cX5_init 26 = .ok (.aload_n 0, 1) := by decide +kernel
theorem dX5_init_27 : decode cX5_init 27 = .ok (.new 19, 3) := by decide +kernel
theorem dX5_init_30 : decode cX5_init 30 = .ok (.dup, 1) := by decide +kernel
theorem dX5_init_31 : decode cX5_init 31 = .ok (.invokespecial 21, 3) := by decide +kernel
theorem dX5_init_34 : decode cX5_init 34 = .ok (.putfield 22, 3) := by decide +kernel
theorem dX5_init_37 : decode cX5_init 37 = .ok (.aload_n 0, 1) := by decide +kernel
theorem dX5_init_38 : decode cX5_init 38 = .ok (.new 26, 3) := by decide +kernel
theorem dX5_init_41 : decode cX5_init 41 = .ok (.dup, 1) := by decide +kernel
theorem dX5_init_42 : decode cX5_init 42 = .ok (.invokespecial 28, 3) := by decide +kernel
theorem dX5_init_45 : decode cX5_init 45 = .ok (.putfield 29, 3) := by decide +kernel
theorem dX5_init_48 : decode cX5_init 48 = .ok (.aload_n 0, 1) := by decide +kernel
theorem dX5_init_49 : decode cX5_init 49 = .ok (.new 33, 3) := by decide +kernel
theorem dX5_init_52 : decode cX5_init 52 = .ok (.dup, 1) := by decide +kernel
theorem dX5_init_53 : decode cX5_init 53 = .ok (.invokespecial 35, 3) := by decide +kernel
theorem dX5_init_56 : decode cX5_init 56 = .ok (.putfield 36, 3) := by decide +kernel
theorem dX5_init_59 : decode cX5_init 59 = .ok (.return_, 1) := by decide +kernel
theorem dX5_pressure_0 : decode cX5_pressure 0 = .ok (.iload_n 1, 1) := by decide +kernel
theorem dX5_pressure_1 : decode cX5_pressure 1 = .ok (.iconst 3, 1) := by decide +kernel
theorem dX5_pressure_2 : decode cX5_pressure 2 = .ok (.invokestatic 40, 3) := by decide +kernel
theorem dX5_pressure_5 : decode cX5_pressure 5 = .ok (.iload_n 2, 1) := by decide +kernel
theorem dX5_pressure_6 : decode cX5_pressure 6 = .ok (.iconst 0, 1) := by decide +kernel
theorem dX5_pressure_7 : decode cX5_pressure 7 = .ok (.bipush 99, 2) := by decide +kernel
theorem dX5_pressure_9 : decode cX5_pressure 9 = .ok (.invokestatic 44, 3) := by decide +kernel
theorem dX5_pressure_12 : decode cX5_pressure 12 = .ok (.aload_n 0, 1) := by decide +kernel
theorem dX5_pressure_13 : decode cX5_pressure 13 = .ok (.getfield 29, 3) := by decide +kernel
theorem dX5_pressure_16 : decode cX5_pressure 16 = .ok (.aload_n 0, 1) := by decide +kernel
theorem dX5_pressure_17 : decode cX5_pressure 17 = .ok (.getfield 12, 3) := by decide +kernel
theorem dX5_pressure_20 : decode cX5_pressure 20 = .ok (.invokevirtual 48, 3) := by decide +kernel
theorem dX5_pressure_23 : decode cX5_pressure 23 = .ok (.aload_n 0, 1) := by decide +kernel
theorem dX5_pressure_24 : decode cX5_pressure 24 = .ok (.getfield 12, 3) := by decide +kernel
theorem dX5_pressure_27 : decode cX5_pressure 27 = .ok (.getfield 52, 3) := by decide +kernel
theorem dX5_pressure_30 : decode cX5_pressure 30 = .ok (.iload_n 1, 1) := by decide +kernel
theorem dX5_pressure_31 : decode cX5_pressure 31 = .ok (.iaload, 1) := by decide +kernel
theorem dX5_pressure_32 : decode cX5_pressure 32 = .ok (.istore_n 3, 1) := by decide +kernel
theorem dX5_pressure_33 : decode cX5_pressure 33 = .ok (.aload_n 0, 1) := by decide +kernel
theorem dX5_pressure_34 : decode cX5_pressure 34 = .ok (.getfield 12, 3) := by decide +kernel
theorem dX5_pressure_37 : decode cX5_pressure 37 = .ok (.getfield 52, 3) := by decide +kernel
theorem dX5_pressure_40 : decode cX5_pressure 40 = .ok (.iload_n 1, 1) := by decide +kernel
theorem dX5_pressure_41 : decode cX5_pressure 41 = .ok (.iload_n 2, 1) := by decide +kernel
theorem dX5_pressure_42 : decode cX5_pressure 42 = .ok (.iastore, 1) := by decide +kernel
theorem dX5_pressure_43 : decode cX5_pressure 43 = .ok (.iload_n 3, 1) := by decide +kernel
theorem dX5_pressure_44 : decode cX5_pressure 44 = .ok (.ireturn, 1) := by decide +kernel
theorem dX5_valve_0 : decode cX5_valve 0 = .ok (.iload_n 1, 1) := by decide +kernel
theorem dX5_valve_1 : decode cX5_valve 1 = .ok (.iconst 2, 1) := by decide +kernel
theorem dX5_valve_2 : decode cX5_valve 2 = .ok (.invokestatic 40, 3) := by decide +kernel
theorem dX5_valve_5 : decode cX5_valve 5 = .ok (.aload_n 0, 1) := by decide +kernel
theorem dX5_valve_6 : decode cX5_valve 6 = .ok (.getfield 29, 3) := by decide +kernel
theorem dX5_valve_9 : decode cX5_valve 9 = .ok (.aload_n 0, 1) := by decide +kernel
theorem dX5_valve_10 : decode cX5_valve 10 = .ok (.getfield 12, 3) := by decide +kernel
theorem dX5_valve_13 : decode cX5_valve 13 = .ok (.invokevirtual 48, 3) := by decide +kernel
theorem dX5_valve_16 : decode cX5_valve 16 = .ok (.aload_n 0, 1) := by decide +kernel
theorem dX5_valve_17 : decode cX5_valve 17 = .ok (.getfield 12, 3) := by decide +kernel
theorem dX5_valve_20 : decode cX5_valve 20 = .ok (.getfield 56, 3) := by decide +kernel
theorem dX5_valve_23 : decode cX5_valve 23 = .ok (.iload_n 1, 1) := by decide +kernel
theorem dX5_valve_24 : decode cX5_valve 24 = .ok (.baload, 1) := by decide +kernel
theorem dX5_valve_25 : decode cX5_valve 25 = .ok (.istore_n 3, 1) := by decide +kernel
theorem dX5_valve_26 : decode cX5_valve 26 = .ok (.aload_n 0, 1) := by decide +kernel
theorem dX5_valve_27 : decode cX5_valve 27 = .ok (.getfield 12, 3) := by decide +kernel
theorem dX5_valve_30 : decode cX5_valve 30 = .ok (.getfield 56, 3) := by decide +kernel
theorem dX5_valve_33 : decode cX5_valve 33 = .ok (.iload_n 1, 1) := by decide +kernel
theorem dX5_valve_34 : decode cX5_valve 34 = .ok (.iload_n 2, 1) := by decide +kernel
theorem dX5_valve_35 : decode cX5_valve 35 = .ok (.bastore, 1) := by decide +kernel
theorem dX5_valve_36 : decode cX5_valve 36 = .ok (.iload_n 3, 1) := by decide +kernel
theorem dX5_valve_37 : decode cX5_valve 37 = .ok (.ifCond .eq 7, 3) := by decide +kernel
theorem dX5_valve_40 : decode cX5_valve 40 = .ok (.iconst 1, 1) := by decide +kernel
theorem dX5_valve_41 : decode cX5_valve 41 = .ok (.goto 4, 3) := by decide +kernel
theorem dX5_valve_44 : decode cX5_valve 44 = .ok (.iconst 0, 1) := by decide +kernel
theorem dX5_valve_45 : decode cX5_valve 45 = .ok (.ireturn, 1) := by decide +kernel
theorem dX5_dirt_0 : decode cX5_dirt 0 = .ok (.iload_n 1, 1) := by decide +kernel
theorem dX5_dirt_1 : decode cX5_dirt 1 = .ok (.bipush 12, 2) := by decide +kernel
theorem dX5_dirt_3 : decode cX5_dirt 3 = .ok (.invokestatic 40, 3) := by decide +kernel
theorem dX5_dirt_6 : decode cX5_dirt 6 = .ok (.iload_n 2, 1) := by decide +kernel
theorem dX5_dirt_7 : decode cX5_dirt 7 = .ok (.iconst 0, 1) := by decide +kernel
theorem dX5_dirt_8 : decode cX5_dirt 8 = .ok (.sipush 999, 3) := by decide +kernel
theorem dX5_dirt_11 : decode cX5_dirt 11 = .ok (.invokestatic 44, 3) := by decide +kernel
theorem dX5_dirt_14 : decode cX5_dirt 14 = .ok (.aload_n 0, 1) := by decide +kernel
theorem dX5_dirt_15 : decode cX5_dirt 15 = .ok (.getfield 29, 3) := by decide +kernel
theorem dX5_dirt_18 : decode cX5_dirt 18 = .ok (.aload_n 0, 1) := by decide +kernel
theorem dX5_dirt_19 : decode cX5_dirt 19 = .ok (.getfield 12, 3) := by decide +kernel
theorem dX5_dirt_22 : decode cX5_dirt 22 = .ok (.invokevirtual 48, 3) := by decide +kernel
theorem dX5_dirt_25 : decode cX5_dirt 25 = .ok (.aload_n 0, 1) := by decide +kernel
theorem dX5_dirt_26 : decode cX5_dirt 26 = .ok (.getfield 12, 3) := by decide +kernel
theorem dX5_dirt_29 : decode cX5_dirt 29 = .ok (.getfield 60, 3) := by decide +kernel
theorem dX5_dirt_32 : decode cX5_dirt 32 = .ok (.iload_n 1, 1) := by decide +kernel
theorem dX5_dirt_33 : decode cX5_dirt 33 = .ok (.iaload, 1) := by decide +kernel
theorem dX5_dirt_34 : decode cX5_dirt 34 = .ok (.istore_n 3, 1) := by decide +kernel
theorem dX5_dirt_35 : decode cX5_dirt 35 = .ok (.aload_n 0, 1) := by decide +kernel
theorem dX5_dirt_36 : decode cX5_dirt 36 = .ok (.getfield 12, 3) := by decide +kernel
theorem dX5_dirt_39 : decode cX5_dirt 39 = .ok (.getfield 60, 3) := by decide +kernel
theorem dX5_dirt_42 : decode cX5_dirt 42 = .ok (.iload_n 1, 1) := by decide +kernel
theorem dX5_dirt_43 : decode cX5_dirt 43 = .ok (.iload_n 2, 1) := by decide +kernel
theorem dX5_dirt_44 : decode cX5_dirt 44 = .ok (.iastore, 1) := by decide +kernel
theorem dX5_dirt_45 : decode cX5_dirt 45 = .ok (.iload_n 3, 1) := by decide +kernel
theorem dX5_dirt_46 : decode cX5_dirt 46 = .ok (.ireturn, 1) := by decide +kernel
theorem dX5_hydrant_0 : decode cX5_hydrant 0 = .ok (.iload_n 1, 1) := by decide +kernel
theorem dX5_hydrant_1 : decode cX5_hydrant 1 = .ok (.bipush 12, 2) := by decide +kernel
theorem dX5_hydrant_3 : decode cX5_hydrant 3 = .ok (.invokestatic 40, 3) := by decide +kernel
theorem dX5_hydrant_6 : decode cX5_hydrant 6 = .ok (.iload_n 2, 1) := by decide +kernel
theorem dX5_hydrant_7 : decode cX5_hydrant 7 = .ok (.iconst 1, 1) := by decide +kernel
theorem dX5_hydrant_8 : decode cX5_hydrant 8 = .ok (.bipush 30, 2) := by decide +kernel
theorem dX5_hydrant_10 : decode cX5_hydrant 10 = .ok (.invokestatic 44, 3) := by decide +kernel
theorem dX5_hydrant_13 : decode cX5_hydrant 13 = .ok (.aload_n 0, 1) := by decide +kernel
theorem dX5_hydrant_14 : decode cX5_hydrant 14 = .ok (.getfield 29, 3) := by decide +kernel
theorem dX5_hydrant_17 : decode cX5_hydrant 17 = .ok (.aload_n 0, 1) := by decide +kernel
theorem dX5_hydrant_18 : decode cX5_hydrant 18 = .ok (.getfield 12, 3) := by decide +kernel
theorem dX5_hydrant_21 : decode cX5_hydrant 21 = .ok (.invokevirtual 48, 3) := by decide +kernel
theorem dX5_hydrant_24 : decode cX5_hydrant 24 = .ok (.aload_n 0, 1) := by decide +kernel
theorem dX5_hydrant_25 : decode cX5_hydrant 25 = .ok (.getfield 12, 3) := by decide +kernel
theorem dX5_hydrant_28 : decode cX5_hydrant 28 = .ok (.getfield 63, 3) := by decide +kernel
theorem dX5_hydrant_31 : decode cX5_hydrant 31 = .ok (.iload_n 1, 1) := by decide +kernel
theorem dX5_hydrant_32 : decode cX5_hydrant 32 = .ok (.iaload, 1) := by decide +kernel
theorem dX5_hydrant_33 : decode cX5_hydrant 33 = .ok (.istore_n 3, 1) := by decide +kernel
theorem dX5_hydrant_34 : decode cX5_hydrant 34 = .ok (.aload_n 0, 1) := by decide +kernel
theorem dX5_hydrant_35 : decode cX5_hydrant 35 = .ok (.getfield 12, 3) := by decide +kernel
theorem dX5_hydrant_38 : decode cX5_hydrant 38 = .ok (.getfield 63, 3) := by decide +kernel
theorem dX5_hydrant_41 : decode cX5_hydrant 41 = .ok (.iload_n 1, 1) := by decide +kernel
theorem dX5_hydrant_42 : decode cX5_hydrant 42 = .ok (.iload_n 2, 1) := by decide +kernel
theorem dX5_hydrant_43 : decode cX5_hydrant 43 = .ok (.iastore, 1) := by decide +kernel
theorem dX5_hydrant_44 : decode cX5_hydrant 44 = .ok (.iload_n 3, 1) := by decide +kernel
theorem dX5_hydrant_45 : decode cX5_hydrant 45 = .ok (.ireturn, 1) := by decide +kernel
theorem dX5_send_0 : decode cX5_send 0 = .ok (.iload_n 1, 1) := by decide +kernel
theorem dX5_send_1 : decode cX5_send 1 = .ok (.iconst 3, 1) := by decide +kernel
theorem dX5_send_2 : decode cX5_send 2 = .ok (.invokestatic 40, 3) := by decide +kernel
theorem dX5_send_5 : decode cX5_send 5 = .ok (.iload_n 2, 1) := by decide +kernel
theorem dX5_send_6 : decode cX5_send 6 = .ok (.bipush 12, 2) := by decide +kernel
theorem dX5_send_8 : decode cX5_send 8 = .ok (.invokestatic 40, 3) := by decide +kernel
theorem dX5_send_11 : decode cX5_send 11 = .ok (.aload_n 0, 1) := by decide +kernel
theorem dX5_send_12 : decode cX5_send 12 = .ok (.getfield 12, 3) := by decide +kernel
theorem dX5_send_15 : decode cX5_send 15 = .ok (.getfield 66, 3) := by decide +kernel
theorem dX5_send_18 : decode cX5_send 18 = .ok (.iload_n 1, 1) := by decide +kernel
theorem dX5_send_19 : decode cX5_send 19 = .ok (.aaload, 1) := by decide +kernel
theorem dX5_send_20 : decode cX5_send 20 = .ok (.invokevirtual 70, 3) := by decide +kernel
theorem dX5_send_23 : decode cX5_send 23 = .ok (.ifCond .eq 13, 3) := by decide +kernel
theorem dX5_send_26 : decode cX5_send 26 = .ok (.new 76, 3) := by decide +kernel
theorem dX5_send_29 : decode cX5_send 29 = .ok (.dup, 1) := by decide +kernel
theorem dX5_send_30 : decode cX5_send 30 = .ok (.ldc 78, 2) := by decide +kernel
theorem dX5_send_32 : decode cX5_send 32 = .ok (.invokespecial 80, 3) := by decide +kernel
theorem dX5_send_35 : decode cX5_send 35 = .ok (.athrow, 1) := by decide +kernel
theorem dX5_send_36 : decode cX5_send 36 = .ok (.aload_n 0, 1) := by decide +kernel
theorem dX5_send_37 : decode cX5_send 37 = .ok (.getfield 29, 3) := by decide +kernel
theorem dX5_send_40 : decode cX5_send 40 = .ok (.aload_n 0, 1) := by decide +kernel
theorem dX5_send_41 : decode cX5_send 41 = .ok (.getfield 12, 3) := by decide +kernel
theorem dX5_send_44 : decode cX5_send 44 = .ok (.invokevirtual 48, 3) := by decide +kernel
theorem dX5_send_47 : decode cX5_send 47 = .ok (.aload_n 0, 1) := by decide +kernel
theorem dX5_send_48 : decode cX5_send 48 = .ok (.getfield 12, 3) := by decide +kernel
theorem dX5_send_51 : decode cX5_send 51 = .ok (.getfield 66, 3) := by decide +kernel
theorem dX5_send_54 : decode cX5_send 54 = .ok (.iload_n 1, 1) := by decide +kernel
theorem dX5_send_55 : decode cX5_send 55 = .ok (.aaload, 1) := by decide +kernel
theorem dX5_send_56 : decode cX5_send 56 = .ok (.iload_n 2, 1) := by decide +kernel
theorem dX5_send_57 : decode cX5_send 57 = .ok (.invokevirtual 83, 3) := by decide +kernel
theorem dX5_send_60 : decode cX5_send 60 = .ok (.aload_n 0, 1) := by decide +kernel
theorem dX5_send_61 : decode cX5_send 61 = .ok (.getfield 12, 3) := by decide +kernel
theorem dX5_send_64 : decode cX5_send 64 = .ok (.getfield 66, 3) := by decide +kernel
theorem dX5_send_67 : decode cX5_send 67 = .ok (.iload_n 1, 1) := by decide +kernel
theorem dX5_send_68 : decode cX5_send 68 = .ok (.aaload, 1) := by decide +kernel
theorem dX5_send_69 : decode cX5_send 69 = .ok (.getfield 87, 3) := by decide +kernel
theorem dX5_send_72 : decode cX5_send 72 = .ok (.ireturn, 1) := by decide +kernel
theorem dX5_skip_0 : decode cX5_skip 0 = .ok (.iload_n 1, 1) := by decide +kernel
theorem dX5_skip_1 : decode cX5_skip 1 = .ok (.iconst 3, 1) := by decide +kernel
theorem dX5_skip_2 : decode cX5_skip 2 = .ok (.invokestatic 40, 3) := by decide +kernel
theorem dX5_skip_5 : decode cX5_skip 5 = .ok (.aload_n 0, 1) := by decide +kernel
theorem dX5_skip_6 : decode cX5_skip 6 = .ok (.getfield 29, 3) := by decide +kernel
theorem dX5_skip_9 : decode cX5_skip 9 = .ok (.aload_n 0, 1) := by decide +kernel
theorem dX5_skip_10 : decode cX5_skip 10 = .ok (.getfield 12, 3) := by decide +kernel
theorem dX5_skip_13 : decode cX5_skip 13 = .ok (.invokevirtual 48, 3) := by decide +kernel
theorem dX5_skip_16 : decode cX5_skip 16 = .ok (.aload_n 0, 1) := by decide +kernel
theorem dX5_skip_17 : decode cX5_skip 17 = .ok (.getfield 12, 3) := by decide +kernel
theorem dX5_skip_20 : decode cX5_skip 20 = .ok (.getfield 66, 3) := by decide +kernel
theorem dX5_skip_23 : decode cX5_skip 23 = .ok (.iload_n 1, 1) := by decide +kernel
theorem dX5_skip_24 : decode cX5_skip 24 = .ok (.aaload, 1) := by decide +kernel
theorem dX5_skip_25 : decode cX5_skip 25 = .ok (.iconst 0, 1) := by decide +kernel
theorem dX5_skip_26 : decode cX5_skip 26 = .ok (.invokevirtual 91, 3) := by decide +kernel
theorem dX5_skip_29 : decode cX5_skip 29 = .ok (.istore_n 2, 1) := by decide +kernel
theorem dX5_skip_30 : decode cX5_skip 30 = .ok (.aload_n 0, 1) := by decide +kernel
theorem dX5_skip_31 : decode cX5_skip 31 = .ok (.getfield 12, 3) := by decide +kernel
theorem dX5_skip_34 : decode cX5_skip 34 = .ok (.getfield 66, 3) := by decide +kernel
theorem dX5_skip_37 : decode cX5_skip 37 = .ok (.iload_n 1, 1) := by decide +kernel
theorem dX5_skip_38 : decode cX5_skip 38 = .ok (.aaload, 1) := by decide +kernel
theorem dX5_skip_39 : decode cX5_skip 39 = .ok (.invokevirtual 95, 3) := by decide +kernel
theorem dX5_skip_42 : decode cX5_skip 42 = .ok (.iload_n 2, 1) := by decide +kernel
theorem dX5_skip_43 : decode cX5_skip 43 = .ok (.ireturn, 1) := by decide +kernel
theorem dX5_set_0 : decode cX5_set 0 = .ok (.iload_n 1, 1) := by decide +kernel
theorem dX5_set_1 : decode cX5_set 1 = .ok (.iconst 4, 1) := by decide +kernel
theorem dX5_set_2 : decode cX5_set 2 = .ok (.invokestatic 40, 3) := by decide +kernel
theorem dX5_set_5 : decode cX5_set 5 = .ok (.iload_n 2, 1) := by decide +kernel
theorem dX5_set_6 : decode cX5_set 6 = .ok (.getstatic 98, 3) := by decide +kernel
theorem dX5_set_9 : decode cX5_set 9 = .ok (.iload_n 1, 1) := by decide +kernel
theorem dX5_set_10 : decode cX5_set 10 = .ok (.iaload, 1) := by decide +kernel
theorem dX5_set_11 : decode cX5_set 11 = .ok (.getstatic 101, 3) := by decide +kernel
theorem dX5_set_14 : decode cX5_set 14 = .ok (.iload_n 1, 1) := by decide +kernel
theorem dX5_set_15 : decode cX5_set 15 = .ok (.iaload, 1) := by decide +kernel
theorem dX5_set_16 : decode cX5_set 16 = .ok (.invokestatic 44, 3) := by decide +kernel
theorem dX5_set_19 : decode cX5_set 19 = .ok (.aload_n 0, 1) := by decide +kernel
theorem dX5_set_20 : decode cX5_set 20 = .ok (.getfield 29, 3) := by decide +kernel
theorem dX5_set_23 : decode cX5_set 23 = .ok (.aload_n 0, 1) := by decide +kernel
theorem dX5_set_24 : decode cX5_set 24 = .ok (.getfield 12, 3) := by decide +kernel
theorem dX5_set_27 : decode cX5_set 27 = .ok (.invokevirtual 48, 3) := by decide +kernel
theorem dX5_set_30 : decode cX5_set 30 = .ok (.aload_n 0, 1) := by decide +kernel
theorem dX5_set_31 : decode cX5_set 31 = .ok (.getfield 12, 3) := by decide +kernel
theorem dX5_set_34 : decode cX5_set 34 = .ok (.getfield 104, 3) := by decide +kernel
theorem dX5_set_37 : decode cX5_set 37 = .ok (.iload_n 1, 1) := by decide +kernel
theorem dX5_set_38 : decode cX5_set 38 = .ok (.iaload, 1) := by decide +kernel
theorem dX5_set_39 : decode cX5_set 39 = .ok (.istore_n 3, 1) := by decide +kernel
theorem dX5_set_40 : decode cX5_set 40 = .ok (.aload_n 0, 1) := by decide +kernel
theorem dX5_set_41 : decode cX5_set 41 = .ok (.getfield 12, 3) := by decide +kernel
theorem dX5_set_44 : decode cX5_set 44 = .ok (.getfield 104, 3) := by decide +kernel
theorem dX5_set_47 : decode cX5_set 47 = .ok (.iload_n 1, 1) := by decide +kernel
theorem dX5_set_48 : decode cX5_set 48 = .ok (.iload_n 2, 1) := by decide +kernel
theorem dX5_set_49 : decode cX5_set 49 = .ok (.iastore, 1) := by decide +kernel
theorem dX5_set_50 : decode cX5_set 50 = .ok (.iload_n 3, 1) := by decide +kernel
theorem dX5_set_51 : decode cX5_set 51 = .ok (.ireturn, 1) := by decide +kernel
theorem dX5_pass_0 : decode cX5_pass 0 = .ok (.iload_n 1, 1) := by decide +kernel
theorem dX5_pass_1 : decode cX5_pass 1 = .ok (.iconst 1, 1) := by decide +kernel
theorem dX5_pass_2 : decode cX5_pass 2 = .ok (.bipush 48, 2) := by decide +kernel
theorem dX5_pass_4 : decode cX5_pass 4 = .ok (.invokestatic 44, 3) := by decide +kernel
theorem dX5_pass_7 : decode cX5_pass 7 = .ok (.aload_n 0, 1) := by decide +kernel
theorem dX5_pass_8 : decode cX5_pass 8 = .ok (.getfield 29, 3) := by decide +kernel
theorem dX5_pass_11 : decode cX5_pass 11 = .ok (.aload_n 0, 1) := by decide +kernel
theorem dX5_pass_12 : decode cX5_pass 12 = .ok (.getfield 12, 3) := by decide +kernel
theorem dX5_pass_15 : decode cX5_pass 15 = .ok (.invokevirtual 48, 3) := by decide +kernel
theorem dX5_pass_18 : decode cX5_pass 18 = .ok (.aload_n 0, 1) := by decide +kernel
theorem dX5_pass_19 : decode cX5_pass 19 = .ok (.getfield 22, 3) := by decide +kernel
theorem dX5_pass_22 : decode cX5_pass 22 = .ok (.aload_n 0, 1) := by decide +kernel
theorem dX5_pass_23 : decode cX5_pass 23 = .ok (.getfield 12, 3) := by decide +kernel
theorem dX5_pass_26 : decode cX5_pass 26 = .ok (.iload_n 1, 1) := by decide +kernel
theorem dX5_pass_27 : decode cX5_pass 27 = .ok (.invokevirtual 107, 3) := by decide +kernel
theorem dX5_pass_30 : decode cX5_pass 30 = .ok (.ireturn, 1) := by decide +kernel
theorem dX5_undo_0 : decode cX5_undo 0 = .ok (.aload_n 0, 1) := by decide +kernel
theorem dX5_undo_1 : decode cX5_undo 1 = .ok (.getfield 29, 3) := by decide +kernel
theorem dX5_undo_4 : decode cX5_undo 4 = .ok (.getfield 137, 3) := by decide +kernel
theorem dX5_undo_7 : decode cX5_undo 7 = .ok (.ifCond .ne 13, 3) := by decide +kernel
theorem dX5_undo_10 : decode cX5_undo 10 = .ok (.new 76, 3) := by decide +kernel
theorem dX5_undo_13 : decode cX5_undo 13 = .ok (.dup, 1) := by decide +kernel
theorem dX5_undo_14 : decode cX5_undo 14 = .ok (.ldc 140, 2) := by decide +kernel
theorem dX5_undo_16 : decode cX5_undo 16 = .ok (.invokespecial 80, 3) := by decide +kernel
theorem dX5_undo_19 : decode cX5_undo 19 = .ok (.athrow, 1) := by decide +kernel
theorem dX5_undo_20 : decode cX5_undo 20 = .ok (.aload_n 0, 1) := by decide +kernel
theorem dX5_undo_21 : decode cX5_undo 21 = .ok (.getfield 29, 3) := by decide +kernel
theorem dX5_undo_24 : decode cX5_undo 24 = .ok (.aload_n 0, 1) := by decide +kernel
theorem dX5_undo_25 : decode cX5_undo 25 = .ok (.getfield 12, 3) := by decide +kernel
theorem dX5_undo_28 : decode cX5_undo 28 = .ok (.invokevirtual 142, 3) := by decide +kernel
theorem dX5_undo_31 : decode cX5_undo 31 = .ok (.aload_n 0, 1) := by decide +kernel
theorem dX5_undo_32 : decode cX5_undo 32 = .ok (.getfield 29, 3) := by decide +kernel
theorem dX5_undo_35 : decode cX5_undo 35 = .ok (.getfield 137, 3) := by decide +kernel
theorem dX5_undo_38 : decode cX5_undo 38 = .ok (.ireturn, 1) := by decide +kernel
theorem dX5_street_0 : decode cX5_street 0 = .ok (.iload_n 1, 1) := by decide +kernel
theorem dX5_street_1 : decode cX5_street 1 = .ok (.bipush 12, 2) := by decide +kernel
theorem dX5_street_3 : decode cX5_street 3 = .ok (.invokestatic 40, 3) := by decide +kernel
theorem dX5_street_6 : decode cX5_street 6 = .ok (.iload_n 2, 1) := by decide +kernel
theorem dX5_street_7 : decode cX5_street 7 = .ok (.iconst 0, 1) := by decide +kernel
theorem dX5_street_8 : decode cX5_street 8 = .ok (.bipush 7, 2) := by decide +kernel
theorem dX5_street_10 : decode cX5_street 10 = .ok (.invokestatic 44, 3) := by decide +kernel
theorem dX5_street_13 : decode cX5_street 13 = .ok (.iload_n 2, 1) := by decide +kernel
theorem dX5_street_14 : decode cX5_street 14 = .ok (.tableswitch 131 0 6 #[42, 52, 62, 79, 102, 111, 121], 42) := by decide +kernel
theorem dX5_street_56 : decode cX5_street 56 = .ok (.aload_n 0, 1) := by decide +kernel
theorem dX5_street_57 : decode cX5_street 57 = .ok (.getfield 12, 3) := by decide +kernel
theorem dX5_street_60 : decode cX5_street 60 = .ok (.getfield 60, 3) := by decide +kernel
theorem dX5_street_63 : decode cX5_street 63 = .ok (.iload_n 1, 1) := by decide +kernel
theorem dX5_street_64 : decode cX5_street 64 = .ok (.iaload, 1) := by decide +kernel
theorem dX5_street_65 : decode cX5_street 65 = .ok (.ireturn, 1) := by decide +kernel
theorem dX5_street_66 : decode cX5_street 66 = .ok (.aload_n 0, 1) := by decide +kernel
theorem dX5_street_67 : decode cX5_street 67 = .ok (.getfield 12, 3) := by decide +kernel
theorem dX5_street_70 : decode cX5_street 70 = .ok (.getfield 63, 3) := by decide +kernel
theorem dX5_street_73 : decode cX5_street 73 = .ok (.iload_n 1, 1) := by decide +kernel
theorem dX5_street_74 : decode cX5_street 74 = .ok (.iaload, 1) := by decide +kernel
theorem dX5_street_75 : decode cX5_street 75 = .ok (.ireturn, 1) := by decide +kernel
theorem dX5_street_76 : decode cX5_street 76 = .ok (.aload_n 0, 1) := by decide +kernel
theorem dX5_street_77 : decode cX5_street 77 = .ok (.getfield 12, 3) := by decide +kernel
theorem dX5_street_80 : decode cX5_street 80 = .ok (.iload_n 1, 1) := by decide +kernel
theorem dX5_street_81 : decode cX5_street 81 = .ok (.invokevirtual 145, 3) := by decide +kernel
theorem dX5_street_84 : decode cX5_street 84 = .ok (.ifCond .eq 7, 3) := by decide +kernel
theorem dX5_street_87 : decode cX5_street 87 = .ok (.iconst 1, 1) := by decide +kernel
theorem dX5_street_88 : decode cX5_street 88 = .ok (.goto 4, 3) := by decide +kernel
theorem dX5_street_91 : decode cX5_street 91 = .ok (.iconst 0, 1) := by decide +kernel
theorem dX5_street_92 : decode cX5_street 92 = .ok (.ireturn, 1) := by decide +kernel
theorem dX5_street_93 : decode cX5_street 93 = .ok (.aload_n 0, 1) := by decide +kernel
theorem dX5_street_94 : decode cX5_street 94 = .ok (.getfield 22, 3) := by decide +kernel
theorem dX5_street_97 : decode cX5_street 97 = .ok (.invokevirtual 149, 3) := by decide +kernel
theorem dX5_street_100 : decode cX5_street 100 = .ok (.aload_n 0, 1) := by decide +kernel
theorem dX5_street_101 : decode cX5_street 101 = .ok (.getfield 12, 3) := by decide +kernel
theorem dX5_street_104 : decode cX5_street 104 = .ok (.iload_n 1, 1) := by decide +kernel
theorem dX5_street_105 : decode cX5_street 105 = .ok (.aload_n 0, 1) := by decide +kernel
theorem dX5_street_106 : decode cX5_street 106 = .ok (.getfield 22, 3) := by decide +kernel
theorem dX5_street_109 : decode cX5_street 109 = .ok (.getfield 152, 3) := by decide +kernel
theorem dX5_street_112 : decode cX5_street 112 = .ok (.invokevirtual 155, 3) := by decide +kernel
theorem dX5_street_115 : decode cX5_street 115 = .ok (.ireturn, 1) := by decide +kernel
theorem dX5_street_116 : decode cX5_street 116 = .ok (.aload_n 0, 1) := by decide +kernel
theorem dX5_street_117 : decode cX5_street 117 = .ok (.getfield 12, 3) := by decide +kernel
theorem dX5_street_120 : decode cX5_street 120 = .ok (.iload_n 1, 1) := by decide +kernel
theorem dX5_street_121 : decode cX5_street 121 = .ok (.invokevirtual 159, 3) := by decide +kernel
theorem dX5_street_124 : decode cX5_street 124 = .ok (.ireturn, 1) := by decide +kernel
theorem dX5_street_125 : decode cX5_street 125 = .ok (.aload_n 0, 1) := by decide +kernel
theorem dX5_street_126 : decode cX5_street 126 = .ok (.getfield 12, 3) := by decide +kernel
theorem dX5_street_129 : decode cX5_street 129 = .ok (.getfield 162, 3) := by decide +kernel
theorem dX5_street_132 : decode cX5_street 132 = .ok (.iload_n 1, 1) := by decide +kernel
theorem dX5_street_133 : decode cX5_street 133 = .ok (.iaload, 1) := by decide +kernel
theorem dX5_street_134 : decode cX5_street 134 = .ok (.ireturn, 1) := by decide +kernel
theorem dX5_street_135 : decode cX5_street 135 = .ok (.aload_n 0, 1) := by decide +kernel
theorem dX5_street_136 : decode cX5_street 136 = .ok (.getfield 12, 3) := by decide +kernel
theorem dX5_street_139 : decode cX5_street 139 = .ok (.getfield 165, 3) := by decide +kernel
theorem dX5_street_142 : decode cX5_street 142 = .ok (.iload_n 1, 1) := by decide +kernel
theorem dX5_street_143 : decode cX5_street 143 = .ok (.iaload, 1) := by decide +kernel
theorem dX5_street_144 : decode cX5_street 144 = .ok (.ireturn, 1) := by decide +kernel
theorem dX5_street_145 : decode cX5_street 145 = .ok (.aload_n 0, 1) := by decide +kernel
theorem dX5_street_146 : decode cX5_street 146 = .ok (.getfield 12, 3) := by decide +kernel
theorem dX5_street_149 : decode cX5_street 149 = .ok (.getfield 168, 3) := by decide +kernel
theorem dX5_street_152 : decode cX5_street 152 = .ok (.iload_n 1, 1) := by decide +kernel
theorem dX5_street_153 : decode cX5_street 153 = .ok (.iaload, 1) := by decide +kernel
theorem dX5_street_154 : decode cX5_street 154 = .ok (.ireturn, 1) := by decide +kernel
theorem dX5_round_0 : decode cX5_round 0 = .ok (.iload_n 1, 1) := by decide +kernel
theorem dX5_round_1 : decode cX5_round 1 = .ok (.iconst 3, 1) := by decide +kernel
theorem dX5_round_2 : decode cX5_round 2 = .ok (.invokestatic 40, 3) := by decide +kernel
theorem dX5_round_5 : decode cX5_round 5 = .ok (.iload_n 2, 1) := by decide +kernel
theorem dX5_round_6 : decode cX5_round 6 = .ok (.ifCond .ge 13, 3) := by decide +kernel
theorem dX5_round_9 : decode cX5_round 9 = .ok (.new 126, 3) := by decide +kernel
theorem dX5_round_12 : decode cX5_round 12 = .ok (.dup, 1) := by decide +kernel
theorem dX5_round_13 : decode cX5_round 13 = .ok (.ldc 171, 2) := by decide +kernel
theorem dX5_round_15 : decode cX5_round 15 = .ok (.invokespecial 130, 3) := by decide +kernel
theorem dX5_round_18 : decode cX5_round 18 = .ok (.athrow, 1) := by decide +kernel
theorem dX5_round_19 : decode cX5_round 19 = .ok (.aload_n 0, 1) := by decide +kernel
theorem dX5_round_20 : decode cX5_round 20 = .ok (.getfield 12, 3) := by decide +kernel
theorem dX5_round_23 : decode cX5_round 23 = .ok (.getfield 66, 3) := by decide +kernel
theorem dX5_round_26 : decode cX5_round 26 = .ok (.iload_n 1, 1) := by decide +kernel
theorem dX5_round_27 : decode cX5_round 27 = .ok (.aaload, 1) := by decide +kernel
theorem dX5_round_28 : decode cX5_round 28 = .ok (.iload_n 2, 1) := by decide +kernel
theorem dX5_round_29 : decode cX5_round 29 = .ok (.invokevirtual 91, 3) := by decide +kernel
theorem dX5_round_32 : decode cX5_round 32 = .ok (.ireturn, 1) := by decide +kernel
theorem dX5_count_0 : decode cX5_count 0 = .ok (.iload_n 1, 1) := by decide +kernel
theorem dX5_count_1 : decode cX5_count 1 = .ok (.iconst 0, 1) := by decide +kernel
theorem dX5_count_2 : decode cX5_count 2 = .ok (.bipush 8, 2) := by decide +kernel
theorem dX5_count_4 : decode cX5_count 4 = .ok (.invokestatic 44, 3) := by decide +kernel
theorem dX5_count_7 : decode cX5_count 7 = .ok (.iload_n 1, 1) := by decide +kernel
theorem dX5_count_8 : decode cX5_count 8 = .ok (.tableswitch 121 0 7 #[48, 56, 67, 75, 86, 97, 105, 113], 48) := by decide +kernel
theorem dX5_count_56 : decode cX5_count 56 = .ok (.aload_n 0, 1) := by decide +kernel
theorem dX5_count_57 : decode cX5_count 57 = .ok (.getfield 12, 3) := by decide +kernel
theorem dX5_count_60 : decode cX5_count 60 = .ok (.getfield 173, 3) := by decide +kernel
theorem dX5_count_63 : decode cX5_count 63 = .ok (.ireturn, 1) := by decide +kernel
theorem dX5_count_64 : decode cX5_count 64 = .ok (.aload_n 0, 1) := by decide +kernel
theorem dX5_count_65 : decode cX5_count 65 = .ok (.getfield 12, 3) := by decide +kernel
theorem dX5_count_68 : decode cX5_count 68 = .ok (.getfield 60, 3) := by decide +kernel
theorem dX5_count_71 : decode cX5_count 71 = .ok (.invokestatic 176, 3) := by decide +kernel
theorem dX5_count_74 : decode cX5_count 74 = .ok (.ireturn, 1) := by decide +kernel
theorem dX5_count_75 : decode cX5_count 75 = .ok (.aload_n 0, 1) := by decide +kernel
theorem dX5_count_76 : decode cX5_count 76 = .ok (.getfield 12, 3) := by decide +kernel
theorem dX5_count_79 : decode cX5_count 79 = .ok (.invokevirtual 180, 3) := by decide +kernel
theorem dX5_count_82 : decode cX5_count 82 = .ok (.ireturn, 1) := by decide +kernel
theorem dX5_count_83 : decode cX5_count 83 = .ok (.aload_n 0, 1) := by decide +kernel
theorem dX5_count_84 : decode cX5_count 84 = .ok (.getfield 12, 3) := by decide +kernel
theorem dX5_count_87 : decode cX5_count 87 = .ok (.getfield 162, 3) := by decide +kernel
theorem dX5_count_90 : decode cX5_count 90 = .ok (.invokestatic 176, 3) := by decide +kernel
theorem dX5_count_93 : decode cX5_count 93 = .ok (.ireturn, 1) := by decide +kernel
theorem dX5_count_94 : decode cX5_count 94 = .ok (.aload_n 0, 1) := by decide +kernel
theorem dX5_count_95 : decode cX5_count 95 = .ok (.getfield 12, 3) := by decide +kernel
theorem dX5_count_98 : decode cX5_count 98 = .ok (.getfield 165, 3) := by decide +kernel
theorem dX5_count_101 : decode cX5_count 101 = .ok (.invokestatic 176, 3) := by decide +kernel
theorem dX5_count_104 : decode cX5_count 104 = .ok (.ireturn, 1) := by decide +kernel
theorem dX5_count_105 : decode cX5_count 105 = .ok (.aload_n 0, 1) := by decide +kernel
theorem dX5_count_106 : decode cX5_count 106 = .ok (.getfield 12, 3) := by decide +kernel
theorem dX5_count_109 : decode cX5_count 109 = .ok (.getfield 183, 3) := by decide +kernel
theorem dX5_count_112 : decode cX5_count 112 = .ok (.ireturn, 1) := by decide +kernel
theorem dX5_count_113 : decode cX5_count 113 = .ok (.aload_n 0, 1) := by decide +kernel
theorem dX5_count_114 : decode cX5_count 114 = .ok (.getfield 12, 3) := by decide +kernel
theorem dX5_count_117 : decode cX5_count 117 = .ok (.invokevirtual 134, 3) := by decide +kernel
theorem dX5_count_120 : decode cX5_count 120 = .ok (.ireturn, 1) := by decide +kernel
theorem dX5_count_121 : decode cX5_count 121 = .ok (.aload_n 0, 1) := by decide +kernel
theorem dX5_count_122 : decode cX5_count 122 = .ok (.getfield 12, 3) := by decide +kernel
theorem dX5_count_125 : decode cX5_count 125 = .ok (.getfield 186, 3) := by decide +kernel
theorem dX5_count_128 : decode cX5_count 128 = .ok (.ireturn, 1) := by decide +kernel
theorem dX5_count_129 : decode cX5_count 129 = .ok (.aload_n 0, 1) := by decide +kernel
theorem dX5_count_130 : decode cX5_count 130 = .ok (.getfield 29, 3) := by decide +kernel
theorem dX5_count_133 : decode cX5_count 133 = .ok (.getfield 137, 3) := by decide +kernel
theorem dX5_count_136 : decode cX5_count 136 = .ok (.ireturn, 1) := by decide +kernel
theorem dX5_setting_0 : decode cX5_setting 0 = .ok (.iload_n 1, 1) := by decide +kernel
theorem dX5_setting_1 : decode cX5_setting 1 = .ok (.iconst 4, 1) := by decide +kernel
theorem dX5_setting_2 : decode cX5_setting 2 = .ok (.invokestatic 40, 3) := by decide +kernel
theorem dX5_setting_5 : decode cX5_setting 5 = .ok (.aload_n 0, 1) := by decide +kernel
theorem dX5_setting_6 : decode cX5_setting 6 = .ok (.getfield 12, 3) := by decide +kernel
theorem dX5_setting_9 : decode cX5_setting 9 = .ok (.getfield 104, 3) := by decide +kernel
theorem dX5_setting_12 : decode cX5_setting 12 = .ok (.iload_n 1, 1) := by decide +kernel
theorem dX5_setting_13 : decode cX5_setting 13 = .ok (.iaload, 1) := by decide +kernel
theorem dX5_setting_14 : decode cX5_setting 14 = .ok (.ireturn, 1) := by decide +kernel
theorem dX5_waits_0 : decode cX5_waits 0 = .ok (.iload_n 1, 1) := by decide +kernel
theorem dX5_waits_1 : decode cX5_waits 1 = .ok (.iconst 3, 1) := by decide +kernel
theorem dX5_waits_2 : decode cX5_waits 2 = .ok (.invokestatic 40, 3) := by decide +kernel
theorem dX5_waits_5 : decode cX5_waits 5 = .ok (.aload_n 0, 1) := by decide +kernel
theorem dX5_waits_6 : decode cX5_waits 6 = .ok (.getfield 22, 3) := by decide +kernel
theorem dX5_waits_9 : decode cX5_waits 9 = .ok (.aload_n 0, 1) := by decide +kernel
theorem dX5_waits_10 : decode cX5_waits 10 = .ok (.getfield 12, 3) := by decide +kernel
theorem dX5_waits_13 : decode cX5_waits 13 = .ok (.invokevirtual 189, 3) := by decide +kernel
theorem dX5_waits_16 : decode cX5_waits 16 = .ok (.aload_n 0, 1) := by decide +kernel
theorem dX5_waits_17 : decode cX5_waits 17 = .ok (.getfield 22, 3) := by decide +kernel
theorem dX5_waits_20 : decode cX5_waits 20 = .ok (.getfield 192, 3) := by decide +kernel
theorem dX5_waits_23 : decode cX5_waits 23 = .ok (.iload_n 1, 1) := by decide +kernel
theorem dX5_waits_24 : decode cX5_waits 24 = .ok (.iaload, 1) := by decide +kernel
theorem dX5_waits_25 : decode cX5_waits 25 = .ok (.ireturn, 1) := by decide +kernel
theorem dX5_ifPassed_0 : decode cX5_ifPassed 0 = .ok (.iload_n 1, 1) := by decide +kernel
theorem dX5_ifPassed_1 : decode cX5_ifPassed 1 = .ok (.iconst 1, 1) := by decide +kernel
theorem dX5_ifPassed_2 : decode cX5_ifPassed 2 = .ok (.bipush 48, 2) := by decide +kernel
theorem dX5_ifPassed_4 : decode cX5_ifPassed 4 = .ok (.invokestatic 44, 3) := by decide +kernel
theorem dX5_ifPassed_7 : decode cX5_ifPassed 7 = .ok (.iload_n 2, 1) := by decide +kernel
theorem dX5_ifPassed_8 : decode cX5_ifPassed 8 = .ok (.iconst 0, 1) := by decide +kernel
theorem dX5_ifPassed_9 : decode cX5_ifPassed 9 = .ok (.iconst 3, 1) := by decide +kernel
theorem dX5_ifPassed_10 : decode cX5_ifPassed 10 = .ok (.invokestatic 44, 3) := by decide +kernel
theorem dX5_ifPassed_13 : decode cX5_ifPassed 13 = .ok (.aload_n 0, 1) := by decide +kernel
theorem dX5_ifPassed_14 : decode cX5_ifPassed 14 = .ok (.getfield 16, 3) := by decide +kernel
theorem dX5_ifPassed_17 : decode cX5_ifPassed 17 = .ok (.aload_n 0, 1) := by decide +kernel
theorem dX5_ifPassed_18 : decode cX5_ifPassed 18 = .ok (.getfield 12, 3) := by decide +kernel
theorem dX5_ifPassed_21 : decode cX5_ifPassed 21 = .ok (.invokevirtual 195, 3) := by decide +kernel
theorem dX5_ifPassed_24 : decode cX5_ifPassed 24 = .ok (.aload_n 0, 1) := by decide +kernel
theorem dX5_ifPassed_25 : decode cX5_ifPassed 25 = .ok (.getfield 22, 3) := by decide +kernel
theorem dX5_ifPassed_28 : decode cX5_ifPassed 28 = .ok (.aload_n 0, 1) := by decide +kernel
theorem dX5_ifPassed_29 : decode cX5_ifPassed 29 = .ok (.getfield 16, 3) := by decide +kernel
theorem dX5_ifPassed_32 : decode cX5_ifPassed 32 = .ok (.iload_n 1, 1) := by decide +kernel
theorem dX5_ifPassed_33 : decode cX5_ifPassed 33 = .ok (.invokevirtual 107, 3) := by decide +kernel
theorem dX5_ifPassed_36 : decode cX5_ifPassed 36 = .ok (.istore_n 3, 1) := by decide +kernel
theorem dX5_ifPassed_37 : decode cX5_ifPassed 37 = .ok (.iload_n 2, 1) := by decide +kernel
theorem dX5_ifPassed_38 : decode cX5_ifPassed 38 = .ok (.tableswitch 58 0 2 #[26, 28, 50], 26) := by decide +kernel
theorem dX5_ifPassed_64 : decode cX5_ifPassed 64 = .ok (.iload_n 3, 1) := by decide +kernel
theorem dX5_ifPassed_65 : decode cX5_ifPassed 65 = .ok (.ireturn, 1) := by decide +kernel
theorem dX5_ifPassed_66 : decode cX5_ifPassed 66 = .ok (.aload_n 0, 1) := by decide +kernel
theorem dX5_ifPassed_67 : decode cX5_ifPassed 67 = .ok (.getfield 16, 3) := by decide +kernel
theorem dX5_ifPassed_70 : decode cX5_ifPassed 70 = .ok (.getfield 165, 3) := by decide +kernel
theorem dX5_ifPassed_73 : decode cX5_ifPassed 73 = .ok (.invokestatic 176, 3) := by decide +kernel
theorem dX5_ifPassed_76 : decode cX5_ifPassed 76 = .ok (.aload_n 0, 1) := by decide +kernel
theorem dX5_ifPassed_77 : decode cX5_ifPassed 77 = .ok (.getfield 12, 3) := by decide +kernel
theorem dX5_ifPassed_80 : decode cX5_ifPassed 80 = .ok (.getfield 165, 3) := by decide +kernel
theorem dX5_ifPassed_83 : decode cX5_ifPassed 83 = .ok (.invokestatic 176, 3) := by decide +kernel
theorem dX5_ifPassed_86 : decode cX5_ifPassed 86 = .ok (.isub, 1) := by decide +kernel
theorem dX5_ifPassed_87 : decode cX5_ifPassed 87 = .ok (.ireturn, 1) := by decide +kernel
theorem dX5_ifPassed_88 : decode cX5_ifPassed 88 = .ok (.aload_n 0, 1) := by decide +kernel
theorem dX5_ifPassed_89 : decode cX5_ifPassed 89 = .ok (.getfield 16, 3) := by decide +kernel
theorem dX5_ifPassed_92 : decode cX5_ifPassed 92 = .ok (.invokevirtual 180, 3) := by decide +kernel
theorem dX5_ifPassed_95 : decode cX5_ifPassed 95 = .ok (.ireturn, 1) := by decide +kernel
theorem dX5_ifPassed_96 : decode cX5_ifPassed 96 = .ok (.aload_n 0, 1) := by decide +kernel
theorem dX5_ifPassed_97 : decode cX5_ifPassed 97 = .ok (.getfield 16, 3) := by decide +kernel
theorem dX5_ifPassed_100 : decode cX5_ifPassed 100 = .ok (.invokevirtual 134, 3) := by decide +kernel
theorem dX5_ifPassed_103 : decode cX5_ifPassed 103 = .ok (.ireturn, 1) := by decide +kernel
theorem dX5_clearIn_0 : decode cX5_clearIn 0 = .ok (.aload_n 0, 1) := by decide +kernel
theorem dX5_clearIn_1 : decode cX5_clearIn 1 = .ok (.getfield 16, 3) := by decide +kernel
theorem dX5_clearIn_4 : decode cX5_clearIn 4 = .ok (.aload_n 0, 1) := by decide +kernel
theorem dX5_clearIn_5 : decode cX5_clearIn 5 = .ok (.getfield 12, 3) := by decide +kernel
theorem dX5_clearIn_8 : decode cX5_clearIn 8 = .ok (.invokevirtual 195, 3) := by decide +kernel
theorem dX5_clearIn_11 : decode cX5_clearIn 11 = .ok (.iconst 0, 1) := by decide +kernel
theorem dX5_clearIn_12 : decode cX5_clearIn 12 = .ok (.istore_n 1, 1) := by decide +kernel
theorem dX5_clearIn_13 : decode cX5_clearIn 13 = .ok (.iload_n 1, 1) := by decide +kernel
theorem dX5_clearIn_14 : decode cX5_clearIn 14 = .ok (.sipush 200, 3) := by decide +kernel
theorem dX5_clearIn_17 : decode cX5_clearIn 17 = .ok (.if_icmp .gt 32, 3) := by decide +kernel
theorem dX5_clearIn_20 : decode cX5_clearIn 20 = .ok (.aload_n 0, 1) := by decide +kernel
theorem dX5_clearIn_21 : decode cX5_clearIn 21 = .ok (.getfield 16, 3) := by decide +kernel
theorem dX5_clearIn_24 : decode cX5_clearIn 24 = .ok (.invokevirtual 180, 3) := by decide +kernel
theorem dX5_clearIn_27 : decode cX5_clearIn 27 = .ok (.ifCond .ne 5, 3) := by decide +kernel
theorem dX5_clearIn_30 : decode cX5_clearIn 30 = .ok (.iload_n 1, 1) := by decide +kernel
theorem dX5_clearIn_31 : decode cX5_clearIn 31 = .ok (.ireturn, 1) := by decide +kernel
theorem dX5_clearIn_32 : decode cX5_clearIn 32 = .ok (.aload_n 0, 1) := by decide +kernel
theorem dX5_clearIn_33 : decode cX5_clearIn 33 = .ok (.getfield 22, 3) := by decide +kernel
theorem dX5_clearIn_36 : decode cX5_clearIn 36 = .ok (.aload_n 0, 1) := by decide +kernel
theorem dX5_clearIn_37 : decode cX5_clearIn 37 = .ok (.getfield 16, 3) := by decide +kernel
theorem dX5_clearIn_40 : decode cX5_clearIn 40 = .ok (.invokevirtual 201, 3) := by decide +kernel
theorem dX5_clearIn_43 : decode cX5_clearIn 43 = .ok (.iinc 1 1, 3) := by decide +kernel
theorem dX5_clearIn_46 : decode cX5_clearIn 46 = .ok (.goto (-33), 3) := by decide +kernel
theorem dX5_clearIn_49 : decode cX5_clearIn 49 = .ok (.iconst (-1), 1) := by decide +kernel
theorem dX5_clearIn_50 : decode cX5_clearIn 50 = .ok (.ireturn, 1) := by decide +kernel
theorem dX5_leastPressure_0 : decode cX5_leastPressure 0 = .ok (.iload_n 1, 1) := by decide +kernel
theorem dX5_leastPressure_1 : decode cX5_leastPressure 1 = .ok (.bipush 12, 2) := by decide +kernel
theorem dX5_leastPressure_3 : decode cX5_leastPressure 3 = .ok (.invokestatic 40, 3) := by decide +kernel
theorem dX5_leastPressure_6 : decode cX5_leastPressure 6 = .ok (.aload_n 0, 1) := by decide +kernel
theorem dX5_leastPressure_7 : decode cX5_leastPressure 7 = .ok (.getfield 16, 3) := by decide +kernel
theorem dX5_leastPressure_10 : decode cX5_leastPressure 10 = .ok (.aload_n 0, 1) := by decide +kernel
theorem dX5_leastPressure_11 : decode cX5_leastPressure 11 = .ok (.getfield 12, 3) := by decide +kernel
theorem dX5_leastPressure_14 : decode cX5_leastPressure 14 = .ok (.invokevirtual 195, 3) := by decide +kernel
theorem dX5_leastPressure_17 : decode cX5_leastPressure 17 = .ok (.aload_n 0, 1) := by decide +kernel
theorem dX5_leastPressure_18 : decode cX5_leastPressure 18 = .ok (.getfield 22, 3) := by decide +kernel
theorem dX5_leastPressure_21 : decode cX5_leastPressure 21 = .ok (.invokevirtual 149, 3) := by decide +kernel
theorem dX5_leastPressure_24 : decode cX5_leastPressure 24 = .ok (.aload_n 0, 1) := by decide +kernel
theorem dX5_leastPressure_25 : decode cX5_leastPressure 25 = .ok (.getfield 22, 3) := by decide +kernel
theorem dX5_leastPressure_28 : decode cX5_leastPressure 28 = .ok (.getfield 152, 3) := by decide +kernel
theorem dX5_leastPressure_31 : decode cX5_leastPressure 31 = .ok (.iload_n 1, 1) := by decide +kernel
theorem dX5_leastPressure_32 : decode cX5_leastPressure 32 = .ok (.iconst 4, 1) := by decide +kernel
theorem dX5_leastPressure_33 : decode cX5_leastPressure 33 = .ok (.idiv, 1) := by decide +kernel
theorem dX5_leastPressure_34 : decode cX5_leastPressure 34 = .ok (.aload_n 0, 1) := by decide +kernel
theorem dX5_leastPressure_35 : decode cX5_leastPressure 35 = .ok (.getfield 12, 3) := by decide +kernel
theorem dX5_leastPressure_38 : decode cX5_leastPressure 38 = .ok (.getfield 63, 3) := by decide +kernel
theorem dX5_leastPressure_41 : decode cX5_leastPressure 41 = .ok (.iload_n 1, 1) := by decide +kernel
theorem dX5_leastPressure_42 : decode cX5_leastPressure 42 = .ok (.iaload, 1) := by decide +kernel
theorem dX5_leastPressure_43 : decode cX5_leastPressure 43 = .ok (.iastore, 1) := by decide +kernel
theorem dX5_leastPressure_44 : decode cX5_leastPressure 44 = .ok (.iconst 0, 1) := by decide +kernel
theorem dX5_leastPressure_45 : decode cX5_leastPressure 45 = .ok (.istore_n 2, 1) := by decide +kernel
theorem dX5_leastPressure_46 : decode cX5_leastPressure 46 = .ok (.iload_n 2, 1) := by decide +kernel
theorem dX5_leastPressure_47 : decode cX5_leastPressure 47 = .ok (.bipush 99, 2) := by decide +kernel
theorem dX5_leastPressure_49 : decode cX5_leastPressure 49 = .ok (.if_icmp .gt 50, 3) := by decide +kernel
theorem dX5_leastPressure_52 : decode cX5_leastPressure 52 = .ok (.aload_n 0, 1) := by decide +kernel
theorem dX5_leastPressure_53 : decode cX5_leastPressure 53 = .ok (.getfield 16, 3) := by decide +kernel
theorem dX5_leastPressure_56 : decode cX5_leastPressure 56 = .ok (.getfield 52, 3) := by decide +kernel
theorem dX5_leastPressure_59 : decode cX5_leastPressure 59 = .ok (.iload_n 1, 1) := by decide +kernel
theorem dX5_leastPressure_60 : decode cX5_leastPressure 60 = .ok (.iconst 4, 1) := by decide +kernel
theorem dX5_leastPressure_61 : decode cX5_leastPressure 61 = .ok (.idiv, 1) := by decide +kernel
theorem dX5_leastPressure_62 : decode cX5_leastPressure 62 = .ok (.iload_n 2, 1) := by decide +kernel
theorem dX5_leastPressure_63 : decode cX5_leastPressure 63 = .ok (.iastore, 1) := by decide +kernel
theorem dX5_leastPressure_64 : decode cX5_leastPressure 64 = .ok (.aload_n 0, 1) := by decide +kernel
theorem dX5_leastPressure_65 : decode cX5_leastPressure 65 = .ok (.getfield 16, 3) := by decide +kernel
theorem dX5_leastPressure_68 : decode cX5_leastPressure 68 = .ok (.iload_n 1, 1) := by decide +kernel
theorem dX5_leastPressure_69 : decode cX5_leastPressure 69 = .ok (.aload_n 0, 1) := by decide +kernel
theorem dX5_leastPressure_70 : decode cX5_leastPressure 70 = .ok (.getfield 22, 3) := by decide +kernel
theorem dX5_leastPressure_73 : decode cX5_leastPressure 73 = .ok (.getfield 152, 3) := by decide +kernel
theorem dX5_leastPressure_76 : decode cX5_leastPressure 76 = .ok (.invokevirtual 155, 3) := by decide +kernel
theorem dX5_leastPressure_79 : decode cX5_leastPressure 79 = .ok (.aload_n 0, 1) := by decide +kernel
theorem dX5_leastPressure_80 : decode cX5_leastPressure 80 = .ok (.getfield 12, 3) := by decide +kernel
theorem dX5_leastPressure_83 : decode cX5_leastPressure 83 = .ok (.getfield 104, 3) := by decide +kernel
theorem dX5_leastPressure_86 : decode cX5_leastPressure 86 = .ok (.iconst 1, 1) := by decide +kernel
theorem dX5_leastPressure_87 : decode cX5_leastPressure 87 = .ok (.iaload, 1) := by decide +kernel
theorem dX5_leastPressure_88 : decode cX5_leastPressure 88 = .ok (.if_icmp .lt 5, 3) := by decide +kernel
theorem dX5_leastPressure_91 : decode cX5_leastPressure 91 = .ok (.iload_n 2, 1) := by decide +kernel
theorem dX5_leastPressure_92 : decode cX5_leastPressure 92 = .ok (.ireturn, 1) := by decide +kernel
theorem dX5_leastPressure_93 : decode cX5_leastPressure 93 = .ok (.iinc 2 1, 3) := by decide +kernel
theorem dX5_leastPressure_96 : decode cX5_leastPressure 96 = .ok (.goto (-50), 3) := by decide +kernel
theorem dX5_leastPressure_99 : decode cX5_leastPressure 99 = .ok (.iconst (-1), 1) := by decide +kernel
theorem dX5_leastPressure_100 : decode cX5_leastPressure 100 = .ok (.ireturn, 1) := by decide +kernel
theorem dX5_cleanShare_0 : decode cX5_cleanShare 0 = .ok (.bipush 12, 2) := by decide +kernel
theorem dX5_cleanShare_2 : decode cX5_cleanShare 2 = .ok (.aload_n 0, 1) := by decide +kernel
theorem dX5_cleanShare_3 : decode cX5_cleanShare 3 = .ok (.getfield 12, 3) := by decide +kernel
theorem dX5_cleanShare_6 : decode cX5_cleanShare 6 = .ok (.invokevirtual 180, 3) := by decide +kernel
theorem dX5_cleanShare_9 : decode cX5_cleanShare 9 = .ok (.isub, 1) := by decide +kernel
theorem dX5_cleanShare_10 : decode cX5_cleanShare 10 = .ok (.i2d, 1) := by decide +kernel
theorem dX5_cleanShare_11 : decode cX5_cleanShare 11 = .ok (.ldc2_w 204, 3) := by decide +kernel
theorem dX5_cleanShare_14 : decode cX5_cleanShare 14 = .ok (.ddiv, 1) := by decide +kernel
theorem dX5_cleanShare_15 : decode cX5_cleanShare 15 = .ok (.dreturn, 1) := by decide +kernel
theorem dX5_requireIndex_0 : decode cX5_requireIndex 0 = .ok (.iload_n 0, 1) := by decide +kernel
theorem dX5_requireIndex_1 : decode cX5_requireIndex 1 = .ok (.ifCond .lt 8, 3) := by decide +kernel
theorem dX5_requireIndex_4 : decode cX5_requireIndex 4 = .ok (.iload_n 0, 1) := by decide +kernel
theorem dX5_requireIndex_5 : decode cX5_requireIndex 5 = .ok (.iload_n 1, 1) := by decide +kernel
theorem dX5_requireIndex_6 : decode cX5_requireIndex 6 = .ok (.if_icmp .lt 14, 3) := by decide +kernel
theorem dX5_requireIndex_9 : decode cX5_requireIndex 9 = .ok (.new 265, 3) := by decide +kernel
theorem dX5_requireIndex_12 : decode cX5_requireIndex 12 = .ok (.dup, 1) := by decide +kernel
theorem dX5_requireIndex_13 : decode cX5_requireIndex 13 = .ok (.ldc_w 267, 3) := by decide +kernel
theorem dX5_requireIndex_16 : decode cX5_requireIndex 16 = .ok (.invokespecial 269, 3) := by decide +kernel
theorem dX5_requireIndex_19 : decode cX5_requireIndex 19 = .ok (.athrow, 1) := by decide +kernel
theorem dX5_requireIndex_20 : decode cX5_requireIndex 20 = .ok (.return_, 1) := by decide +kernel
theorem dX5_requireRange_0 : decode cX5_requireRange 0 = .ok (.iload_n 0, 1) := by decide +kernel
theorem dX5_requireRange_1 : decode cX5_requireRange 1 = .ok (.iload_n 1, 1) := by decide +kernel
theorem dX5_requireRange_2 : decode cX5_requireRange 2 = .ok (.if_icmp .lt 8, 3) := by decide +kernel
theorem dX5_requireRange_5 : decode cX5_requireRange 5 = .ok (.iload_n 0, 1) := by decide +kernel
theorem dX5_requireRange_6 : decode cX5_requireRange 6 = .ok (.iload_n 2, 1) := by decide +kernel
theorem dX5_requireRange_7 : decode cX5_requireRange 7 = .ok (.if_icmp .le 14, 3) := by decide +kernel
theorem dX5_requireRange_10 : decode cX5_requireRange 10 = .ok (.new 126, 3) := by decide +kernel
theorem dX5_requireRange_13 : decode cX5_requireRange 13 = .ok (.dup, 1) := by decide +kernel
theorem dX5_requireRange_14 : decode cX5_requireRange 14 = .ok (.ldc_w 270, 3) := by decide +kernel
theorem dX5_requireRange_17 : decode cX5_requireRange 17 = .ok (.invokespecial 130, 3) := by decide +kernel
theorem dX5_requireRange_20 : decode cX5_requireRange 20 = .ok (.athrow, 1) := by decide +kernel
theorem dX5_requireRange_21 : decode cX5_requireRange 21 = .ok (.return_, 1) := by decide +kernel
theorem dX5_sum_0 : decode cX5_sum 0 = .ok (.iconst 0, 1) := by decide +kernel
theorem dX5_sum_1 : decode cX5_sum 1 = .ok (.istore_n 1, 1) := by decide +kernel
theorem dX5_sum_2 : decode cX5_sum 2 = .ok (.aload_n 0, 1) := by decide +kernel
theorem dX5_sum_3 : decode cX5_sum 3 = .ok (.astore_n 2, 1) := by decide +kernel
theorem dX5_sum_4 : decode cX5_sum 4 = .ok (.aload_n 2, 1) := by decide +kernel
theorem dX5_sum_5 : decode cX5_sum 5 = .ok (.arraylength, 1) := by decide +kernel
theorem dX5_sum_6 : decode cX5_sum 6 = .ok (.istore_n 3, 1) := by decide +kernel
theorem dX5_sum_7 : decode cX5_sum 7 = .ok (.iconst 0, 1) := by decide +kernel
theorem dX5_sum_8 : decode cX5_sum 8 = .ok (.istore 4, 2) := by decide +kernel
theorem dX5_sum_10 : decode cX5_sum 10 = .ok (.iload 4, 2) := by decide +kernel
theorem dX5_sum_12 : decode cX5_sum 12 = .ok (.iload_n 3, 1) := by decide +kernel
theorem dX5_sum_13 : decode cX5_sum 13 = .ok (.if_icmp .ge 20, 3) := by decide +kernel
theorem dX5_sum_16 : decode cX5_sum 16 = .ok (.aload_n 2, 1) := by decide +kernel
theorem dX5_sum_17 : decode cX5_sum 17 = .ok (.iload 4, 2) := by decide +kernel
theorem dX5_sum_19 : decode cX5_sum 19 = .ok (.iaload, 1) := by decide +kernel
theorem dX5_sum_20 : decode cX5_sum 20 = .ok (.istore 5, 2) := by decide +kernel
theorem dX5_sum_22 : decode cX5_sum 22 = .ok (.iload_n 1, 1) := by decide +kernel
theorem dX5_sum_23 : decode cX5_sum 23 = .ok (.iload 5, 2) := by decide +kernel
theorem dX5_sum_25 : decode cX5_sum 25 = .ok (.iadd, 1) := by decide +kernel
theorem dX5_sum_26 : decode cX5_sum 26 = .ok (.istore_n 1, 1) := by decide +kernel
theorem dX5_sum_27 : decode cX5_sum 27 = .ok (.iinc 4 1, 3) := by decide +kernel
theorem dX5_sum_30 : decode cX5_sum 30 = .ok (.goto (-20), 3) := by decide +kernel
theorem dX5_sum_33 : decode cX5_sum 33 = .ok (.iload_n 1, 1) := by decide +kernel
theorem dX5_sum_34 : decode cX5_sum 34 = .ok (.ireturn, 1) := by decide +kernel
theorem dJ9_min_7cf53_0 : decode cJ9_min_7cf53 0 = .ok (.iload_n 0, 1) := by decide +kernel
theorem dJ9_min_7cf53_1 : decode cJ9_min_7cf53 1 = .ok (.iload_n 1, 1) := by decide +kernel
theorem dJ9_min_7cf53_2 : decode cJ9_min_7cf53 2 = .ok (.if_icmp .gt 7, 3) := by decide +kernel
theorem dJ9_min_7cf53_5 : decode cJ9_min_7cf53 5 = .ok (.iload_n 0, 1) := by decide +kernel
theorem dJ9_min_7cf53_6 : decode cJ9_min_7cf53 6 = .ok (.goto 4, 3) := by decide +kernel
theorem dJ9_min_7cf53_9 : decode cJ9_min_7cf53 9 = .ok (.iload_n 1, 1) := by decide +kernel
theorem dJ9_min_7cf53_10 : decode cJ9_min_7cf53 10 = .ok (.ireturn, 1) := by decide +kernel
theorem dJ7_fill_53178_0 : decode cJ7_fill_53178 0 = .ok (.iconst 0, 1) := by decide +kernel
theorem dJ7_fill_53178_1 : decode cJ7_fill_53178 1 = .ok (.istore_n 2, 1) := by decide +kernel
theorem dJ7_fill_53178_2 : decode cJ7_fill_53178 2 = .ok (.aload_n 0, 1) := by decide +kernel
theorem dJ7_fill_53178_3 : decode cJ7_fill_53178 3 = .ok (.arraylength, 1) := by decide +kernel
theorem dJ7_fill_53178_4 : decode cJ7_fill_53178 4 = .ok (.istore_n 3, 1) := by decide +kernel
theorem dJ7_fill_53178_5 : decode cJ7_fill_53178 5 = .ok (.iload_n 2, 1) := by decide +kernel
theorem dJ7_fill_53178_6 : decode cJ7_fill_53178 6 = .ok (.iload_n 3, 1) := by decide +kernel
theorem dJ7_fill_53178_7 : decode cJ7_fill_53178 7 = .ok (.if_icmp .ge 13, 3) := by decide +kernel
theorem dJ7_fill_53178_10 : decode cJ7_fill_53178 10 = .ok (.aload_n 0, 1) := by decide +kernel
theorem dJ7_fill_53178_11 : decode cJ7_fill_53178 11 = .ok (.iload_n 2, 1) := by decide +kernel
theorem dJ7_fill_53178_12 : decode cJ7_fill_53178 12 = .ok (.iload_n 1, 1) := by decide +kernel
theorem dJ7_fill_53178_13 : decode cJ7_fill_53178 13 = .ok (.iastore, 1) := by decide +kernel
theorem dJ7_fill_53178_14 : decode cJ7_fill_53178 14 = .ok (.iinc 2 1, 3) := by decide +kernel
theorem dJ7_fill_53178_17 : decode cJ7_fill_53178 17 = .ok (.goto (-12), 3) := by decide +kernel
theorem dJ7_fill_53178_20 : decode cJ7_fill_53178 20 = .ok (.return_, 1) := by decide +kernel
theorem dL_low_0 : decode cL_low 0 = .ok (.iload_n 0, 1) := by decide +kernel
theorem dL_low_1 : decode cL_low 1 = .ok (.ldc 7, 2) := by decide +kernel
theorem dL_low_3 : decode cL_low 3 = .ok (.iand, 1) := by decide +kernel
theorem dL_low_4 : decode cL_low 4 = .ok (.iload_n 1, 1) := by decide +kernel
theorem dL_low_5 : decode cL_low 5 = .ok (.irem, 1) := by decide +kernel
theorem dL_low_6 : decode cL_low 6 = .ok (.ireturn, 1) := by decide +kernel
theorem dL_cell_0 : decode cL_cell 0 = .ok (.iload_n 1, 1) := by decide +kernel
theorem dL_cell_1 : decode cL_cell 1 = .ok (.aload_n 0, 1) := by decide +kernel
theorem dL_cell_2 : decode cL_cell 2 = .ok (.arraylength, 1) := by decide +kernel
theorem dL_cell_3 : decode cL_cell 3 = .ok (.if_icmp .ge 9, 3) := by decide +kernel
theorem dL_cell_6 : decode cL_cell 6 = .ok (.aload_n 0, 1) := by decide +kernel
theorem dL_cell_7 : decode cL_cell 7 = .ok (.iload_n 1, 1) := by decide +kernel
theorem dL_cell_8 : decode cL_cell 8 = .ok (.iaload, 1) := by decide +kernel
theorem dL_cell_9 : decode cL_cell 9 = .ok (.goto 11, 3) := by decide +kernel
theorem dL_cell_12 : decode cL_cell 12 = .ok (.ldc 8, 2) := by decide +kernel
theorem dL_cell_14 : decode cL_cell 14 = .ok (.iload_n 1, 1) := by decide +kernel
theorem dL_cell_15 : decode cL_cell 15 = .ok (.imul, 1) := by decide +kernel
theorem dL_cell_16 : decode cL_cell 16 = .ok (.sipush 977, 3) := by decide +kernel
theorem dL_cell_19 : decode cL_cell 19 = .ok (.iadd, 1) := by decide +kernel
theorem dL_cell_20 : decode cL_cell 20 = .ok (.ireturn, 1) := by decide +kernel
theorem dL_send_0 : decode cL_send 0 = .ok (.aload_n 0, 1) := by decide +kernel
theorem dL_send_1 : decode cL_send 1 = .ok (.iload_n 1, 1) := by decide +kernel
theorem dL_send_2 : decode cL_send 2 = .ok (.iload_n 2, 1) := by decide +kernel
theorem dL_send_3 : decode cL_send 3 = .ok (.invokevirtual 9, 3) := by decide +kernel
theorem dL_send_6 : decode cL_send 6 = .ok (.ireturn, 1) := by decide +kernel
theorem dL_send_7 : decode cL_send 7 = .ok (.astore_n 3, 1) := by decide +kernel
theorem dL_send_8 : decode cL_send 8 = .ok (.bipush (-3), 2) := by decide +kernel
theorem dL_send_10 : decode cL_send 10 = .ok (.ireturn, 1) := by decide +kernel
theorem dL_undo_0 : decode cL_undo 0 = .ok (.aload_n 0, 1) := by decide +kernel
theorem dL_undo_1 : decode cL_undo 1 = .ok (.invokevirtual 17, 3) := by decide +kernel
theorem dL_undo_4 : decode cL_undo 4 = .ok (.ireturn, 1) := by decide +kernel
theorem dL_undo_5 : decode cL_undo 5 = .ok (.astore_n 1, 1) := by decide +kernel
theorem dL_undo_6 : decode cL_undo 6 = .ok (.bipush (-30), 2) := by decide +kernel
theorem dL_undo_8 : decode cL_undo 8 = .ok (.ireturn, 1) := by decide +kernel
theorem dL_town_0 : decode cL_town 0 = .ok (.iconst 0, 1) := by decide +kernel
theorem dL_town_1 : decode cL_town 1 = .ok (.istore_n 1, 1) := by decide +kernel
theorem dL_town_2 : decode cL_town 2 = .ok (.iconst 0, 1) := by decide +kernel
theorem dL_town_3 : decode cL_town 3 = .ok (.istore_n 2, 1) := by decide +kernel
theorem dL_town_4 : decode cL_town 4 = .ok (.iconst 0, 1) := by decide +kernel
theorem dL_town_5 : decode cL_town 5 = .ok (.istore_n 3, 1) := by decide +kernel
theorem dL_town_6 : decode cL_town 6 = .ok (.iconst 0, 1) := by decide +kernel
theorem dL_town_7 : decode cL_town 7 = .ok (.istore 4, 2) := by decide +kernel
theorem dL_town_9 : decode cL_town 9 = .ok (.iconst 1, 1) := by decide +kernel
theorem dL_town_10 : decode cL_town 10 = .ok (.istore 5, 2) := by decide +kernel
theorem dL_town_12 : decode cL_town 12 = .ok (.iconst 0, 1) := by decide +kernel
theorem dL_town_13 : decode cL_town 13 = .ok (.istore 6, 2) := by decide +kernel
theorem dL_town_15 : decode cL_town 15 = .ok (.iload 6, 2) := by decide +kernel
theorem dL_town_17 : decode cL_town 17 = .ok (.bipush 12, 2) := by decide +kernel
theorem dL_town_19 : decode cL_town 19 = .ok (.if_icmp .ge 258, 3) := by decide +kernel
theorem dL_town_22 : decode cL_town 22 = .ok (.iload 5, 2) := by decide +kernel
theorem dL_town_24 : decode cL_town 24 = .ok (.ifCond .eq 253, 3) := by decide +kernel
theorem dL_town_27 : decode cL_town 27 = .ok (.aload_n 0, 1) := by decide +kernel
theorem dL_town_28 : decode cL_town 28 = .ok (.iload 6, 2) := by decide +kernel
theorem dL_town_30 : decode cL_town 30 = .ok (.iconst 4, 1) := by decide +kernel
theorem dL_town_31 : decode cL_town 31 = .ok (.invokevirtual 21, 3) := by decide +kernel
theorem dL_town_34 : decode cL_town 34 = .ok (.istore 7, 2) := by decide +kernel
theorem dL_town_36 : decode cL_town 36 = .ok (.iload_n 1, 1) := by decide +kernel
theorem dL_town_37 : decode cL_town 37 = .ok (.aload_n 0, 1) := by decide +kernel
theorem dL_town_38 : decode cL_town 38 = .ok (.iload 6, 2) := by decide +kernel
theorem dL_town_40 : decode cL_town 40 = .ok (.iconst 0, 1) := by decide +kernel
theorem dL_town_41 : decode cL_town 41 = .ok (.invokevirtual 21, 3) := by decide +kernel
theorem dL_town_44 : decode cL_town 44 = .ok (.iadd, 1) := by decide +kernel
theorem dL_town_45 : decode cL_town 45 = .ok (.istore_n 1, 1) := by decide +kernel
theorem dL_town_46 : decode cL_town 46 = .ok (.iload_n 2, 1) := by decide +kernel
theorem dL_town_47 : decode cL_town 47 = .ok (.aload_n 0, 1) := by decide +kernel
theorem dL_town_48 : decode cL_town 48 = .ok (.iload 6, 2) := by decide +kernel
theorem dL_town_50 : decode cL_town 50 = .ok (.iconst 2, 1) := by decide +kernel
theorem dL_town_51 : decode cL_town 51 = .ok (.invokevirtual 21, 3) := by decide +kernel
theorem dL_town_54 : decode cL_town 54 = .ok (.iadd, 1) := by decide +kernel
theorem dL_town_55 : decode cL_town 55 = .ok (.istore_n 2, 1) := by decide +kernel
theorem dL_town_56 : decode cL_town 56 = .ok (.iload_n 3, 1) := by decide +kernel
theorem dL_town_57 : decode cL_town 57 = .ok (.aload_n 0, 1) := by decide +kernel
theorem dL_town_58 : decode cL_town 58 = .ok (.iload 6, 2) := by decide +kernel
theorem dL_town_60 : decode cL_town 60 = .ok (.iconst 5, 1) := by decide +kernel
theorem dL_town_61 : decode cL_town 61 = .ok (.invokevirtual 21, 3) := by decide +kernel
theorem dL_town_64 : decode cL_town 64 = .ok (.iadd, 1) := by decide +kernel
theorem dL_town_65 : decode cL_town 65 = .ok (.istore_n 3, 1) := by decide +kernel
theorem dL_town_66 : decode cL_town 66 = .ok (.iload 4, 2) := by decide +kernel
theorem dL_town_68 : decode cL_town 68 = .ok (.aload_n 0, 1) := by decide +kernel
theorem dL_town_69 : decode cL_town 69 = .ok (.iload 6, 2) := by decide +kernel
theorem dL_town_71 : decode cL_town 71 = .ok (.bipush 6, 2) := by decide +kernel
theorem dL_town_73 : decode cL_town 73 = .ok (.invokevirtual 21, 3) := by decide +kernel
theorem dL_town_76 : decode cL_town 76 = .ok (.iadd, 1) := by decide +kernel
theorem dL_town_77 : decode cL_town 77 = .ok (.istore 4, 2) := by decide +kernel
theorem dL_town_79 : decode cL_town 79 = .ok (.aload_n 0, 1) := by decide +kernel
theorem dL_town_80 : decode cL_town 80 = .ok (.iload 6, 2) := by decide +kernel
theorem dL_town_82 : decode cL_town 82 = .ok (.iconst 0, 1) := by decide +kernel
theorem dL_town_83 : decode cL_town 83 = .ok (.invokevirtual 21, 3) := by decide +kernel
theorem dL_town_86 : decode cL_town 86 = .ok (.ifCond .lt 182, 3) := by decide +kernel
theorem dL_town_89 : decode cL_town 89 = .ok (.aload_n 0, 1) := by decide +kernel
theorem dL_town_90 : decode cL_town 90 = .ok (.iload 6, 2) := by decide +kernel
theorem dL_town_92 : decode cL_town 92 = .ok (.iconst 0, 1) := by decide +kernel
theorem dL_town_93 : decode cL_town 93 = .ok (.invokevirtual 21, 3) := by decide +kernel
theorem dL_town_96 : decode cL_town 96 = .ok (.sipush 999, 3) := by decide +kernel
theorem dL_town_99 : decode cL_town 99 = .ok (.if_icmp .gt 169, 3) := by decide +kernel
theorem dL_town_102 : decode cL_town 102 = .ok (.aload_n 0, 1) := by decide +kernel
theorem dL_town_103 : decode cL_town 103 = .ok (.iload 6, 2) := by decide +kernel
theorem dL_town_105 : decode cL_town 105 = .ok (.iconst 2, 1) := by decide +kernel
theorem dL_town_106 : decode cL_town 106 = .ok (.invokevirtual 21, 3) := by decide +kernel
theorem dL_town_109 : decode cL_town 109 = .ok (.iconst 1, 1) := by decide +kernel
theorem dL_town_110 : decode cL_town 110 = .ok (.if_icmp .ne 7, 3) := by decide +kernel
theorem dL_town_113 : decode cL_town 113 = .ok (.iconst 1, 1) := by decide +kernel
theorem dL_town_114 : decode cL_town 114 = .ok (.goto 4, 3) := by decide +kernel
theorem dL_town_117 : decode cL_town 117 = .ok (.iconst 0, 1) := by decide +kernel
theorem dL_town_118 : decode cL_town 118 = .ok (.aload_n 0, 1) := by decide +kernel
theorem dL_town_119 : decode cL_town 119 = .ok (.iload 6, 2) := by decide +kernel
theorem dL_town_121 : decode cL_town 121 = .ok (.iconst 0, 1) := by decide +kernel
theorem dL_town_122 : decode cL_town 122 = .ok (.invokevirtual 21, 3) := by decide +kernel
theorem dL_town_125 : decode cL_town 125 = .ok (.aload_n 0, 1) := by decide +kernel
theorem dL_town_126 : decode cL_town 126 = .ok (.iconst 0, 1) := by decide +kernel
theorem dL_town_127 : decode cL_town 127 = .ok (.invokevirtual 24, 3) := by decide +kernel
theorem dL_town_130 : decode cL_town 130 = .ok (.if_icmp .le 7, 3) := by decide +kernel
theorem dL_town_133 : decode cL_town 133 = .ok (.iconst 1, 1) := by decide +kernel
theorem dL_town_134 : decode cL_town 134 = .ok (.goto 4, 3) := by decide +kernel
theorem dL_town_137 : decode cL_town 137 = .ok (.iconst 0, 1) := by decide +kernel
theorem dL_town_138 : decode cL_town 138 = .ok (.if_icmp .ne 130, 3) := by decide +kernel
theorem dL_town_141 : decode cL_town 141 = .ok (.aload_n 0, 1) := by decide +kernel
theorem dL_town_142 : decode cL_town 142 = .ok (.iload 6, 2) := by decide +kernel
theorem dL_town_144 : decode cL_town 144 = .ok (.iconst 3, 1) := by decide +kernel
theorem dL_town_145 : decode cL_town 145 = .ok (.invokevirtual 21, 3) := by decide +kernel
theorem dL_town_148 : decode cL_town 148 = .ok (.ifCond .lt 120, 3) := by decide +kernel
theorem dL_town_151 : decode cL_town 151 = .ok (.iload 7, 2) := by decide +kernel
theorem dL_town_153 : decode cL_town 153 = .ok (.iload 6, 2) := by decide +kernel
theorem dL_town_155 : decode cL_town 155 = .ok (.iconst 1, 1) := by decide +kernel
theorem dL_town_156 : decode cL_town 156 = .ok (.isub, 1) := by decide +kernel
theorem dL_town_157 : decode cL_town 157 = .ok (.if_icmp .ne 8, 3) := by decide +kernel
theorem dL_town_160 : decode cL_town 160 = .ok (.iload 6, 2) := by decide +kernel
theorem dL_town_162 : decode cL_town 162 = .ok (.ifCond .gt 16, 3) := by decide +kernel
theorem dL_town_165 : decode cL_town 165 = .ok (.iload 7, 2) := by decide +kernel
theorem dL_town_167 : decode cL_town 167 = .ok (.iconst (-1), 1) := by decide +kernel
theorem dL_town_168 : decode cL_town 168 = .ok (.if_icmp .ne 100, 3) := by decide +kernel
theorem dL_town_171 : decode cL_town 171 = .ok (.iload 6, 2) := by decide +kernel
theorem dL_town_173 : decode cL_town 173 = .ok (.iconst 4, 1) := by decide +kernel
theorem dL_town_174 : decode cL_town 174 = .ok (.irem, 1) := by decide +kernel
theorem dL_town_175 : decode cL_town 175 = .ok (.ifCond .ne 93, 3) := by decide +kernel
theorem dL_town_178 : decode cL_town 178 = .ok (.iload 6, 2) := by decide +kernel
theorem dL_town_180 : decode cL_town 180 = .ok (.iconst 4, 1) := by decide +kernel
theorem dL_town_181 : decode cL_town 181 = .ok (.irem, 1) := by decide +kernel
theorem dL_town_182 : decode cL_town 182 = .ok (.ifCond .eq 22, 3) := by decide +kernel
theorem dL_town_185 : decode cL_town 185 = .ok (.aload_n 0, 1) := by decide +kernel
theorem dL_town_186 : decode cL_town 186 = .ok (.iload 6, 2) := by decide +kernel
theorem dL_town_188 : decode cL_town 188 = .ok (.iconst 3, 1) := by decide +kernel
theorem dL_town_189 : decode cL_town 189 = .ok (.invokevirtual 21, 3) := by decide +kernel
theorem dL_town_192 : decode cL_town 192 = .ok (.aload_n 0, 1) := by decide +kernel
theorem dL_town_193 : decode cL_town 193 = .ok (.iload 6, 2) := by decide +kernel
theorem dL_town_195 : decode cL_town 195 = .ok (.iconst 1, 1) := by decide +kernel
theorem dL_town_196 : decode cL_town 196 = .ok (.isub, 1) := by decide +kernel
theorem dL_town_197 : decode cL_town 197 = .ok (.iconst 3, 1) := by decide +kernel
theorem dL_town_198 : decode cL_town 198 = .ok (.invokevirtual 21, 3) := by decide +kernel
theorem dL_town_201 : decode cL_town 201 = .ok (.if_icmp .gt 67, 3) := by decide +kernel
theorem dL_town_204 : decode cL_town 204 = .ok (.iload 7, 2) := by decide +kernel
theorem dL_town_206 : decode cL_town 206 = .ok (.iconst (-1), 1) := by decide +kernel
theorem dL_town_207 : decode cL_town 207 = .ok (.if_icmp .eq 20, 3) := by decide +kernel
theorem dL_town_210 : decode cL_town 210 = .ok (.aload_n 0, 1) := by decide +kernel
theorem dL_town_211 : decode cL_town 211 = .ok (.iload 6, 2) := by decide +kernel
theorem dL_town_213 : decode cL_town 213 = .ok (.iconst 3, 1) := by decide +kernel
theorem dL_town_214 : decode cL_town 214 = .ok (.invokevirtual 21, 3) := by decide +kernel
theorem dL_town_217 : decode cL_town 217 = .ok (.aload_n 0, 1) := by decide +kernel
theorem dL_town_218 : decode cL_town 218 = .ok (.iload 7, 2) := by decide +kernel
theorem dL_town_220 : decode cL_town 220 = .ok (.iconst 3, 1) := by decide +kernel
theorem dL_town_221 : decode cL_town 221 = .ok (.invokevirtual 21, 3) := by decide +kernel
theorem dL_town_224 : decode cL_town 224 = .ok (.if_icmp .gt 44, 3) := by decide +kernel
theorem dL_town_227 : decode cL_town 227 = .ok (.aload_n 0, 1) := by decide +kernel
theorem dL_town_228 : decode cL_town 228 = .ok (.iload 6, 2) := by decide +kernel
theorem dL_town_230 : decode cL_town 230 = .ok (.bipush 7, 2) := by decide +kernel
theorem dL_town_232 : decode cL_town 232 = .ok (.invokevirtual 21, 3) := by decide +kernel
theorem dL_town_235 : decode cL_town 235 = .ok (.aload_n 0, 1) := by decide +kernel
theorem dL_town_236 : decode cL_town 236 = .ok (.iconst 0, 1) := by decide +kernel
theorem dL_town_237 : decode cL_town 237 = .ok (.invokevirtual 28, 3) := by decide +kernel
theorem dL_town_240 : decode cL_town 240 = .ok (.if_icmp .gt 28, 3) := by decide +kernel
theorem dL_town_243 : decode cL_town 243 = .ok (.aload_n 0, 1) := by decide +kernel
theorem dL_town_244 : decode cL_town 244 = .ok (.iload 6, 2) := by decide +kernel
theorem dL_town_246 : decode cL_town 246 = .ok (.invokevirtual 31, 3) := by decide +kernel
theorem dL_town_249 : decode cL_town 249 = .ok (.iconst (-1), 1) := by decide +kernel
theorem dL_town_250 : decode cL_town 250 = .ok (.if_icmp .lt 18, 3) := by decide +kernel
theorem dL_town_253 : decode cL_town 253 = .ok (.aload_n 0, 1) := by decide +kernel
theorem dL_town_254 : decode cL_town 254 = .ok (.iload 6, 2) := by decide +kernel
theorem dL_town_256 : decode cL_town 256 = .ok (.invokevirtual 31, 3) := by decide +kernel
theorem dL_town_259 : decode cL_town 259 = .ok (.bipush 99, 2) := by decide +kernel
theorem dL_town_261 : decode cL_town 261 = .ok (.if_icmp .gt 7, 3) := by decide +kernel
theorem dL_town_264 : decode cL_town 264 = .ok (.iconst 1, 1) := by decide +kernel
theorem dL_town_265 : decode cL_town 265 = .ok (.goto 4, 3) := by decide +kernel
theorem dL_town_268 : decode cL_town 268 = .ok (.iconst 0, 1) := by decide +kernel
theorem dL_town_269 : decode cL_town 269 = .ok (.istore 5, 2) := by decide +kernel
theorem dL_town_271 : decode cL_town 271 = .ok (.iinc 6 1, 3) := by decide +kernel
theorem dL_town_274 : decode cL_town 274 = .ok (.goto (-259), 3) := by decide +kernel
theorem dL_town_277 : decode cL_town 277 = .ok (.iconst 0, 1) := by decide +kernel
theorem dL_town_278 : decode cL_town 278 = .ok (.istore 6, 2) := by decide +kernel
theorem dL_town_280 : decode cL_town 280 = .ok (.iconst 0, 1) := by decide +kernel
theorem dL_town_281 : decode cL_town 281 = .ok (.istore 7, 2) := by decide +kernel
theorem dL_town_283 : decode cL_town 283 = .ok (.iload 7, 2) := by decide +kernel
theorem dL_town_285 : decode cL_town 285 = .ok (.iconst 3, 1) := by decide +kernel
theorem dL_town_286 : decode cL_town 286 = .ok (.if_icmp .ge 174, 3) := by decide +kernel
theorem dL_town_289 : decode cL_town 289 = .ok (.iload 5, 2) := by decide +kernel
theorem dL_town_291 : decode cL_town 291 = .ok (.ifCond .eq 169, 3) := by decide +kernel
theorem dL_town_294 : decode cL_town 294 = .ok (.aload_n 0, 1) := by decide +kernel
theorem dL_town_295 : decode cL_town 295 = .ok (.iload 7, 2) := by decide +kernel
theorem dL_town_297 : decode cL_town 297 = .ok (.iconst 0, 1) := by decide +kernel
theorem dL_town_298 : decode cL_town 298 = .ok (.invokevirtual 34, 3) := by decide +kernel
theorem dL_town_301 : decode cL_town 301 = .ok (.istore 8, 2) := by decide +kernel
theorem dL_town_303 : decode cL_town 303 = .ok (.aload_n 0, 1) := by decide +kernel
theorem dL_town_304 : decode cL_town 304 = .ok (.iload 7, 2) := by decide +kernel
theorem dL_town_306 : decode cL_town 306 = .ok (.invokevirtual 37, 3) := by decide +kernel
theorem dL_town_309 : decode cL_town 309 = .ok (.istore 9, 2) := by decide +kernel
theorem dL_town_311 : decode cL_town 311 = .ok (.iconst 0, 1) := by decide +kernel
theorem dL_town_312 : decode cL_town 312 = .ok (.istore 10, 2) := by decide +kernel
theorem dL_town_314 : decode cL_town 314 = .ok (.aload_n 0, 1) := by decide +kernel
theorem dL_town_315 : decode cL_town 315 = .ok (.iload 7, 2) := by decide +kernel
theorem dL_town_317 : decode cL_town 317 = .ok (.iload 10, 2) := by decide +kernel
theorem dL_town_319 : decode cL_town 319 = .ok (.invokevirtual 34, 3) := by decide +kernel
theorem dL_town_322 : decode cL_town 322 = .ok (.ifCond .lt 9, 3) := by decide +kernel
theorem dL_town_325 : decode cL_town 325 = .ok (.iinc 10 1, 3) := by decide +kernel
theorem dL_town_328 : decode cL_town 328 = .ok (.goto (-14), 3) := by decide +kernel
theorem dL_town_331 : decode cL_town 331 = .ok (.iload 6, 2) := by decide +kernel
theorem dL_town_333 : decode cL_town 333 = .ok (.iload 10, 2) := by decide +kernel
theorem dL_town_335 : decode cL_town 335 = .ok (.iadd, 1) := by decide +kernel
theorem dL_town_336 : decode cL_town 336 = .ok (.istore 6, 2) := by decide +kernel
theorem dL_town_338 : decode cL_town 338 = .ok (.iload 10, 2) := by decide +kernel
theorem dL_town_340 : decode cL_town 340 = .ok (.bipush 8, 2) := by decide +kernel
theorem dL_town_342 : decode cL_town 342 = .ok (.if_icmp .gt 109, 3) := by decide +kernel
theorem dL_town_345 : decode cL_town 345 = .ok (.iload 9, 2) := by decide +kernel
theorem dL_town_347 : decode cL_town 347 = .ok (.iconst (-1), 1) := by decide +kernel
theorem dL_town_348 : decode cL_town 348 = .ok (.if_icmp .ne 7, 3) := by decide +kernel
theorem dL_town_351 : decode cL_town 351 = .ok (.iconst 1, 1) := by decide +kernel
theorem dL_town_352 : decode cL_town 352 = .ok (.goto 4, 3) := by decide +kernel
theorem dL_town_355 : decode cL_town 355 = .ok (.iconst 0, 1) := by decide +kernel
theorem dL_town_356 : decode cL_town 356 = .ok (.iload 8, 2) := by decide +kernel
theorem dL_town_358 : decode cL_town 358 = .ok (.iconst (-1), 1) := by decide +kernel
theorem dL_town_359 : decode cL_town 359 = .ok (.if_icmp .ne 7, 3) := by decide +kernel
theorem dL_town_362 : decode cL_town 362 = .ok (.iconst 1, 1) := by decide +kernel
theorem dL_town_363 : decode cL_town 363 = .ok (.goto 4, 3) := by decide +kernel
theorem dL_town_366 : decode cL_town 366 = .ok (.iconst 0, 1) := by decide +kernel
theorem dL_town_367 : decode cL_town 367 = .ok (.if_icmp .ne 84, 3) := by decide +kernel
theorem dL_town_370 : decode cL_town 370 = .ok (.iload 7, 2) := by decide +kernel
theorem dL_town_372 : decode cL_town 372 = .ok (.ifCond .gt 9, 3) := by decide +kernel
theorem dL_town_375 : decode cL_town 375 = .ok (.iload 9, 2) := by decide +kernel
theorem dL_town_377 : decode cL_town 377 = .ok (.iconst 1, 1) := by decide +kernel
theorem dL_town_378 : decode cL_town 378 = .ok (.if_icmp .eq 73, 3) := by decide +kernel
theorem dL_town_381 : decode cL_town 381 = .ok (.iload 9, 2) := by decide +kernel
theorem dL_town_383 : decode cL_town 383 = .ok (.iconst 3, 1) := by decide +kernel
theorem dL_town_384 : decode cL_town 384 = .ok (.if_icmp .gt 67, 3) := by decide +kernel
theorem dL_town_387 : decode cL_town 387 = .ok (.iload 9, 2) := by decide +kernel
theorem dL_town_389 : decode cL_town 389 = .ok (.iconst 3, 1) := by decide +kernel
theorem dL_town_390 : decode cL_town 390 = .ok (.if_icmp .ne 29, 3) := by decide +kernel
theorem dL_town_393 : decode cL_town 393 = .ok (.aload_n 0, 1) := by decide +kernel
theorem dL_town_394 : decode cL_town 394 = .ok (.iload 8, 2) := by decide +kernel
theorem dL_town_396 : decode cL_town 396 = .ok (.iconst 4, 1) := by decide +kernel
theorem dL_town_397 : decode cL_town 397 = .ok (.invokevirtual 21, 3) := by decide +kernel
theorem dL_town_400 : decode cL_town 400 = .ok (.ifCond .lt 51, 3) := by decide +kernel
theorem dL_town_403 : decode cL_town 403 = .ok (.aload_n 0, 1) := by decide +kernel
theorem dL_town_404 : decode cL_town 404 = .ok (.aload_n 0, 1) := by decide +kernel
theorem dL_town_405 : decode cL_town 405 = .ok (.iload 8, 2) := by decide +kernel
theorem dL_town_407 : decode cL_town 407 = .ok (.iconst 4, 1) := by decide +kernel
theorem dL_town_408 : decode cL_town 408 = .ok (.invokevirtual 21, 3) := by decide +kernel
theorem dL_town_411 : decode cL_town 411 = .ok (.iconst 2, 1) := by decide +kernel
theorem dL_town_412 : decode cL_town 412 = .ok (.invokevirtual 21, 3) := by decide +kernel
theorem dL_town_415 : decode cL_town 415 = .ok (.iconst 1, 1) := by decide +kernel
theorem dL_town_416 : decode cL_town 416 = .ok (.if_icmp .ne 35, 3) := by decide +kernel
theorem dL_town_419 : decode cL_town 419 = .ok (.iload 9, 2) := by decide +kernel
theorem dL_town_421 : decode cL_town 421 = .ok (.iconst 1, 1) := by decide +kernel
theorem dL_town_422 : decode cL_town 422 = .ok (.if_icmp .ne 25, 3) := by decide +kernel
theorem dL_town_425 : decode cL_town 425 = .ok (.aload_n 0, 1) := by decide +kernel
theorem dL_town_426 : decode cL_town 426 = .ok (.iconst 0, 1) := by decide +kernel
theorem dL_town_427 : decode cL_town 427 = .ok (.iconst 0, 1) := by decide +kernel
theorem dL_town_428 : decode cL_town 428 = .ok (.invokevirtual 34, 3) := by decide +kernel
theorem dL_town_431 : decode cL_town 431 = .ok (.iload 8, 2) := by decide +kernel
theorem dL_town_433 : decode cL_town 433 = .ok (.if_icmp .eq 14, 3) := by decide +kernel
theorem dL_town_436 : decode cL_town 436 = .ok (.aload_n 0, 1) := by decide +kernel
theorem dL_town_437 : decode cL_town 437 = .ok (.iconst 1, 1) := by decide +kernel
theorem dL_town_438 : decode cL_town 438 = .ok (.iconst 0, 1) := by decide +kernel
theorem dL_town_439 : decode cL_town 439 = .ok (.invokevirtual 34, 3) := by decide +kernel
theorem dL_town_442 : decode cL_town 442 = .ok (.iload 8, 2) := by decide +kernel
theorem dL_town_444 : decode cL_town 444 = .ok (.if_icmp .ne 7, 3) := by decide +kernel
theorem dL_town_447 : decode cL_town 447 = .ok (.iconst 1, 1) := by decide +kernel
theorem dL_town_448 : decode cL_town 448 = .ok (.goto 4, 3) := by decide +kernel
