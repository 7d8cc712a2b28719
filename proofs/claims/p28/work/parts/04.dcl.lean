theorem dX0_init_0 : decode cX0_init 0 = .ok (.aload_n 0, 1) := by decide +kernel
theorem dX0_init_1 : decode cX0_init 1 = .ok (.invokespecial 3, 3) := by decide +kernel
theorem dX0_init_4 : decode cX0_init 4 = .ok (.aload_n 0, 1) := by decide +kernel
theorem dX0_init_5 : decode cX0_init 5 = .ok (.new 9, 3) := by decide +kernel
theorem dX0_init_8 : decode cX0_init 8 = .ok (.dup, 1) := by decide +kernel
theorem dX0_init_9 : decode cX0_init 9 = .ok (.bipush 60, 2) := by decide +kernel
theorem dX0_init_11 : decode cX0_init 11 = .ok (.invokespecial 11, 3) := by decide +kernel
theorem dX0_init_14 : decode cX0_init 14 = .ok (.putfield 14, 3) := by decide +kernel
theorem dX0_init_17 : decode cX0_init 17 = .ok (.aload_n 0, 1) := by decide +kernel
theorem dX0_init_18 : decode cX0_init 18 = .ok (.new 9, 3) := by decide +kernel
theorem dX0_init_21 : decode cX0_init 21 = .ok (.dup, 1) := by decide +kernel
theorem dX0_init_22 : decode cX0_init 22 = .ok (.bipush 60, 2) := by decide +kernel
theorem dX0_init_24 : decode cX0_init 24 = .ok (.invokespecial 11, 3) := by decide +kernel
theorem dX0_init_27 : decode cX0_init 27 = .ok (.putfield 20, 3) := by decide +kernel
theorem dX0_init_30 : decode cX0_init 30 = .ok (.aload_n 0, 1) := by decide +kernel
theorem dX0_init_31 : decode cX0_init 31 = .ok (.iconst 0, 1) := by decide +kernel
theorem dX0_init_32 : decode cX0_init 32 = .ok (.putfield 23, 3) := by decide +kernel
theorem dX0_init_35 : decode cX0_init 35 = .ok (.return_, 1) := by decide +kernel
theorem dX0_clear_0 : decode cX0_clear 0 = .ok (.aload_n 0, 1) := by decide +kernel
theorem dX0_clear_1 : decode cX0_clear 1 = .ok (.getfield 20, 3) := by decide +kernel
theorem dX0_clear_4 : decode cX0_clear 4 = .ok (.invokevirtual 27, 3) := by decide +kernel
theorem dX0_clear_7 : decode cX0_clear 7 = .ok (.aload_n 0, 1) := by decide +kernel
theorem dX0_clear_8 : decode cX0_clear 8 = .ok (.iconst 0, 1) := by decide +kernel
theorem dX0_clear_9 : decode cX0_clear 9 = .ok (.putfield 23, 3) := by decide +kernel
theorem dX0_clear_12 : decode cX0_clear 12 = .ok (.return_, 1) := by decide +kernel
theorem dX0_add_0 : decode cX0_add 0 = .ok (.aload_n 0, 1) := by decide +kernel
theorem dX0_add_1 : decode cX0_add 1 = .ok (.getfield 20, 3) := by decide +kernel
theorem dX0_add_4 : decode cX0_add 4 = .ok (.iload_n 1, 1) := by decide +kernel
theorem dX0_add_5 : decode cX0_add 5 = .ok (.invokevirtual 30, 3) := by decide +kernel
theorem dX0_add_8 : decode cX0_add 8 = .ok (.iconst (-1), 1) := by decide +kernel
theorem dX0_add_9 : decode cX0_add 9 = .ok (.if_icmp .ne 46, 3) := by decide +kernel
theorem dX0_add_12 : decode cX0_add 12 = .ok (.aload_n 0, 1) := by decide +kernel
theorem dX0_add_13 : decode cX0_add 13 = .ok (.getfield 23, 3) := by decide +kernel
theorem dX0_add_16 : decode cX0_add 16 = .ok (.bipush 60, 2) := by decide +kernel
theorem dX0_add_18 : decode cX0_add 18 = .ok (.if_icmp .ge 37, 3) := by decide +kernel
theorem dX0_add_21 : decode cX0_add 21 = .ok (.aload_n 0, 1) := by decide +kernel
theorem dX0_add_22 : decode cX0_add 22 = .ok (.getfield 20, 3) := by decide +kernel
theorem dX0_add_25 : decode cX0_add 25 = .ok (.iload_n 1, 1) := by decide +kernel
theorem dX0_add_26 : decode cX0_add 26 = .ok (.aload_n 0, 1) := by decide +kernel
theorem dX0_add_27 : decode cX0_add 27 = .ok (.getfield 23, 3) := by decide +kernel
theorem dX0_add_30 : decode cX0_add 30 = .ok (.invokevirtual 34, 3) := by decide +kernel
theorem dX0_add_33 : decode cX0_add 33 = .ok (.aload_n 0, 1) := by decide +kernel
theorem dX0_add_34 : decode cX0_add 34 = .ok (.getfield 14, 3) := by decide +kernel
theorem dX0_add_37 : decode cX0_add 37 = .ok (.aload_n 0, 1) := by decide +kernel
theorem dX0_add_38 : decode cX0_add 38 = .ok (.getfield 23, 3) := by decide +kernel
theorem dX0_add_41 : decode cX0_add 41 = .ok (.iload_n 1, 1) := by decide +kernel
theorem dX0_add_42 : decode cX0_add 42 = .ok (.invokevirtual 34, 3) := by decide +kernel
theorem dX0_add_45 : decode cX0_add 45 = .ok (.aload_n 0, 1) := by decide +kernel
theorem dX0_add_46 : decode cX0_add 46 = .ok (.dup, 1) := by decide +kernel
theorem dX0_add_47 : decode cX0_add 47 = .ok (.getfield 23, 3) := by decide +kernel
theorem dX0_add_50 : decode cX0_add 50 = .ok (.iconst 1, 1) := by decide +kernel
theorem dX0_add_51 : decode cX0_add 51 = .ok (.iadd, 1) := by decide +kernel
theorem dX0_add_52 : decode cX0_add 52 = .ok (.putfield 23, 3) := by decide +kernel
theorem dX0_add_55 : decode cX0_add 55 = .ok (.return_, 1) := by decide +kernel
theorem dX0_at_0 : decode cX0_at 0 = .ok (.aload_n 0, 1) := by decide +kernel
theorem dX0_at_1 : decode cX0_at 1 = .ok (.getfield 14, 3) := by decide +kernel
theorem dX0_at_4 : decode cX0_at 4 = .ok (.iload_n 1, 1) := by decide +kernel
theorem dX0_at_5 : decode cX0_at 5 = .ok (.invokevirtual 30, 3) := by decide +kernel
theorem dX0_at_8 : decode cX0_at 8 = .ok (.ireturn, 1) := by decide +kernel
theorem dX1_init_0 : decode cX1_init 0 = .ok (.aload_n 0, 1) := by decide +kernel
theorem dX1_init_1 : decode cX1_init 1 = .ok (.invokespecial 3, 3) := by decide +kernel
theorem dX1_init_4 : decode cX1_init 4 = .ok (.aload_n 0, 1) := by decide +kernel
theorem dX1_init_5 : decode cX1_init 5 = .ok (.iload_n 1, 1) := by decide +kernel
theorem dX1_init_6 : decode cX1_init 6 = .ok (.iconst 0, 1) := by decide +kernel
theorem dX1_init_7 : decode cX1_init 7 = .ok (.invokestatic 9, 3) := by decide +kernel
theorem dX1_init_10 : decode cX1_init 10 = .ok (.newarray .int, 2) := by decide +kernel
theorem dX1_init_12 : decode cX1_init 12 = .ok (.putfield 15, 3) := by decide +kernel
theorem dX1_init_15 : decode cX1_init 15 = .ok (.aload_n 0, 1) := by decide +kernel
theorem dX1_init_16 : decode cX1_init 16 = .ok (.getfield 15, 3) := by decide +kernel
theorem dX1_init_19 : decode cX1_init 19 = .ok (.iconst (-1), 1) := by decide +kernel
theorem dX1_init_20 : decode cX1_init 20 = .ok (.invokestatic 21, 3) := by decide +kernel
theorem dX1_init_23 : decode cX1_init 23 = .ok (.return_, 1) := by decide +kernel
theorem dX1_at_0 : decode cX1_at 0 = .ok (.iload_n 1, 1) := by decide +kernel
theorem dX1_at_1 : decode cX1_at 1 = .ok (.ifCond .lt 21, 3) := by decide +kernel
theorem dX1_at_4 : decode cX1_at 4 = .ok (.iload_n 1, 1) := by decide +kernel
theorem dX1_at_5 : decode cX1_at 5 = .ok (.aload_n 0, 1) := by decide +kernel
theorem dX1_at_6 : decode cX1_at 6 = .ok (.getfield 15, 3) := by decide +kernel
theorem dX1_at_9 : decode cX1_at 9 = .ok (.arraylength, 1) := by decide +kernel
theorem dX1_at_10 : decode cX1_at 10 = .ok (.if_icmp .ge 12, 3) := by decide +kernel
theorem dX1_at_13 : decode cX1_at 13 = .ok (.aload_n 0, 1) := by decide +kernel
theorem dX1_at_14 : decode cX1_at 14 = .ok (.getfield 15, 3) := by decide +kernel
theorem dX1_at_17 : decode cX1_at 17 = .ok (.iload_n 1, 1) := by decide +kernel
theorem dX1_at_18 : decode cX1_at 18 = .ok (.iaload, 1) := by decide +kernel
theorem dX1_at_19 : decode cX1_at 19 = .ok (.goto 4, 3) := by decide +kernel
theorem dX1_at_22 : decode cX1_at 22 = .ok (.iconst (-1), 1) := by decide +kernel
theorem dX1_at_23 : decode cX1_at 23 = .ok (.ireturn, 1) := by decide +kernel
theorem dX1_put_0 : decode cX1_put 0 = .ok (.iload_n 1, 1) := by decide +kernel
theorem dX1_put_1 : decode cX1_put 1 = .ok (.ifCond .lt 19, 3) := by decide +kernel
theorem dX1_put_4 : decode cX1_put 4 = .ok (.iload_n 1, 1) := by decide +kernel
theorem dX1_put_5 : decode cX1_put 5 = .ok (.aload_n 0, 1) := by decide +kernel
theorem dX1_put_6 : decode cX1_put 6 = .ok (.getfield 15, 3) := by decide +kernel
theorem dX1_put_9 : decode cX1_put 9 = .ok (.arraylength, 1) := by decide +kernel
theorem dX1_put_10 : decode cX1_put 10 = .ok (.if_icmp .ge 10, 3) := by decide +kernel
theorem dX1_put_13 : decode cX1_put 13 = .ok (.aload_n 0, 1) := by decide +kernel
theorem dX1_put_14 : decode cX1_put 14 = .ok (.getfield 15, 3) := by decide +kernel
theorem dX1_put_17 : decode cX1_put 17 = .ok (.iload_n 1, 1) := by decide +kernel
theorem dX1_put_18 : decode cX1_put 18 = .ok (.iload_n 2, 1) := by decide +kernel
theorem dX1_put_19 : decode cX1_put 19 = .ok (.iastore, 1) := by decide +kernel
theorem dX1_put_20 : decode cX1_put 20 = .ok (.return_, 1) := by decide +kernel
theorem dX1_clear_0 : decode cX1_clear 0 = .ok (.aload_n 0, 1) := by decide +kernel
theorem dX1_clear_1 : decode cX1_clear 1 = .ok (.getfield 15, 3) := by decide +kernel
theorem dX1_clear_4 : decode cX1_clear 4 = .ok (.iconst (-1), 1) := by decide +kernel
theorem dX1_clear_5 : decode cX1_clear 5 = .ok (.invokestatic 21, 3) := by decide +kernel
theorem dX1_clear_8 : decode cX1_clear 8 = .ok (.return_, 1) := by decide +kernel
theorem dX2_init_0 : decode cX2_init 0 = .ok (.aload_n 0, 1) := by decide +kernel
theorem dX2_init_1 : decode cX2_init 1 = .ok (.invokespecial 3, 3) := by decide +kernel
theorem dX2_init_4 : decode cX2_init 4 = .ok (.aload_n 0, 1) := by decide +kernel
theorem dX2_init_5 : decode cX2_init 5 = .ok (.new 9, 3) := by decide +kernel
theorem dX2_init_8 : decode cX2_init 8 = .ok (.dup, 1) := by decide +kernel
theorem dX2_init_9 : decode cX2_init 9 = .ok (.bipush 60, 2) := by decide +kernel
theorem dX2_init_11 : decode cX2_init 11 = .ok (.invokespecial 11, 3) := by decide +kernel
theorem dX2_init_14 : decode cX2_init 14 = .ok (.putfield 14, 3) := by decide +kernel
theorem dX2_init_17 : decode cX2_init 17 = .ok (.aload_n 0, 1) := by decide +kernel
theorem dX2_init_18 : decode cX2_init 18 = .ok (.new 9, 3) := by decide +kernel
theorem dX2_init_21 : decode cX2_init 21 = .ok (.dup, 1) := by decide +kernel
theorem dX2_init_22 : decode cX2_init 22 = .ok (.bipush 60, 2) := by decide +kernel
theorem dX2_init_24 : decode cX2_init 24 = .ok (.invokespecial 11, 3) := by decide +kernel
theorem dX2_init_27 : decode cX2_init 27 = .ok (.putfield 20, 3) := by decide +kernel
theorem dX2_init_30 : decode cX2_init 30 = .ok (.aload_n 0, 1) := by decide +kernel
theorem dX2_init_31 : decode cX2_init 31 = .ok (.new 9, 3) := by decide +kernel
theorem dX2_init_34 : decode cX2_init 34 = .ok (.dup, 1) := by decide +kernel
theorem dX2_init_35 : decode cX2_init 35 = .ok (.bipush 60, 2) := by decide +kernel
theorem dX2_init_37 : decode cX2_init 37 = .ok (.invokespecial 11, 3) := by decide +kernel
theorem dX2_init_40 : decode cX2_init 40 = .ok (.putfield 23, 3) := by decide +kernel
theorem dX2_init_43 : decode cX2_init 43 = .ok (.aload_n 0, 1) := by decide +kernel
theorem dX2_init_44 : decode cX2_init 44 = .ok (.iconst (-1), 1) := by decide +kernel
theorem dX2_init_45 : decode cX2_init 45 = .ok (.putfield 26, 3) := by decide +kernel
theorem dX2_init_48 : decode cX2_init 48 = .ok (.aload_n 0, 1) := by decide +kernel
theorem dX2_init_49 : decode cX2_init 49 = .ok (.iload_n 1, 1) := by decide +kernel
theorem dX2_init_50 : decode cX2_init 50 = .ok (.putfield 30, 3) := by decide +kernel
theorem dX2_init_53 : decode cX2_init 53 = .ok (.aload_n 0, 1) := by decide +kernel
theorem dX2_init_54 : decode cX2_init 54 = .ok (.iload_n 2, 1) := by decide +kernel
theorem dX2_init_55 : decode cX2_init 55 = .ok (.putfield 33, 3) := by decide +kernel
theorem dX2_init_58 : decode cX2_init 58 = .ok (.aload_n 0, 1) := by decide +kernel
theorem dX2_init_59 : decode cX2_init 59 = .ok (.iload_n 3, 1) := by decide +kernel
theorem dX2_init_60 : decode cX2_init 60 = .ok (.putfield 36, 3) := by decide +kernel
theorem dX2_init_63 : decode cX2_init 63 = .ok (.aload_n 0, 1) := by decide +kernel
theorem dX2_init_64 : decode cX2_init 64 = .ok (.iload 4, 2) := by decide +kernel
theorem dX2_init_66 : decode cX2_init 66 = .ok (.putfield 39, 3) := by decide +kernel
theorem dX2_init_69 : decode cX2_init 69 = .ok (.aload_n 0, 1) := by decide +kernel
theorem dX2_init_70 : decode cX2_init 70 = .ok (.iload 5, 2) := by decide +kernel
theorem dX2_init_72 : decode cX2_init 72 = .ok (.putfield 43, 3) := by decide +kernel
theorem dX2_init_75 : decode cX2_init 75 = .ok (.return_, 1) := by decide +kernel
theorem dX2_owns_0 : decode cX2_owns 0 = .ok (.iload_n 1, 1) := by decide +kernel
theorem dX2_owns_1 : decode cX2_owns 1 = .ok (.iconst (-1), 1) := by decide +kernel
theorem dX2_owns_2 : decode cX2_owns 2 = .ok (.if_icmp .eq 19, 3) := by decide +kernel
theorem dX2_owns_5 : decode cX2_owns 5 = .ok (.aload_n 0, 1) := by decide +kernel
theorem dX2_owns_6 : decode cX2_owns 6 = .ok (.getfield 14, 3) := by decide +kernel
theorem dX2_owns_9 : decode cX2_owns 9 = .ok (.iload_n 1, 1) := by decide +kernel
theorem dX2_owns_10 : decode cX2_owns 10 = .ok (.invokevirtual 46, 3) := by decide +kernel
theorem dX2_owns_13 : decode cX2_owns 13 = .ok (.iload_n 1, 1) := by decide +kernel
theorem dX2_owns_14 : decode cX2_owns 14 = .ok (.if_icmp .ne 7, 3) := by decide +kernel
theorem dX2_owns_17 : decode cX2_owns 17 = .ok (.iconst 1, 1) := by decide +kernel
theorem dX2_owns_18 : decode cX2_owns 18 = .ok (.goto 4, 3) := by decide +kernel
theorem dX2_owns_21 : decode cX2_owns 21 = .ok (.iconst 0, 1) := by decide +kernel
theorem dX2_owns_22 : decode cX2_owns 22 = .ok (.ireturn, 1) := by decide +kernel
theorem dX2_isMember_0 : decode cX2_isMember 0 = .ok (.aload_n 0, 1) := by decide +kernel
theorem dX2_isMember_1 : decode cX2_isMember 1 = .ok (.getfield 14, 3) := by decide +kernel
theorem dX2_isMember_4 : decode cX2_isMember 4 = .ok (.iload_n 1, 1) := by decide +kernel
theorem dX2_isMember_5 : decode cX2_isMember 5 = .ok (.invokevirtual 46, 3) := by decide +kernel
theorem dX2_isMember_8 : decode cX2_isMember 8 = .ok (.istore_n 2, 1) := by decide +kernel
theorem dX2_isMember_9 : decode cX2_isMember 9 = .ok (.iload_n 2, 1) := by decide +kernel
theorem dX2_isMember_10 : decode cX2_isMember 10 = .ok (.iconst (-1), 1) := by decide +kernel
theorem dX2_isMember_11 : decode cX2_isMember 11 = .ok (.if_icmp .eq 12, 3) := by decide +kernel
theorem dX2_isMember_14 : decode cX2_isMember 14 = .ok (.iload_n 2, 1) := by decide +kernel
theorem dX2_isMember_15 : decode cX2_isMember 15 = .ok (.iload_n 1, 1) := by decide +kernel
theorem dX2_isMember_16 : decode cX2_isMember 16 = .ok (.if_icmp .eq 7, 3) := by decide +kernel
theorem dX2_isMember_19 : decode cX2_isMember 19 = .ok (.iconst 1, 1) := by decide +kernel
theorem dX2_isMember_20 : decode cX2_isMember 20 = .ok (.goto 4, 3) := by decide +kernel
theorem dX2_isMember_23 : decode cX2_isMember 23 = .ok (.iconst 0, 1) := by decide +kernel
theorem dX2_isMember_24 : decode cX2_isMember 24 = .ok (.ireturn, 1) := by decide +kernel
theorem dX2_takesAtStore_0 : decode cX2_takesAtStore 0 = .ok (.aload_n 0, 1) := by decide +kernel
theorem dX2_takesAtStore_1 : decode cX2_takesAtStore 1 = .ok (.getfield 39, 3) := by decide +kernel
theorem dX2_takesAtStore_4 : decode cX2_takesAtStore 4 = .ok (.ifCond .eq 15, 3) := by decide +kernel
theorem dX2_takesAtStore_7 : decode cX2_takesAtStore 7 = .ok (.aload_n 0, 1) := by decide +kernel
theorem dX2_takesAtStore_8 : decode cX2_takesAtStore 8 = .ok (.getfield 33, 3) := by decide +kernel
theorem dX2_takesAtStore_11 : decode cX2_takesAtStore 11 = .ok (.iload_n 1, 1) := by decide +kernel
theorem dX2_takesAtStore_12 : decode cX2_takesAtStore 12 = .ok (.if_icmp .ne 7, 3) := by decide +kernel
theorem dX2_takesAtStore_15 : decode cX2_takesAtStore 15 = .ok (.iconst 1, 1) := by decide +kernel
theorem dX2_takesAtStore_16 : decode cX2_takesAtStore 16 = .ok (.goto 4, 3) := by decide +kernel
theorem dX2_takesAtStore_19 : decode cX2_takesAtStore 19 = .ok (.iconst 0, 1) := by decide +kernel
theorem dX2_takesAtStore_20 : decode cX2_takesAtStore 20 = .ok (.ireturn, 1) := by decide +kernel
theorem dX2_erasesMembers_0 : decode cX2_erasesMembers 0 = .ok (.iload_n 1, 1) := by decide +kernel
theorem dX2_erasesMembers_1 : decode cX2_erasesMembers 1 = .ok (.iconst 2, 1) := by decide +kernel
theorem dX2_erasesMembers_2 : decode cX2_erasesMembers 2 = .ok (.if_icmp .eq 15, 3) := by decide +kernel
theorem dX2_erasesMembers_5 : decode cX2_erasesMembers 5 = .ok (.iload_n 1, 1) := by decide +kernel
theorem dX2_erasesMembers_6 : decode cX2_erasesMembers 6 = .ok (.ifCond .eq 15, 3) := by decide +kernel
theorem dX2_erasesMembers_9 : decode cX2_erasesMembers 9 = .ok (.aload_n 0, 1) := by decide +kernel
theorem dX2_erasesMembers_10 : decode cX2_erasesMembers 10 = .ok (.getfield 43, 3) := by decide +kernel
theorem dX2_erasesMembers_13 : decode cX2_erasesMembers 13 = .ok (.iconst 2, 1) := by decide +kernel
theorem dX2_erasesMembers_14 : decode cX2_erasesMembers 14 = .ok (.if_icmp .eq 7, 3) := by decide +kernel
theorem dX2_erasesMembers_17 : decode cX2_erasesMembers 17 = .ok (.iconst 1, 1) := by decide +kernel
theorem dX2_erasesMembers_18 : decode cX2_erasesMembers 18 = .ok (.goto 4, 3) := by decide +kernel
theorem dX2_erasesMembers_21 : decode cX2_erasesMembers 21 = .ok (.iconst 0, 1) := by decide +kernel
theorem dX2_erasesMembers_22 : decode cX2_erasesMembers 22 = .ok (.ireturn, 1) := by decide +kernel
theorem dX2_currentOwner_0 : decode cX2_currentOwner 0 = .ok (.aload_n 0, 1) := by decide +kernel
theorem dX2_currentOwner_1 : decode cX2_currentOwner 1 = .ok (.getfield 14, 3) := by decide +kernel
theorem dX2_currentOwner_4 : decode cX2_currentOwner 4 = .ok (.aload_n 0, 1) := by decide +kernel
theorem dX2_currentOwner_5 : decode cX2_currentOwner 5 = .ok (.getfield 26, 3) := by decide +kernel
theorem dX2_currentOwner_8 : decode cX2_currentOwner 8 = .ok (.invokevirtual 46, 3) := by decide +kernel
theorem dX2_currentOwner_11 : decode cX2_currentOwner 11 = .ok (.ireturn, 1) := by decide +kernel
theorem dX2_admit_0 : decode cX2_admit 0 = .ok (.iload_n 2, 1) := by decide +kernel
theorem dX2_admit_1 : decode cX2_admit 1 = .ok (.aload_n 0, 1) := by decide +kernel
theorem dX2_admit_2 : decode cX2_admit 2 = .ok (.getfield 30, 3) := by decide +kernel
theorem dX2_admit_5 : decode cX2_admit 5 = .ok (.if_icmp .ne 18, 3) := by decide +kernel
theorem dX2_admit_8 : decode cX2_admit 8 = .ok (.aload_n 0, 1) := by decide +kernel
theorem dX2_admit_9 : decode cX2_admit 9 = .ok (.getfield 14, 3) := by decide +kernel
theorem dX2_admit_12 : decode cX2_admit 12 = .ok (.iload_n 1, 1) := by decide +kernel
theorem dX2_admit_13 : decode cX2_admit 13 = .ok (.iload_n 1, 1) := by decide +kernel
theorem dX2_admit_14 : decode cX2_admit 14 = .ok (.invokevirtual 50, 3) := by decide +kernel
theorem dX2_admit_17 : decode cX2_admit 17 = .ok (.aload_n 0, 1) := by decide +kernel
theorem dX2_admit_18 : decode cX2_admit 18 = .ok (.iload_n 1, 1) := by decide +kernel
theorem dX2_admit_19 : decode cX2_admit 19 = .ok (.iload_n 1, 1) := by decide +kernel
theorem dX2_admit_20 : decode cX2_admit 20 = .ok (.invokevirtual 54, 3) := by decide +kernel
theorem dX2_admit_23 : decode cX2_admit 23 = .ok (.aload_n 0, 1) := by decide +kernel
theorem dX2_admit_24 : decode cX2_admit 24 = .ok (.iload_n 2, 1) := by decide +kernel
theorem dX2_admit_25 : decode cX2_admit 25 = .ok (.invokevirtual 57, 3) := by decide +kernel
theorem dX2_admit_28 : decode cX2_admit 28 = .ok (.ifCond .eq 13, 3) := by decide +kernel
theorem dX2_admit_31 : decode cX2_admit 31 = .ok (.aload_n 0, 1) := by decide +kernel
theorem dX2_admit_32 : decode cX2_admit 32 = .ok (.iload_n 1, 1) := by decide +kernel
theorem dX2_admit_33 : decode cX2_admit 33 = .ok (.aload_n 0, 1) := by decide +kernel
theorem dX2_admit_34 : decode cX2_admit 34 = .ok (.invokevirtual 61, 3) := by decide +kernel
theorem dX2_admit_37 : decode cX2_admit 37 = .ok (.aload_n 3, 1) := by decide +kernel
theorem dX2_admit_38 : decode cX2_admit 38 = .ok (.invokevirtual 65, 3) := by decide +kernel
theorem dX2_admit_41 : decode cX2_admit 41 = .ok (.return_, 1) := by decide +kernel
theorem dX2_insert_0 : decode cX2_insert 0 = .ok (.aload_n 0, 1) := by decide +kernel
theorem dX2_insert_1 : decode cX2_insert 1 = .ok (.iload_n 2, 1) := by decide +kernel
theorem dX2_insert_2 : decode cX2_insert 2 = .ok (.aload_n 3, 1) := by decide +kernel
theorem dX2_insert_3 : decode cX2_insert 3 = .ok (.iload_n 1, 1) := by decide +kernel
theorem dX2_insert_4 : decode cX2_insert 4 = .ok (.invokevirtual 46, 3) := by decide +kernel
theorem dX2_insert_7 : decode cX2_insert 7 = .ok (.aload_n 3, 1) := by decide +kernel
theorem dX2_insert_8 : decode cX2_insert 8 = .ok (.invokevirtual 69, 3) := by decide +kernel
theorem dX2_insert_11 : decode cX2_insert 11 = .ok (.istore 4, 2) := by decide +kernel
theorem dX2_insert_13 : decode cX2_insert 13 = .ok (.aload_n 0, 1) := by decide +kernel
theorem dX2_insert_14 : decode cX2_insert 14 = .ok (.getfield 20, 3) := by decide +kernel
theorem dX2_insert_17 : decode cX2_insert 17 = .ok (.iload 4, 2) := by decide +kernel
theorem dX2_insert_19 : decode cX2_insert 19 = .ok (.invokevirtual 46, 3) := by decide +kernel
theorem dX2_insert_22 : decode cX2_insert 22 = .ok (.istore 5, 2) := by decide +kernel
theorem dX2_insert_24 : decode cX2_insert 24 = .ok (.aload_n 0, 1) := by decide +kernel
theorem dX2_insert_25 : decode cX2_insert 25 = .ok (.iload 4, 2) := by decide +kernel
theorem dX2_insert_27 : decode cX2_insert 27 = .ok (.iload_n 1, 1) := by decide +kernel
theorem dX2_insert_28 : decode cX2_insert 28 = .ok (.invokevirtual 54, 3) := by decide +kernel
theorem dX2_insert_31 : decode cX2_insert 31 = .ok (.aload_n 0, 1) := by decide +kernel
theorem dX2_insert_32 : decode cX2_insert 32 = .ok (.iload_n 1, 1) := by decide +kernel
theorem dX2_insert_33 : decode cX2_insert 33 = .ok (.iload 5, 2) := by decide +kernel
theorem dX2_insert_35 : decode cX2_insert 35 = .ok (.invokevirtual 54, 3) := by decide +kernel
theorem dX2_insert_38 : decode cX2_insert 38 = .ok (.aload_n 0, 1) := by decide +kernel
theorem dX2_insert_39 : decode cX2_insert 39 = .ok (.getfield 14, 3) := by decide +kernel
theorem dX2_insert_42 : decode cX2_insert 42 = .ok (.iload_n 1, 1) := by decide +kernel
theorem dX2_insert_43 : decode cX2_insert 43 = .ok (.iload_n 2, 1) := by decide +kernel
theorem dX2_insert_44 : decode cX2_insert 44 = .ok (.invokevirtual 50, 3) := by decide +kernel
theorem dX2_insert_47 : decode cX2_insert 47 = .ok (.return_, 1) := by decide +kernel
theorem dX2_frontFor_0 : decode cX2_frontFor 0 = .ok (.aload_n 0, 1) := by decide +kernel
theorem dX2_frontFor_1 : decode cX2_frontFor 1 = .ok (.getfield 14, 3) := by decide +kernel
theorem dX2_frontFor_4 : decode cX2_frontFor 4 = .ok (.aload_n 0, 1) := by decide +kernel
theorem dX2_frontFor_5 : decode cX2_frontFor 5 = .ok (.getfield 26, 3) := by decide +kernel
theorem dX2_frontFor_8 : decode cX2_frontFor 8 = .ok (.invokevirtual 46, 3) := by decide +kernel
theorem dX2_frontFor_11 : decode cX2_frontFor 11 = .ok (.iload_n 1, 1) := by decide +kernel
theorem dX2_frontFor_12 : decode cX2_frontFor 12 = .ok (.if_icmp .ne 10, 3) := by decide +kernel
theorem dX2_frontFor_15 : decode cX2_frontFor 15 = .ok (.aload_n 0, 1) := by decide +kernel
theorem dX2_frontFor_16 : decode cX2_frontFor 16 = .ok (.getfield 26, 3) := by decide +kernel
theorem dX2_frontFor_19 : decode cX2_frontFor 19 = .ok (.goto 4, 3) := by decide +kernel
theorem dX2_frontFor_22 : decode cX2_frontFor 22 = .ok (.iload_n 1, 1) := by decide +kernel
theorem dX2_frontFor_23 : decode cX2_frontFor 23 = .ok (.istore 4, 2) := by decide +kernel
theorem dX2_frontFor_25 : decode cX2_frontFor 25 = .ok (.aload_n 0, 1) := by decide +kernel
theorem dX2_frontFor_26 : decode cX2_frontFor 26 = .ok (.getfield 36, 3) := by decide +kernel
theorem dX2_frontFor_29 : decode cX2_frontFor 29 = .ok (.tableswitch 61 1 4 #[31, 40, 43, 53], 31) := by decide +kernel
theorem dX2_frontFor_60 : decode cX2_frontFor 60 = .ok (.aload_n 0, 1) := by decide +kernel
theorem dX2_frontFor_61 : decode cX2_frontFor 61 = .ok (.getfield 23, 3) := by decide +kernel
theorem dX2_frontFor_64 : decode cX2_frontFor 64 = .ok (.iload_n 1, 1) := by decide +kernel
theorem dX2_frontFor_65 : decode cX2_frontFor 65 = .ok (.invokevirtual 46, 3) := by decide +kernel
theorem dX2_frontFor_68 : decode cX2_frontFor 68 = .ok (.ireturn, 1) := by decide +kernel
theorem dX2_frontFor_69 : decode cX2_frontFor 69 = .ok (.iload 4, 2) := by decide +kernel
theorem dX2_frontFor_71 : decode cX2_frontFor 71 = .ok (.ireturn, 1) := by decide +kernel
theorem dX2_frontFor_72 : decode cX2_frontFor 72 = .ok (.aload_n 0, 1) := by decide +kernel
theorem dX2_frontFor_73 : decode cX2_frontFor 73 = .ok (.getfield 23, 3) := by decide +kernel
theorem dX2_frontFor_76 : decode cX2_frontFor 76 = .ok (.iload 4, 2) := by decide +kernel
theorem dX2_frontFor_78 : decode cX2_frontFor 78 = .ok (.invokevirtual 46, 3) := by decide +kernel
theorem dX2_frontFor_81 : decode cX2_frontFor 81 = .ok (.ireturn, 1) := by decide +kernel
theorem dX2_frontFor_82 : decode cX2_frontFor 82 = .ok (.aload_n 0, 1) := by decide +kernel
theorem dX2_frontFor_83 : decode cX2_frontFor 83 = .ok (.iload_n 1, 1) := by decide +kernel
theorem dX2_frontFor_84 : decode cX2_frontFor 84 = .ok (.iload_n 2, 1) := by decide +kernel
theorem dX2_frontFor_85 : decode cX2_frontFor 85 = .ok (.aload_n 3, 1) := by decide +kernel
theorem dX2_frontFor_86 : decode cX2_frontFor 86 = .ok (.invokevirtual 73, 3) := by decide +kernel
theorem dX2_frontFor_89 : decode cX2_frontFor 89 = .ok (.ireturn, 1) := by decide +kernel
theorem dX2_frontFor_90 : decode cX2_frontFor 90 = .ok (.iload_n 1, 1) := by decide +kernel
theorem dX2_frontFor_91 : decode cX2_frontFor 91 = .ok (.ireturn, 1) := by decide +kernel
theorem dX2_frontBySorting_0 : decode cX2_frontBySorting 0 = .ok (.iload_n 1, 1) := by decide +kernel
theorem dX2_frontBySorting_1 : decode cX2_frontBySorting 1 = .ok (.istore 4, 2) := by decide +kernel
theorem dX2_frontBySorting_3 : decode cX2_frontBySorting 3 = .ok (.iconst 0, 1) := by decide +kernel
theorem dX2_frontBySorting_4 : decode cX2_frontBySorting 4 = .ok (.istore 5, 2) := by decide +kernel
theorem dX2_frontBySorting_6 : decode cX2_frontBySorting 6 = .ok (.iload 5, 2) := by decide +kernel
theorem dX2_frontBySorting_8 : decode cX2_frontBySorting 8 = .ok (.bipush 60, 2) := by decide +kernel
theorem dX2_frontBySorting_10 : decode cX2_frontBySorting 10 = .ok (.if_icmp .ge 43, 3) := by decide +kernel
theorem dX2_frontBySorting_13 : decode cX2_frontBySorting 13 = .ok (.aload_n 0, 1) := by decide +kernel
theorem dX2_frontBySorting_14 : decode cX2_frontBySorting 14 = .ok (.getfield 20, 3) := by decide +kernel
theorem dX2_frontBySorting_17 : decode cX2_frontBySorting 17 = .ok (.iload 4, 2) := by decide +kernel
theorem dX2_frontBySorting_19 : decode cX2_frontBySorting 19 = .ok (.invokevirtual 46, 3) := by decide +kernel
theorem dX2_frontBySorting_22 : decode cX2_frontBySorting 22 = .ok (.istore 6, 2) := by decide +kernel
theorem dX2_frontBySorting_24 : decode cX2_frontBySorting 24 = .ok (.iload 6, 2) := by decide +kernel
theorem dX2_frontBySorting_26 : decode cX2_frontBySorting 26 = .ok (.iload_n 1, 1) := by decide +kernel
theorem dX2_frontBySorting_27 : decode cX2_frontBySorting 27 = .ok (.if_icmp .eq 13, 3) := by decide +kernel
theorem dX2_frontBySorting_30 : decode cX2_frontBySorting 30 = .ok (.aload_n 3, 1) := by decide +kernel
theorem dX2_frontBySorting_31 : decode cX2_frontBySorting 31 = .ok (.iload 6, 2) := by decide +kernel
theorem dX2_frontBySorting_33 : decode cX2_frontBySorting 33 = .ok (.invokevirtual 46, 3) := by decide +kernel
theorem dX2_frontBySorting_36 : decode cX2_frontBySorting 36 = .ok (.iload_n 2, 1) := by decide +kernel
theorem dX2_frontBySorting_37 : decode cX2_frontBySorting 37 = .ok (.if_icmp .le 6, 3) := by decide +kernel
theorem dX2_frontBySorting_40 : decode cX2_frontBySorting 40 = .ok (.iload 4, 2) := by decide +kernel
theorem dX2_frontBySorting_42 : decode cX2_frontBySorting 42 = .ok (.ireturn, 1) := by decide +kernel
theorem dX2_frontBySorting_43 : decode cX2_frontBySorting 43 = .ok (.iload 6, 2) := by decide +kernel
theorem dX2_frontBySorting_45 : decode cX2_frontBySorting 45 = .ok (.istore 4, 2) := by decide +kernel
theorem dX2_frontBySorting_47 : decode cX2_frontBySorting 47 = .ok (.iinc 5 1, 3) := by decide +kernel
theorem dX2_frontBySorting_50 : decode cX2_frontBySorting 50 = .ok (.goto (-44), 3) := by decide +kernel
theorem dX2_frontBySorting_53 : decode cX2_frontBySorting 53 = .ok (.iload 4, 2) := by decide +kernel
theorem dX2_frontBySorting_55 : decode cX2_frontBySorting 55 = .ok (.ireturn, 1) := by decide +kernel
theorem dX2_link_0 : decode cX2_link 0 = .ok (.aload_n 0, 1) := by decide +kernel
theorem dX2_link_1 : decode cX2_link 1 = .ok (.getfield 20, 3) := by decide +kernel
theorem dX2_link_4 : decode cX2_link 4 = .ok (.iload_n 1, 1) := by decide +kernel
theorem dX2_link_5 : decode cX2_link 5 = .ok (.iload_n 2, 1) := by decide +kernel
theorem dX2_link_6 : decode cX2_link 6 = .ok (.invokevirtual 50, 3) := by decide +kernel
theorem dX2_link_9 : decode cX2_link 9 = .ok (.aload_n 0, 1) := by decide +kernel
theorem dX2_link_10 : decode cX2_link 10 = .ok (.getfield 23, 3) := by decide +kernel
theorem dX2_link_13 : decode cX2_link 13 = .ok (.iload_n 2, 1) := by decide +kernel
theorem dX2_link_14 : decode cX2_link 14 = .ok (.iload_n 1, 1) := by decide +kernel
theorem dX2_link_15 : decode cX2_link 15 = .ok (.invokevirtual 50, 3) := by decide +kernel
theorem dX2_link_18 : decode cX2_link 18 = .ok (.return_, 1) := by decide +kernel
theorem dX2_takeOut_0 : decode cX2_takeOut 0 = .ok (.aload_n 0, 1) := by decide +kernel
theorem dX2_takeOut_1 : decode cX2_takeOut 1 = .ok (.aload_n 0, 1) := by decide +kernel
theorem dX2_takeOut_2 : decode cX2_takeOut 2 = .ok (.getfield 23, 3) := by decide +kernel
theorem dX2_takeOut_5 : decode cX2_takeOut 5 = .ok (.iload_n 1, 1) := by decide +kernel
theorem dX2_takeOut_6 : decode cX2_takeOut 6 = .ok (.invokevirtual 46, 3) := by decide +kernel
theorem dX2_takeOut_9 : decode cX2_takeOut 9 = .ok (.aload_n 0, 1) := by decide +kernel
theorem dX2_takeOut_10 : decode cX2_takeOut 10 = .ok (.getfield 20, 3) := by decide +kernel
theorem dX2_takeOut_13 : decode cX2_takeOut 13 = .ok (.iload_n 1, 1) := by decide +kernel
theorem dX2_takeOut_14 : decode cX2_takeOut 14 = .ok (.invokevirtual 46, 3) := by decide +kernel
theorem dX2_takeOut_17 : decode cX2_takeOut 17 = .ok (.invokevirtual 54, 3) := by decide +kernel
theorem dX2_takeOut_20 : decode cX2_takeOut 20 = .ok (.aload_n 0, 1) := by decide +kernel
theorem dX2_takeOut_21 : decode cX2_takeOut 21 = .ok (.getfield 14, 3) := by decide +kernel
theorem dX2_takeOut_24 : decode cX2_takeOut 24 = .ok (.iload_n 1, 1) := by decide +kernel
theorem dX2_takeOut_25 : decode cX2_takeOut 25 = .ok (.iconst (-1), 1) := by decide +kernel
theorem dX2_takeOut_26 : decode cX2_takeOut 26 = .ok (.invokevirtual 50, 3) := by decide +kernel
theorem dX2_takeOut_29 : decode cX2_takeOut 29 = .ok (.return_, 1) := by decide +kernel
theorem dX2_release_0 : decode cX2_release 0 = .ok (.aload_n 0, 1) := by decide +kernel
theorem dX2_release_1 : decode cX2_release 1 = .ok (.iload_n 1, 1) := by decide +kernel
theorem dX2_release_2 : decode cX2_release 2 = .ok (.invokevirtual 76, 3) := by decide +kernel
theorem dX2_release_5 : decode cX2_release 5 = .ok (.aload_n 0, 1) := by decide +kernel
theorem dX2_release_6 : decode cX2_release 6 = .ok (.getfield 26, 3) := by decide +kernel
theorem dX2_release_9 : decode cX2_release 9 = .ok (.iload_n 1, 1) := by decide +kernel
theorem dX2_release_10 : decode cX2_release 10 = .ok (.if_icmp .ne 8, 3) := by decide +kernel
theorem dX2_release_13 : decode cX2_release 13 = .ok (.aload_n 0, 1) := by decide +kernel
theorem dX2_release_14 : decode cX2_release 14 = .ok (.iconst (-1), 1) := by decide +kernel
theorem dX2_release_15 : decode cX2_release 15 = .ok (.putfield 26, 3) := by decide +kernel
theorem dX2_release_18 : decode cX2_release 18 = .ok (.return_, 1) := by decide +kernel
theorem dX2_sortAnew_0 : decode cX2_sortAnew 0 = .ok (.aload_n 0, 1) := by decide +kernel
theorem dX2_sortAnew_1 : decode cX2_sortAnew 1 = .ok (.getfield 36, 3) := by decide +kernel
theorem dX2_sortAnew_4 : decode cX2_sortAnew 4 = .ok (.iconst 4, 1) := by decide +kernel
theorem dX2_sortAnew_5 : decode cX2_sortAnew 5 = .ok (.if_icmp .ne 32, 3) := by decide +kernel
theorem dX2_sortAnew_8 : decode cX2_sortAnew 8 = .ok (.aload_n 0, 1) := by decide +kernel
theorem dX2_sortAnew_9 : decode cX2_sortAnew 9 = .ok (.iload_n 1, 1) := by decide +kernel
theorem dX2_sortAnew_10 : decode cX2_sortAnew 10 = .ok (.invokevirtual 79, 3) := by decide +kernel
theorem dX2_sortAnew_13 : decode cX2_sortAnew 13 = .ok (.ifCond .eq 24, 3) := by decide +kernel
theorem dX2_sortAnew_16 : decode cX2_sortAnew 16 = .ok (.aload_n 0, 1) := by decide +kernel
theorem dX2_sortAnew_17 : decode cX2_sortAnew 17 = .ok (.getfield 14, 3) := by decide +kernel
theorem dX2_sortAnew_20 : decode cX2_sortAnew 20 = .ok (.iload_n 1, 1) := by decide +kernel
theorem dX2_sortAnew_21 : decode cX2_sortAnew 21 = .ok (.invokevirtual 46, 3) := by decide +kernel
theorem dX2_sortAnew_24 : decode cX2_sortAnew 24 = .ok (.istore_n 3, 1) := by decide +kernel
theorem dX2_sortAnew_25 : decode cX2_sortAnew 25 = .ok (.aload_n 0, 1) := by decide +kernel
theorem dX2_sortAnew_26 : decode cX2_sortAnew 26 = .ok (.iload_n 1, 1) := by decide +kernel
theorem dX2_sortAnew_27 : decode cX2_sortAnew 27 = .ok (.invokevirtual 76, 3) := by decide +kernel
theorem dX2_sortAnew_30 : decode cX2_sortAnew 30 = .ok (.aload_n 0, 1) := by decide +kernel
theorem dX2_sortAnew_31 : decode cX2_sortAnew 31 = .ok (.iload_n 1, 1) := by decide +kernel
theorem dX2_sortAnew_32 : decode cX2_sortAnew 32 = .ok (.iload_n 3, 1) := by decide +kernel
theorem dX2_sortAnew_33 : decode cX2_sortAnew 33 = .ok (.aload_n 2, 1) := by decide +kernel
theorem dX2_sortAnew_34 : decode cX2_sortAnew 34 = .ok (.invokevirtual 65, 3) := by decide +kernel
theorem dX2_sortAnew_37 : decode cX2_sortAnew 37 = .ok (.return_, 1) := by decide +kernel
theorem dX2_forget_0 : decode cX2_forget 0 = .ok (.aload_n 0, 1) := by decide +kernel
theorem dX2_forget_1 : decode cX2_forget 1 = .ok (.iload_n 1, 1) := by decide +kernel
theorem dX2_forget_2 : decode cX2_forget 2 = .ok (.invokevirtual 82, 3) := by decide +kernel
theorem dX2_forget_5 : decode cX2_forget 5 = .ok (.ifCond .eq 20, 3) := by decide +kernel
theorem dX2_forget_8 : decode cX2_forget 8 = .ok (.aload_n 0, 1) := by decide +kernel
theorem dX2_forget_9 : decode cX2_forget 9 = .ok (.iload_n 1, 1) := by decide +kernel
theorem dX2_forget_10 : decode cX2_forget 10 = .ok (.invokevirtual 85, 3) := by decide +kernel
theorem dX2_forget_13 : decode cX2_forget 13 = .ok (.aload_n 0, 1) := by decide +kernel
theorem dX2_forget_14 : decode cX2_forget 14 = .ok (.getfield 14, 3) := by decide +kernel
theorem dX2_forget_17 : decode cX2_forget 17 = .ok (.iload_n 1, 1) := by decide +kernel
theorem dX2_forget_18 : decode cX2_forget 18 = .ok (.iconst (-1), 1) := by decide +kernel
theorem dX2_forget_19 : decode cX2_forget 19 = .ok (.invokevirtual 50, 3) := by decide +kernel
theorem dX2_forget_22 : decode cX2_forget 22 = .ok (.goto 16, 3) := by decide +kernel
theorem dX2_forget_25 : decode cX2_forget 25 = .ok (.aload_n 0, 1) := by decide +kernel
theorem dX2_forget_26 : decode cX2_forget 26 = .ok (.iload_n 1, 1) := by decide +kernel
theorem dX2_forget_27 : decode cX2_forget 27 = .ok (.invokevirtual 79, 3) := by decide +kernel
theorem dX2_forget_30 : decode cX2_forget 30 = .ok (.ifCond .eq 8, 3) := by decide +kernel
theorem dX2_forget_33 : decode cX2_forget 33 = .ok (.aload_n 0, 1) := by decide +kernel
theorem dX2_forget_34 : decode cX2_forget 34 = .ok (.iload_n 1, 1) := by decide +kernel
theorem dX2_forget_35 : decode cX2_forget 35 = .ok (.invokevirtual 76, 3) := by decide +kernel
theorem dX2_forget_38 : decode cX2_forget 38 = .ok (.aload_n 0, 1) := by decide +kernel
theorem dX2_forget_39 : decode cX2_forget 39 = .ok (.getfield 26, 3) := by decide +kernel
theorem dX2_forget_42 : decode cX2_forget 42 = .ok (.iload_n 1, 1) := by decide +kernel
theorem dX2_forget_43 : decode cX2_forget 43 = .ok (.if_icmp .ne 8, 3) := by decide +kernel
theorem dX2_forget_46 : decode cX2_forget 46 = .ok (.aload_n 0, 1) := by decide +kernel
theorem dX2_forget_47 : decode cX2_forget 47 = .ok (.iconst (-1), 1) := by decide +kernel
theorem dX2_forget_48 : decode cX2_forget 48 = .ok (.putfield 26, 3) := by decide +kernel
theorem dX2_forget_51 : decode cX2_forget 51 = .ok (.return_, 1) := by decide +kernel
theorem dX2_releaseMembers_0 : decode cX2_releaseMembers 0 = .ok (.iconst 0, 1) := by decide +kernel
theorem dX2_releaseMembers_1 : decode cX2_releaseMembers 1 = .ok (.istore_n 2, 1) := by decide +kernel
theorem dX2_releaseMembers_2 : decode cX2_releaseMembers 2 = .ok (.iload_n 2, 1) := by decide +kernel
theorem dX2_releaseMembers_3 : decode cX2_releaseMembers 3 = .ok (.bipush 60, 2) := by decide +kernel
theorem dX2_releaseMembers_5 : decode cX2_releaseMembers 5 = .ok (.if_icmp .ge 33, 3) := by decide +kernel
theorem dX2_releaseMembers_8 : decode cX2_releaseMembers 8 = .ok (.aload_n 0, 1) := by decide +kernel
theorem dX2_releaseMembers_9 : decode cX2_releaseMembers 9 = .ok (.getfield 20, 3) := by decide +kernel
theorem dX2_releaseMembers_12 : decode cX2_releaseMembers 12 = .ok (.iload_n 1, 1) := by decide +kernel
theorem dX2_releaseMembers_13 : decode cX2_releaseMembers 13 = .ok (.invokevirtual 46, 3) := by decide +kernel
theorem dX2_releaseMembers_16 : decode cX2_releaseMembers 16 = .ok (.iload_n 1, 1) := by decide +kernel
theorem dX2_releaseMembers_17 : decode cX2_releaseMembers 17 = .ok (.if_icmp .eq 21, 3) := by decide +kernel
theorem dX2_releaseMembers_20 : decode cX2_releaseMembers 20 = .ok (.aload_n 0, 1) := by decide +kernel
theorem dX2_releaseMembers_21 : decode cX2_releaseMembers 21 = .ok (.aload_n 0, 1) := by decide +kernel
theorem dX2_releaseMembers_22 : decode cX2_releaseMembers 22 = .ok (.getfield 20, 3) := by decide +kernel
theorem dX2_releaseMembers_25 : decode cX2_releaseMembers 25 = .ok (.iload_n 1, 1) := by decide +kernel
theorem dX2_releaseMembers_26 : decode cX2_releaseMembers 26 = .ok (.invokevirtual 46, 3) := by decide +kernel
theorem dX2_releaseMembers_29 : decode cX2_releaseMembers 29 = .ok (.invokevirtual 88, 3) := by decide +kernel
theorem dX2_releaseMembers_32 : decode cX2_releaseMembers 32 = .ok (.iinc 2 1, 3) := by decide +kernel
theorem dX2_releaseMembers_35 : decode cX2_releaseMembers 35 = .ok (.goto (-33), 3) := by decide +kernel
theorem dX2_releaseMembers_38 : decode cX2_releaseMembers 38 = .ok (.return_, 1) := by decide +kernel
theorem dX2_gather_0 : decode cX2_gather 0 = .ok (.aload_n 0, 1) := by decide +kernel
theorem dX2_gather_1 : decode cX2_gather 1 = .ok (.getfield 20, 3) := by decide +kernel
theorem dX2_gather_4 : decode cX2_gather 4 = .ok (.iload_n 1, 1) := by decide +kernel
theorem dX2_gather_5 : decode cX2_gather 5 = .ok (.invokevirtual 46, 3) := by decide +kernel
theorem dX2_gather_8 : decode cX2_gather 8 = .ok (.istore_n 3, 1) := by decide +kernel
theorem dX2_gather_9 : decode cX2_gather 9 = .ok (.iconst 0, 1) := by decide +kernel
theorem dX2_gather_10 : decode cX2_gather 10 = .ok (.istore 4, 2) := by decide +kernel
theorem dX2_gather_12 : decode cX2_gather 12 = .ok (.iload 4, 2) := by decide +kernel
theorem dX2_gather_14 : decode cX2_gather 14 = .ok (.bipush 60, 2) := by decide +kernel
theorem dX2_gather_16 : decode cX2_gather 16 = .ok (.if_icmp .ge 28, 3) := by decide +kernel
theorem dX2_gather_19 : decode cX2_gather 19 = .ok (.iload_n 3, 1) := by decide +kernel
theorem dX2_gather_20 : decode cX2_gather 20 = .ok (.iload_n 1, 1) := by decide +kernel
theorem dX2_gather_21 : decode cX2_gather 21 = .ok (.if_icmp .eq 23, 3) := by decide +kernel
theorem dX2_gather_24 : decode cX2_gather 24 = .ok (.aload_n 2, 1) := by decide +kernel
theorem dX2_gather_25 : decode cX2_gather 25 = .ok (.iload_n 3, 1) := by decide +kernel
theorem dX2_gather_26 : decode cX2_gather 26 = .ok (.invokevirtual 91, 3) := by decide +kernel
theorem dX2_gather_29 : decode cX2_gather 29 = .ok (.aload_n 0, 1) := by decide +kernel
theorem dX2_gather_30 : decode cX2_gather 30 = .ok (.getfield 20, 3) := by decide +kernel
theorem dX2_gather_33 : decode cX2_gather 33 = .ok (.iload_n 3, 1) := by decide +kernel
theorem dX2_gather_34 : decode cX2_gather 34 = .ok (.invokevirtual 46, 3) := by decide +kernel
theorem dX2_gather_37 : decode cX2_gather 37 = .ok (.istore_n 3, 1) := by decide +kernel
theorem dX2_gather_38 : decode cX2_gather 38 = .ok (.iinc 4 1, 3) := by decide +kernel
theorem dX2_gather_41 : decode cX2_gather 41 = .ok (.goto (-29), 3) := by decide +kernel
theorem dX2_gather_44 : decode cX2_gather 44 = .ok (.return_, 1) := by decide +kernel
theorem dX2_neighbour_0 : decode cX2_neighbour 0 = .ok (.iload_n 2, 1) := by decide +kernel
theorem dX2_neighbour_1 : decode cX2_neighbour 1 = .ok (.ifCond .eq 14, 3) := by decide +kernel
theorem dX2_neighbour_4 : decode cX2_neighbour 4 = .ok (.aload_n 0, 1) := by decide +kernel
theorem dX2_neighbour_5 : decode cX2_neighbour 5 = .ok (.getfield 23, 3) := by decide +kernel
theorem dX2_neighbour_8 : decode cX2_neighbour 8 = .ok (.iload_n 1, 1) := by decide +kernel
theorem dX2_neighbour_9 : decode cX2_neighbour 9 = .ok (.invokevirtual 46, 3) := by decide +kernel
theorem dX2_neighbour_12 : decode cX2_neighbour 12 = .ok (.goto 11, 3) := by decide +kernel
theorem dX2_neighbour_15 : decode cX2_neighbour 15 = .ok (.aload_n 0, 1) := by decide +kernel
theorem dX2_neighbour_16 : decode cX2_neighbour 16 = .ok (.getfield 20, 3) := by decide +kernel
theorem dX2_neighbour_19 : decode cX2_neighbour 19 = .ok (.iload_n 1, 1) := by decide +kernel
theorem dX2_neighbour_20 : decode cX2_neighbour 20 = .ok (.invokevirtual 46, 3) := by decide +kernel
theorem dX2_neighbour_23 : decode cX2_neighbour 23 = .ok (.istore_n 3, 1) := by decide +kernel
theorem dX2_neighbour_24 : decode cX2_neighbour 24 = .ok (.iload_n 3, 1) := by decide +kernel
theorem dX2_neighbour_25 : decode cX2_neighbour 25 = .ok (.aload_n 0, 1) := by decide +kernel
theorem dX2_neighbour_26 : decode cX2_neighbour 26 = .ok (.getfield 14, 3) := by decide +kernel
theorem dX2_neighbour_29 : decode cX2_neighbour 29 = .ok (.iload_n 1, 1) := by decide +kernel
theorem dX2_neighbour_30 : decode cX2_neighbour 30 = .ok (.invokevirtual 46, 3) := by decide +kernel
theorem dX2_neighbour_33 : decode cX2_neighbour 33 = .ok (.if_icmp .ne 7, 3) := by decide +kernel
theorem dX2_neighbour_36 : decode cX2_neighbour 36 = .ok (.iconst (-1), 1) := by decide +kernel
theorem dX2_neighbour_37 : decode cX2_neighbour 37 = .ok (.goto 4, 3) := by decide +kernel
theorem dX2_neighbour_40 : decode cX2_neighbour 40 = .ok (.iload_n 3, 1) := by decide +kernel
theorem dX2_neighbour_41 : decode cX2_neighbour 41 = .ok (.ireturn, 1) := by decide +kernel
theorem dX2_firstWithValue_0 : decode cX2_firstWithValue 0 = .ok (.aload_n 0, 1) := by decide +kernel
theorem dX2_firstWithValue_1 : decode cX2_firstWithValue 1 = .ok (.getfield 20, 3) := by decide +kernel
theorem dX2_firstWithValue_4 : decode cX2_firstWithValue 4 = .ok (.iload_n 1, 1) := by decide +kernel
theorem dX2_firstWithValue_5 : decode cX2_firstWithValue 5 = .ok (.invokevirtual 46, 3) := by decide +kernel
theorem dX2_firstWithValue_8 : decode cX2_firstWithValue 8 = .ok (.istore 4, 2) := by decide +kernel
theorem dX2_firstWithValue_10 : decode cX2_firstWithValue 10 = .ok (.iconst 0, 1) := by decide +kernel
theorem dX2_firstWithValue_11 : decode cX2_firstWithValue 11 = .ok (.istore 5, 2) := by decide +kernel
theorem dX2_firstWithValue_13 : decode cX2_firstWithValue 13 = .ok (.iload 5, 2) := by decide +kernel
theorem dX2_firstWithValue_15 : decode cX2_firstWithValue 15 = .ok (.bipush 60, 2) := by decide +kernel
theorem dX2_firstWithValue_17 : decode cX2_firstWithValue 17 = .ok (.if_icmp .ge 39, 3) := by decide +kernel
theorem dX2_firstWithValue_20 : decode cX2_firstWithValue 20 = .ok (.iload 4, 2) := by decide +kernel
theorem dX2_firstWithValue_22 : decode cX2_firstWithValue 22 = .ok (.iload_n 1, 1) := by decide +kernel
theorem dX2_firstWithValue_23 : decode cX2_firstWithValue 23 = .ok (.if_icmp .eq 33, 3) := by decide +kernel
theorem dX2_firstWithValue_26 : decode cX2_firstWithValue 26 = .ok (.aload_n 3, 1) := by decide +kernel
theorem dX2_firstWithValue_27 : decode cX2_firstWithValue 27 = .ok (.iload 4, 2) := by decide +kernel
theorem dX2_firstWithValue_29 : decode cX2_firstWithValue 29 = .ok (.invokevirtual 46, 3) := by decide +kernel
theorem dX2_firstWithValue_32 : decode cX2_firstWithValue 32 = .ok (.iload_n 2, 1) := by decide +kernel
theorem dX2_firstWithValue_33 : decode cX2_firstWithValue 33 = .ok (.if_icmp .ne 6, 3) := by decide +kernel
theorem dX2_firstWithValue_36 : decode cX2_firstWithValue 36 = .ok (.iload 4, 2) := by decide +kernel
theorem dX2_firstWithValue_38 : decode cX2_firstWithValue 38 = .ok (.ireturn, 1) := by decide +kernel
theorem dX2_firstWithValue_39 : decode cX2_firstWithValue 39 = .ok (.aload_n 0, 1) := by decide +kernel
theorem dX2_firstWithValue_40 : decode cX2_firstWithValue 40 = .ok (.getfield 20, 3) := by decide +kernel
theorem dX2_firstWithValue_43 : decode cX2_firstWithValue 43 = .ok (.iload 4, 2) := by decide +kernel
theorem dX2_firstWithValue_45 : decode cX2_firstWithValue 45 = .ok (.invokevirtual 46, 3) := by decide +kernel
theorem dX2_firstWithValue_48 : decode cX2_firstWithValue 48 = .ok (.istore 4, 2) := by decide +kernel
theorem dX2_firstWithValue_50 : decode cX2_firstWithValue 50 = .ok (.iinc 5 1, 3) := by decide +kernel
theorem dX2_firstWithValue_53 : decode cX2_firstWithValue 53 = .ok (.goto (-40), 3) := by decide +kernel
theorem dX2_firstWithValue_56 : decode cX2_firstWithValue 56 = .ok (.iconst (-1), 1) := by decide +kernel
theorem dX2_firstWithValue_57 : decode cX2_firstWithValue 57 = .ok (.ireturn, 1) := by decide +kernel
theorem dX2_countByRing_0 : decode cX2_countByRing 0 = .ok (.iconst 0, 1) := by decide +kernel
theorem dX2_countByRing_1 : decode cX2_countByRing 1 = .ok (.istore_n 2, 1) := by decide +kernel
theorem dX2_countByRing_2 : decode cX2_countByRing 2 = .ok (.aload_n 0, 1) := by decide +kernel
theorem dX2_countByRing_3 : decode cX2_countByRing 3 = .ok (.getfield 20, 3) := by decide +kernel
theorem dX2_countByRing_6 : decode cX2_countByRing 6 = .ok (.iload_n 1, 1) := by decide +kernel
theorem dX2_countByRing_7 : decode cX2_countByRing 7 = .ok (.invokevirtual 46, 3) := by decide +kernel
theorem dX2_countByRing_10 : decode cX2_countByRing 10 = .ok (.istore_n 3, 1) := by decide +kernel
theorem dX2_countByRing_11 : decode cX2_countByRing 11 = .ok (.iload_n 3, 1) := by decide +kernel
theorem dX2_countByRing_12 : decode cX2_countByRing 12 = .ok (.iload_n 1, 1) := by decide +kernel
theorem dX2_countByRing_13 : decode cX2_countByRing 13 = .ok (.if_icmp .eq 24, 3) := by decide +kernel
theorem dX2_countByRing_16 : decode cX2_countByRing 16 = .ok (.iload_n 2, 1) := by decide +kernel
theorem dX2_countByRing_17 : decode cX2_countByRing 17 = .ok (.bipush 60, 2) := by decide +kernel
theorem dX2_countByRing_19 : decode cX2_countByRing 19 = .ok (.if_icmp .ge 18, 3) := by decide +kernel
theorem dX2_countByRing_22 : decode cX2_countByRing 22 = .ok (.iinc 2 1, 3) := by decide +kernel
theorem dX2_countByRing_25 : decode cX2_countByRing 25 = .ok (.aload_n 0, 1) := by decide +kernel
theorem dX2_countByRing_26 : decode cX2_countByRing 26 = .ok (.getfield 20, 3) := by decide +kernel
theorem dX2_countByRing_29 : decode cX2_countByRing 29 = .ok (.iload_n 3, 1) := by decide +kernel
theorem dX2_countByRing_30 : decode cX2_countByRing 30 = .ok (.invokevirtual 46, 3) := by decide +kernel
theorem dX2_countByRing_33 : decode cX2_countByRing 33 = .ok (.istore_n 3, 1) := by decide +kernel
theorem dX2_countByRing_34 : decode cX2_countByRing 34 = .ok (.goto (-23), 3) := by decide +kernel
theorem dX2_countByRing_37 : decode cX2_countByRing 37 = .ok (.iload_n 2, 1) := by decide +kernel
theorem dX2_countByRing_38 : decode cX2_countByRing 38 = .ok (.ireturn, 1) := by decide +kernel
theorem dX2_countByTable_0 : decode cX2_countByTable 0 = .ok (.iconst 0, 1) := by decide +kernel
theorem dX2_countByTable_1 : decode cX2_countByTable 1 = .ok (.istore_n 2, 1) := by decide +kernel
theorem dX2_countByTable_2 : decode cX2_countByTable 2 = .ok (.iconst 0, 1) := by decide +kernel
theorem dX2_countByTable_3 : decode cX2_countByTable 3 = .ok (.istore_n 3, 1) := by decide +kernel
theorem dX2_countByTable_4 : decode cX2_countByTable 4 = .ok (.iload_n 3, 1) := by decide +kernel
theorem dX2_countByTable_5 : decode cX2_countByTable 5 = .ok (.bipush 60, 2) := by decide +kernel
theorem dX2_countByTable_7 : decode cX2_countByTable 7 = .ok (.if_icmp .ge 29, 3) := by decide +kernel
theorem dX2_countByTable_10 : decode cX2_countByTable 10 = .ok (.iload_n 3, 1) := by decide +kernel
theorem dX2_countByTable_11 : decode cX2_countByTable 11 = .ok (.iload_n 1, 1) := by decide +kernel
theorem dX2_countByTable_12 : decode cX2_countByTable 12 = .ok (.if_icmp .eq 18, 3) := by decide +kernel
theorem dX2_countByTable_15 : decode cX2_countByTable 15 = .ok (.aload_n 0, 1) := by decide +kernel
theorem dX2_countByTable_16 : decode cX2_countByTable 16 = .ok (.getfield 14, 3) := by decide +kernel
theorem dX2_countByTable_19 : decode cX2_countByTable 19 = .ok (.iload_n 3, 1) := by decide +kernel
theorem dX2_countByTable_20 : decode cX2_countByTable 20 = .ok (.invokevirtual 46, 3) := by decide +kernel
theorem dX2_countByTable_23 : decode cX2_countByTable 23 = .ok (.iload_n 1, 1) := by decide +kernel
theorem dX2_countByTable_24 : decode cX2_countByTable 24 = .ok (.if_icmp .ne 6, 3) := by decide +kernel
theorem dX2_countByTable_27 : decode cX2_countByTable 27 = .ok (.iinc 2 1, 3) := by decide +kernel
theorem dX2_countByTable_30 : decode cX2_countByTable 30 = .ok (.iinc 3 1, 3) := by decide +kernel
theorem dX2_countByTable_33 : decode cX2_countByTable 33 = .ok (.goto (-29), 3) := by decide +kernel
theorem dX2_countByTable_36 : decode cX2_countByTable 36 = .ok (.iload_n 2, 1) := by decide +kernel
theorem dX2_countByTable_37 : decode cX2_countByTable 37 = .ok (.ireturn, 1) := by decide +kernel
theorem dX2_memberByPlace_0 : decode cX2_memberByPlace 0 = .ok (.aload_n 0, 1) := by decide +kernel
theorem dX2_memberByPlace_1 : decode cX2_memberByPlace 1 = .ok (.getfield 20, 3) := by decide +kernel
theorem dX2_memberByPlace_4 : decode cX2_memberByPlace 4 = .ok (.iload_n 1, 1) := by decide +kernel
theorem dX2_memberByPlace_5 : decode cX2_memberByPlace 5 = .ok (.invokevirtual 46, 3) := by decide +kernel
theorem dX2_memberByPlace_8 : decode cX2_memberByPlace 8 = .ok (.istore_n 3, 1) := by decide +kernel
theorem dX2_memberByPlace_9 : decode cX2_memberByPlace 9 = .ok (.iconst 0, 1) := by decide +kernel
theorem dX2_memberByPlace_10 : decode cX2_memberByPlace 10 = .ok (.istore 4, 2) := by decide +kernel
theorem dX2_memberByPlace_12 : decode cX2_memberByPlace 12 = .ok (.iload 4, 2) := by decide +kernel
theorem dX2_memberByPlace_14 : decode cX2_memberByPlace 14 = .ok (.iload_n 2, 1) := by decide +kernel
theorem dX2_memberByPlace_15 : decode cX2_memberByPlace 15 = .ok (.if_icmp .ge 25, 3) := by decide +kernel
theorem dX2_memberByPlace_18 : decode cX2_memberByPlace 18 = .ok (.iload 4, 2) := by decide +kernel
theorem dX2_memberByPlace_20 : decode cX2_memberByPlace 20 = .ok (.bipush 60, 2) := by decide +kernel
theorem dX2_memberByPlace_22 : decode cX2_memberByPlace 22 = .ok (.if_icmp .ge 18, 3) := by decide +kernel
theorem dX2_memberByPlace_25 : decode cX2_memberByPlace 25 = .ok (.aload_n 0, 1) := by decide +kernel
theorem dX2_memberByPlace_26 : decode cX2_memberByPlace 26 = .ok (.getfield 20, 3) := by decide +kernel
theorem dX2_memberByPlace_29 : decode cX2_memberByPlace 29 = .ok (.iload_n 3, 1) := by decide +kernel
theorem dX2_memberByPlace_30 : decode cX2_memberByPlace 30 = .ok (.invokevirtual 46, 3) := by decide +kernel
theorem dX2_memberByPlace_33 : decode cX2_memberByPlace 33 = .ok (.istore_n 3, 1) := by decide +kernel
theorem dX2_memberByPlace_34 : decode cX2_memberByPlace 34 = .ok (.iinc 4 1, 3) := by decide +kernel
theorem dX2_memberByPlace_37 : decode cX2_memberByPlace 37 = .ok (.goto (-25), 3) := by decide +kernel
theorem dX2_memberByPlace_40 : decode cX2_memberByPlace 40 = .ok (.iload_n 3, 1) := by decide +kernel
theorem dX2_memberByPlace_41 : decode cX2_memberByPlace 41 = .ok (.ireturn, 1) := by decide +kernel
theorem dX3_init_0 : decode cX3_init 0 = .ok (.aload_n 0, 1) := by decide +kernel
theorem dX3_init_1 : decode cX3_init 1 = .ok (.invokespecial 1, 3) := by decide +kernel
theorem dX3_init_4 : decode cX3_init 4 = .ok (.aload_n 0, 1) := by decide +kernel
theorem dX3_init_5 : decode cX3_init 5 = .ok (.new 7, 3) := by decide +kernel
theorem dX3_init_8 : decode cX3_init 8 = .ok (.dup, 1) := by decide +kernel
theorem dX3_init_9 : decode cX3_init 9 = .ok (.invokespecial 9, 3) := by decide +kernel
theorem dX3_init_12 : decode cX3_init 12 = .ok (.putfield 10, 3) := by decide +kernel
theorem dX3_init_15 : decode cX3_init 15 = .ok (.aload_n 0, 1) := by decide +kernel
theorem dX3_init_16 : decode cX3_init 16 = .ok (.new 16, 3) := by decide +kernel
theorem dX3_init_19 : decode cX3_init 19 = .ok (.dup, 1) := by decide +kernel
theorem dX3_init_20 : decode cX3_init 20 = .ok (.bipush 60, 2) := by decide +kernel
theorem dX3_init_22 : decode cX3_init 22 = .ok (.invokespecial 18, 3) := by decide +kernel
theorem dX3_init_25 : decode cX3_init 25 = .ok (.putfield 21, 3) := by decide +kernel
theorem dX3_init_28 : decode cX3_init 28 = .ok (.aload_n 0, 1) := by decide +kernel
theorem dX3_init_29 : decode cX3_init 29 = .ok (.new 16, 3) := by decide +kernel
theorem dX3_init_32 : decode cX3_init 32 = .ok (.dup, 1) := by decide +kernel
theorem dX3_init_33 : decode cX3_init 33 = .ok (.bipush 60, 2) := by decide +kernel
theorem dX3_init_35 : decode cX3_init 35 = .ok (.invokespecial 18, 3) := by decide +kernel
theorem dX3_init_38 : decode cX3_init 38 = .ok (.putfield 25, 3) := by decide +kernel
theorem dX3_init_41 : decode cX3_init 41 = .ok (.aload_n 0, 1) := by decide +kernel
theorem dX3_init_42 : decode cX3_init 42 = .ok (.new 16, 3) := by decide +kernel
theorem dX3_init_45 : decode cX3_init 45 = .ok (.dup, 1) := by decide +kernel
theorem dX3_init_46 : decode cX3_init 46 = .ok (.iconst 4, 1) := by decide +kernel
theorem dX3_init_47 : decode cX3_init 47 = .ok (.invokespecial 18, 3) := by decide +kernel
theorem dX3_init_50 : decode cX3_init 50 = .ok (.putfield 28, 3) := by decide +kernel
theorem dX3_init_53 : decode cX3_init 53 = .ok (.aload_n 0, 1) := by decide +kernel
theorem dX3_init_54 : decode cX3_init 54 = .ok (.new 31, 3) := by decide +kernel
theorem dX3_init_57 : decode cX3_init 57 = .ok (.dup, 1) := by decide +kernel
theorem dX3_init_58 : decode cX3_init 58 = .ok (.invokespecial 33, 3) := by decide +kernel
theorem dX3_init_61 : decode cX3_init 61 = .ok (.putfield 34, 3) := by decide +kernel
theorem dX3_init_64 : decode cX3_init 64 = .ok (.aload_n 0, 1) := by decide +kernel
theorem dX3_init_65 : decode cX3_init 65 = .ok (.iconst 0, 1) := by decide +kernel
theorem dX3_init_66 : decode cX3_init 66 = .ok (.putfield 38, 3) := by decide +kernel
theorem dX3_init_69 : decode cX3_init 69 = .ok (.aload_n 0, 1) := by decide +kernel
theorem dX3_init_70 : decode cX3_init 70 = .ok (.iconst 0, 1) := by decide +kernel
theorem dX3_init_71 : decode cX3_init 71 = .ok (.putfield 42, 3) := by decide +kernel
theorem dX3_init_74 : decode cX3_init 74 = .ok (.aload_n 0, 1) := by decide +kernel
theorem dX3_init_75 : decode cX3_init 75 = .ok (.iconst (-1), 1) := by decide +kernel
theorem dX3_init_76 : decode cX3_init 76 = .ok (.putfield 45, 3) := by decide +kernel
theorem dX3_init_79 : decode cX3_init 79 = .ok (.return_, 1) := by decide +kernel
theorem dX3_declare_0 : decode cX3_declare 0 = .ok (.aload_n 0, 1) := by decide +kernel
theorem dX3_declare_1 : decode cX3_declare 1 = .ok (.iload_n 1, 1) := by decide +kernel
theorem dX3_declare_2 : decode cX3_declare 2 = .ok (.invokevirtual 48, 3) := by decide +kernel
theorem dX3_declare_5 : decode cX3_declare 5 = .ok (.aload_n 0, 1) := by decide +kernel
theorem dX3_declare_6 : decode cX3_declare 6 = .ok (.iload_n 2, 1) := by decide +kernel
theorem dX3_declare_7 : decode cX3_declare 7 = .ok (.invokevirtual 48, 3) := by decide +kernel
theorem dX3_declare_10 : decode cX3_declare 10 = .ok (.iload_n 1, 1) := by decide +kernel
theorem dX3_declare_11 : decode cX3_declare 11 = .ok (.iload_n 2, 1) := by decide +kernel
theorem dX3_declare_12 : decode cX3_declare 12 = .ok (.if_icmp .ne 13, 3) := by decide +kernel
theorem dX3_declare_15 : decode cX3_declare 15 = .ok (.new 51, 3) := by decide +kernel
theorem dX3_declare_18 : decode cX3_declare 18 = .ok (.dup, 1) := by decide +kernel
theorem dX3_declare_19 : decode cX3_declare 19 = .ok (.ldc 53, 2) := by decide +kernel
theorem dX3_declare_21 : decode cX3_declare 21 = .ok (.invokespecial 55, 3) := by decide +kernel
theorem dX3_declare_24 : decode cX3_declare 24 = .ok (.athrow, 1) := by decide +kernel
theorem dX3_declare_25 : decode cX3_declare 25 = .ok (.iload_n 3, 1) := by decide +kernel
theorem dX3_declare_26 : decode cX3_declare 26 = .ok (.ifCond .lt 8, 3) := by decide +kernel
theorem dX3_declare_29 : decode cX3_declare 29 = .ok (.iload_n 3, 1) := by decide +kernel
theorem dX3_declare_30 : decode cX3_declare 30 = .ok (.iconst 4, 1) := by decide +kernel
theorem dX3_declare_31 : decode cX3_declare 31 = .ok (.if_icmp .le 13, 3) := by decide +kernel
theorem dX3_declare_34 : decode cX3_declare 34 = .ok (.new 51, 3) := by decide +kernel
theorem dX3_declare_37 : decode cX3_declare 37 = .ok (.dup, 1) := by decide +kernel
theorem dX3_declare_38 : decode cX3_declare 38 = .ok (.ldc 58, 2) := by decide +kernel
theorem dX3_declare_40 : decode cX3_declare 40 = .ok (.invokespecial 55, 3) := by decide +kernel
theorem dX3_declare_43 : decode cX3_declare 43 = .ok (.athrow, 1) := by decide +kernel
theorem dX3_declare_44 : decode cX3_declare 44 = .ok (.iload 5, 2) := by decide +kernel
theorem dX3_declare_46 : decode cX3_declare 46 = .ok (.ifCond .lt 9, 3) := by decide +kernel
theorem dX3_declare_49 : decode cX3_declare 49 = .ok (.iload 5, 2) := by decide +kernel
theorem dX3_declare_51 : decode cX3_declare 51 = .ok (.iconst 2, 1) := by decide +kernel
theorem dX3_declare_52 : decode cX3_declare 52 = .ok (.if_icmp .le 13, 3) := by decide +kernel
theorem dX3_declare_55 : decode cX3_declare 55 = .ok (.new 51, 3) := by decide +kernel
theorem dX3_declare_58 : decode cX3_declare 58 = .ok (.dup, 1) := by decide +kernel
theorem dX3_declare_59 : decode cX3_declare 59 = .ok (.ldc 60, 2) := by decide +kernel
theorem dX3_declare_61 : decode cX3_declare 61 = .ok (.invokespecial 55, 3) := by decide +kernel
theorem dX3_declare_64 : decode cX3_declare 64 = .ok (.athrow, 1) := by decide +kernel
theorem dX3_declare_65 : decode cX3_declare 65 = .ok (.aload_n 0, 1) := by decide +kernel
theorem dX3_declare_66 : decode cX3_declare 66 = .ok (.getfield 10, 3) := by decide +kernel
theorem dX3_declare_69 : decode cX3_declare 69 = .ok (.invokevirtual 62, 3) := by decide +kernel
theorem dX3_declare_72 : decode cX3_declare 72 = .ok (.bipush 6, 2) := by decide +kernel
theorem dX3_declare_74 : decode cX3_declare 74 = .ok (.if_icmp .lt 13, 3) := by decide +kernel
theorem dX3_declare_77 : decode cX3_declare 77 = .ok (.new 66, 3) := by decide +kernel
theorem dX3_declare_80 : decode cX3_declare 80 = .ok (.dup, 1) := by decide +kernel
theorem dX3_declare_81 : decode cX3_declare 81 = .ok (.ldc 68, 2) := by decide +kernel
theorem dX3_declare_83 : decode cX3_declare 83 = .ok (.invokespecial 70, 3) := by decide +kernel
theorem dX3_declare_86 : decode cX3_declare 86 = .ok (.athrow, 1) := by decide +kernel
theorem dX3_declare_87 : decode cX3_declare 87 = .ok (.aload_n 0, 1) := by decide +kernel
theorem dX3_declare_88 : decode cX3_declare 88 = .ok (.getfield 38, 3) := by decide +kernel
theorem dX3_declare_91 : decode cX3_declare 91 = .ok (.ifCond .le 13, 3) := by decide +kernel
theorem dX3_declare_94 : decode cX3_declare 94 = .ok (.new 66, 3) := by decide +kernel
theorem dX3_declare_97 : decode cX3_declare 97 = .ok (.dup, 1) := by decide +kernel
theorem dX3_declare_98 : decode cX3_declare 98 = .ok (.ldc 71, 2) := by decide +kernel
theorem dX3_declare_100 : decode cX3_declare 100 = .ok (.invokespecial 70, 3) := by decide +kernel
theorem dX3_declare_103 : decode cX3_declare 103 = .ok (.athrow, 1) := by decide +kernel
theorem dX3_declare_104 : decode cX3_declare 104 = .ok (.aload_n 0, 1) := by decide +kernel
theorem dX3_declare_105 : decode cX3_declare 105 = .ok (.getfield 10, 3) := by decide +kernel
theorem dX3_declare_108 : decode cX3_declare 108 = .ok (.new 73, 3) := by decide +kernel
theorem dX3_declare_111 : decode cX3_declare 111 = .ok (.dup, 1) := by decide +kernel
theorem dX3_declare_112 : decode cX3_declare 112 = .ok (.iload_n 1, 1) := by decide +kernel
theorem dX3_declare_113 : decode cX3_declare 113 = .ok (.iload_n 2, 1) := by decide +kernel
theorem dX3_declare_114 : decode cX3_declare 114 = .ok (.iload_n 3, 1) := by decide +kernel
theorem dX3_declare_115 : decode cX3_declare 115 = .ok (.iload 4, 2) := by decide +kernel
theorem dX3_declare_117 : decode cX3_declare 117 = .ok (.iload 5, 2) := by decide +kernel
theorem dX3_declare_119 : decode cX3_declare 119 = .ok (.invokespecial 75, 3) := by decide +kernel
theorem dX3_declare_122 : decode cX3_declare 122 = .ok (.invokevirtual 78, 3) := by decide +kernel
theorem dX3_declare_125 : decode cX3_declare 125 = .ok (.pop, 1) := by decide +kernel
theorem dX3_declare_126 : decode cX3_declare 126 = .ok (.aload_n 0, 1) := by decide +kernel
theorem dX3_declare_127 : decode cX3_declare 127 = .ok (.getfield 10, 3) := by decide +kernel
theorem dX3_declare_130 : decode cX3_declare 130 = .ok (.invokevirtual 62, 3) := by decide +kernel
theorem dX3_declare_133 : decode cX3_declare 133 = .ok (.iconst 1, 1) := by decide +kernel
theorem dX3_declare_134 : decode cX3_declare 134 = .ok (.isub, 1) := by decide +kernel
theorem dX3_declare_135 : decode cX3_declare 135 = .ok (.ireturn, 1) := by decide +kernel
theorem dX3_store_0 : decode cX3_store 0 = .ok (.aload_n 0, 1) := by decide +kernel
theorem dX3_store_1 : decode cX3_store 1 = .ok (.iload_n 1, 1) := by decide +kernel
theorem dX3_store_2 : decode cX3_store 2 = .ok (.invokevirtual 48, 3) := by decide +kernel
theorem dX3_store_5 : decode cX3_store 5 = .ok (.aload_n 0, 1) := by decide +kernel
theorem dX3_store_6 : decode cX3_store 6 = .ok (.iload_n 2, 1) := by decide +kernel
theorem dX3_store_7 : decode cX3_store 7 = .ok (.invokevirtual 82, 3) := by decide +kernel
theorem dX3_store_10 : decode cX3_store 10 = .ok (.aload_n 0, 1) := by decide +kernel
theorem dX3_store_11 : decode cX3_store 11 = .ok (.getfield 38, 3) := by decide +kernel
theorem dX3_store_14 : decode cX3_store 14 = .ok (.bipush 60, 2) := by decide +kernel
theorem dX3_store_16 : decode cX3_store 16 = .ok (.if_icmp .lt 13, 3) := by decide +kernel
theorem dX3_store_19 : decode cX3_store 19 = .ok (.new 66, 3) := by decide +kernel
theorem dX3_store_22 : decode cX3_store 22 = .ok (.dup, 1) := by decide +kernel
theorem dX3_store_23 : decode cX3_store 23 = .ok (.ldc 85, 2) := by decide +kernel
theorem dX3_store_25 : decode cX3_store 25 = .ok (.invokespecial 70, 3) := by decide +kernel
theorem dX3_store_28 : decode cX3_store 28 = .ok (.athrow, 1) := by decide +kernel
theorem dX3_store_29 : decode cX3_store 29 = .ok (.aload_n 0, 1) := by decide +kernel
theorem dX3_store_30 : decode cX3_store 30 = .ok (.iload_n 1, 1) := by decide +kernel
theorem dX3_store_31 : decode cX3_store 31 = .ok (.invokevirtual 87, 3) := by decide +kernel
theorem dX3_store_34 : decode cX3_store 34 = .ok (.ifCond .eq 13, 3) := by decide +kernel
theorem dX3_store_37 : decode cX3_store 37 = .ok (.new 66, 3) := by decide +kernel
theorem dX3_store_40 : decode cX3_store 40 = .ok (.dup, 1) := by decide +kernel
theorem dX3_store_41 : decode cX3_store 41 = .ok (.ldc 91, 2) := by decide +kernel
theorem dX3_store_43 : decode cX3_store 43 = .ok (.invokespecial 70, 3) := by decide +kernel
theorem dX3_store_46 : decode cX3_store 46 = .ok (.athrow, 1) := by decide +kernel
theorem dX3_store_47 : decode cX3_store 47 = .ok (.aload_n 0, 1) := by decide +kernel
theorem dX3_store_48 : decode cX3_store 48 = .ok (.getfield 38, 3) := by decide +kernel
theorem dX3_store_51 : decode cX3_store 51 = .ok (.istore_n 3, 1) := by decide +kernel
theorem dX3_store_52 : decode cX3_store 52 = .ok (.aload_n 0, 1) := by decide +kernel
theorem dX3_store_53 : decode cX3_store 53 = .ok (.dup, 1) := by decide +kernel
theorem dX3_store_54 : decode cX3_store 54 = .ok (.getfield 38, 3) := by decide +kernel
theorem dX3_store_57 : decode cX3_store 57 = .ok (.iconst 1, 1) := by decide +kernel
theorem dX3_store_58 : decode cX3_store 58 = .ok (.iadd, 1) := by decide +kernel
theorem dX3_store_59 : decode cX3_store 59 = .ok (.putfield 38, 3) := by decide +kernel
theorem dX3_store_62 : decode cX3_store 62 = .ok (.aload_n 0, 1) := by decide +kernel
theorem dX3_store_63 : decode cX3_store 63 = .ok (.dup, 1) := by decide +kernel
theorem dX3_store_64 : decode cX3_store 64 = .ok (.getfield 42, 3) := by decide +kernel
theorem dX3_store_67 : decode cX3_store 67 = .ok (.iconst 1, 1) := by decide +kernel
theorem dX3_store_68 : decode cX3_store 68 = .ok (.iadd, 1) := by decide +kernel
theorem dX3_store_69 : decode cX3_store 69 = .ok (.putfield 42, 3) := by decide +kernel
theorem dX3_store_72 : decode cX3_store 72 = .ok (.aload_n 0, 1) := by decide +kernel
theorem dX3_store_73 : decode cX3_store 73 = .ok (.getfield 21, 3) := by decide +kernel
theorem dX3_store_76 : decode cX3_store 76 = .ok (.iload_n 3, 1) := by decide +kernel
theorem dX3_store_77 : decode cX3_store 77 = .ok (.iload_n 1, 1) := by decide +kernel
theorem dX3_store_78 : decode cX3_store 78 = .ok (.invokevirtual 93, 3) := by decide +kernel
theorem dX3_store_81 : decode cX3_store 81 = .ok (.aload_n 0, 1) := by decide +kernel
theorem dX3_store_82 : decode cX3_store 82 = .ok (.getfield 25, 3) := by decide +kernel
theorem dX3_store_85 : decode cX3_store 85 = .ok (.iload_n 3, 1) := by decide +kernel
theorem dX3_store_86 : decode cX3_store 86 = .ok (.iload_n 2, 1) := by decide +kernel
theorem dX3_store_87 : decode cX3_store 87 = .ok (.invokevirtual 93, 3) := by decide +kernel
theorem dX3_store_90 : decode cX3_store 90 = .ok (.iconst 0, 1) := by decide +kernel
theorem dX3_store_91 : decode cX3_store 91 = .ok (.istore 4, 2) := by decide +kernel
theorem dX3_store_93 : decode cX3_store 93 = .ok (.iload 4, 2) := by decide +kernel
theorem dX3_store_95 : decode cX3_store 95 = .ok (.aload_n 0, 1) := by decide +kernel
theorem dX3_store_96 : decode cX3_store 96 = .ok (.getfield 10, 3) := by decide +kernel
theorem dX3_store_99 : decode cX3_store 99 = .ok (.invokevirtual 62, 3) := by decide +kernel
theorem dX3_store_102 : decode cX3_store 102 = .ok (.if_icmp .ge 30, 3) := by decide +kernel
theorem dX3_store_105 : decode cX3_store 105 = .ok (.aload_n 0, 1) := by decide +kernel
theorem dX3_store_106 : decode cX3_store 106 = .ok (.getfield 10, 3) := by decide +kernel
theorem dX3_store_109 : decode cX3_store 109 = .ok (.iload 4, 2) := by decide +kernel
theorem dX3_store_111 : decode cX3_store 111 = .ok (.invokevirtual 97, 3) := by decide +kernel
theorem dX3_store_114 : decode cX3_store 114 = .ok (.checkcast 73, 3) := by decide +kernel
theorem dX3_store_117 : decode cX3_store 117 = .ok (.iload_n 3, 1) := by decide +kernel
theorem dX3_store_118 : decode cX3_store 118 = .ok (.iload_n 1, 1) := by decide +kernel
theorem dX3_store_119 : decode cX3_store 119 = .ok (.aload_n 0, 1) := by decide +kernel
theorem dX3_store_120 : decode cX3_store 120 = .ok (.getfield 25, 3) := by decide +kernel
theorem dX3_store_123 : decode cX3_store 123 = .ok (.invokevirtual 101, 3) := by decide +kernel
theorem dX3_store_126 : decode cX3_store 126 = .ok (.iinc 4 1, 3) := by decide +kernel
theorem dX3_store_129 : decode cX3_store 129 = .ok (.goto (-36), 3) := by decide +kernel
theorem dX3_store_132 : decode cX3_store 132 = .ok (.aload_n 0, 1) := by decide +kernel
theorem dX3_store_133 : decode cX3_store 133 = .ok (.iload_n 3, 1) := by decide +kernel
theorem dX3_store_134 : decode cX3_store 134 = .ok (.invokevirtual 105, 3) := by decide +kernel
theorem dX3_store_137 : decode cX3_store 137 = .ok (.ireturn, 1) := by decide +kernel
theorem dX3_modify_0 : decode cX3_modify 0 = .ok (.aload_n 0, 1) := by decide +kernel
theorem dX3_modify_1 : decode cX3_modify 1 = .ok (.iload_n 1, 1) := by decide +kernel
theorem dX3_modify_2 : decode cX3_modify 2 = .ok (.invokevirtual 82, 3) := by decide +kernel
theorem dX3_modify_5 : decode cX3_modify 5 = .ok (.aload_n 0, 1) := by decide +kernel
theorem dX3_modify_6 : decode cX3_modify 6 = .ok (.invokevirtual 109, 3) := by decide +kernel
theorem dX3_modify_9 : decode cX3_modify 9 = .ok (.aload_n 0, 1) := by decide +kernel
theorem dX3_modify_10 : decode cX3_modify 10 = .ok (.getfield 25, 3) := by decide +kernel
theorem dX3_modify_13 : decode cX3_modify 13 = .ok (.aload_n 0, 1) := by decide +kernel
theorem dX3_modify_14 : decode cX3_modify 14 = .ok (.getfield 45, 3) := by decide +kernel
theorem dX3_modify_17 : decode cX3_modify 17 = .ok (.invokevirtual 112, 3) := by decide +kernel
theorem dX3_modify_20 : decode cX3_modify 20 = .ok (.istore_n 2, 1) := by decide +kernel
theorem dX3_modify_21 : decode cX3_modify 21 = .ok (.aload_n 0, 1) := by decide +kernel
theorem dX3_modify_22 : decode cX3_modify 22 = .ok (.getfield 25, 3) := by decide +kernel
theorem dX3_modify_25 : decode cX3_modify 25 = .ok (.aload_n 0, 1) := by decide +kernel
theorem dX3_modify_26 : decode cX3_modify 26 = .ok (.getfield 45, 3) := by decide +kernel
theorem dX3_modify_29 : decode cX3_modify 29 = .ok (.iload_n 1, 1) := by decide +kernel
theorem dX3_modify_30 : decode cX3_modify 30 = .ok (.invokevirtual 93, 3) := by decide +kernel
theorem dX3_modify_33 : decode cX3_modify 33 = .ok (.iconst 0, 1) := by decide +kernel
theorem dX3_modify_34 : decode cX3_modify 34 = .ok (.istore_n 3, 1) := by decide +kernel
theorem dX3_modify_35 : decode cX3_modify 35 = .ok (.iload_n 3, 1) := by decide +kernel
theorem dX3_modify_36 : decode cX3_modify 36 = .ok (.aload_n 0, 1) := by decide +kernel
theorem dX3_modify_37 : decode cX3_modify 37 = .ok (.getfield 10, 3) := by decide +kernel
theorem dX3_modify_40 : decode cX3_modify 40 = .ok (.invokevirtual 62, 3) := by decide +kernel
theorem dX3_modify_43 : decode cX3_modify 43 = .ok (.if_icmp .ge 31, 3) := by decide +kernel
theorem dX3_modify_46 : decode cX3_modify 46 = .ok (.aload_n 0, 1) := by decide +kernel
theorem dX3_modify_47 : decode cX3_modify 47 = .ok (.getfield 10, 3) := by decide +kernel
theorem dX3_modify_50 : decode cX3_modify 50 = .ok (.iload_n 3, 1) := by decide +kernel
theorem dX3_modify_51 : decode cX3_modify 51 = .ok (.invokevirtual 97, 3) := by decide +kernel
theorem dX3_modify_54 : decode cX3_modify 54 = .ok (.checkcast 73, 3) := by decide +kernel
theorem dX3_modify_57 : decode cX3_modify 57 = .ok (.aload_n 0, 1) := by decide +kernel
theorem dX3_modify_58 : decode cX3_modify 58 = .ok (.getfield 45, 3) := by decide +kernel
theorem dX3_modify_61 : decode cX3_modify 61 = .ok (.aload_n 0, 1) := by decide +kernel
theorem dX3_modify_62 : decode cX3_modify 62 = .ok (.getfield 25, 3) := by decide +kernel
theorem dX3_modify_65 : decode cX3_modify 65 = .ok (.invokevirtual 115, 3) := by decide +kernel
theorem dX3_modify_68 : decode cX3_modify 68 = .ok (.iinc 3 1, 3) := by decide +kernel
theorem dX3_modify_71 : decode cX3_modify 71 = .ok (.goto (-36), 3) := by decide +kernel
theorem dX3_modify_74 : decode cX3_modify 74 = .ok (.iload_n 2, 1) := by decide +kernel
theorem dX3_modify_75 : decode cX3_modify 75 = .ok (.ireturn, 1) := by decide +kernel
theorem dX3_erase_0 : decode cX3_erase 0 = .ok (.aload_n 0, 1) := by decide +kernel
theorem dX3_erase_1 : decode cX3_erase 1 = .ok (.iload_n 1, 1) := by decide +kernel
theorem dX3_erase_2 : decode cX3_erase 2 = .ok (.invokevirtual 119, 3) := by decide +kernel
theorem dX3_erase_5 : decode cX3_erase 5 = .ok (.aload_n 0, 1) := by decide +kernel
theorem dX3_erase_6 : decode cX3_erase 6 = .ok (.invokevirtual 109, 3) := by decide +kernel
theorem dX3_erase_9 : decode cX3_erase 9 = .ok (.aload_n 0, 1) := by decide +kernel
theorem dX3_erase_10 : decode cX3_erase 10 = .ok (.aload_n 0, 1) := by decide +kernel
theorem dX3_erase_11 : decode cX3_erase 11 = .ok (.getfield 45, 3) := by decide +kernel
theorem dX3_erase_14 : decode cX3_erase 14 = .ok (.iload_n 1, 1) := by decide +kernel
theorem dX3_erase_15 : decode cX3_erase 15 = .ok (.invokevirtual 122, 3) := by decide +kernel
theorem dX3_erase_18 : decode cX3_erase 18 = .ok (.istore_n 2, 1) := by decide +kernel
theorem dX3_erase_19 : decode cX3_erase 19 = .ok (.iload_n 2, 1) := by decide +kernel
theorem dX3_erase_20 : decode cX3_erase 20 = .ok (.iconst (-1), 1) := by decide +kernel
theorem dX3_erase_21 : decode cX3_erase 21 = .ok (.if_icmp .ne 13, 3) := by decide +kernel
theorem dX3_erase_24 : decode cX3_erase 24 = .ok (.new 66, 3) := by decide +kernel
theorem dX3_erase_27 : decode cX3_erase 27 = .ok (.dup, 1) := by decide +kernel
theorem dX3_erase_28 : decode cX3_erase 28 = .ok (.ldc 126, 2) := by decide +kernel
theorem dX3_erase_30 : decode cX3_erase 30 = .ok (.invokespecial 70, 3) := by decide +kernel
theorem dX3_erase_33 : decode cX3_erase 33 = .ok (.athrow, 1) := by decide +kernel
theorem dX3_erase_34 : decode cX3_erase 34 = .ok (.iconst 0, 1) := by decide +kernel
theorem dX3_erase_35 : decode cX3_erase 35 = .ok (.istore_n 3, 1) := by decide +kernel
theorem dX3_erase_36 : decode cX3_erase 36 = .ok (.iload_n 3, 1) := by decide +kernel
theorem dX3_erase_37 : decode cX3_erase 37 = .ok (.iload_n 2, 1) := by decide +kernel
theorem dX3_erase_38 : decode cX3_erase 38 = .ok (.if_icmp .ge 21, 3) := by decide +kernel
theorem dX3_erase_41 : decode cX3_erase 41 = .ok (.aload_n 0, 1) := by decide +kernel
theorem dX3_erase_42 : decode cX3_erase 42 = .ok (.aload_n 0, 1) := by decide +kernel
theorem dX3_erase_43 : decode cX3_erase 43 = .ok (.getfield 34, 3) := by decide +kernel
theorem dX3_erase_46 : decode cX3_erase 46 = .ok (.iload_n 3, 1) := by decide +kernel
theorem dX3_erase_47 : decode cX3_erase 47 = .ok (.invokevirtual 128, 3) := by decide +kernel
theorem dX3_erase_50 : decode cX3_erase 50 = .ok (.invokevirtual 129, 3) := by decide +kernel
theorem dX3_erase_53 : decode cX3_erase 53 = .ok (.iinc 3 1, 3) := by decide +kernel
theorem dX3_erase_56 : decode cX3_erase 56 = .ok (.goto (-20), 3) := by decide +kernel
theorem dX3_erase_59 : decode cX3_erase 59 = .ok (.iload_n 2, 1) := by decide +kernel
theorem dX3_erase_60 : decode cX3_erase 60 = .ok (.ireturn, 1) := by decide +kernel
theorem dX3_connect_0 : decode cX3_connect 0 = .ok (.aload_n 0, 1) := by decide +kernel
theorem dX3_connect_1 : decode cX3_connect 1 = .ok (.iload_n 1, 1) := by decide +kernel
theorem dX3_connect_2 : decode cX3_connect 2 = .ok (.invokevirtual 132, 3) := by decide +kernel
theorem dX3_connect_5 : decode cX3_connect 5 = .ok (.astore_n 2, 1) := by decide +kernel
theorem dX3_connect_6 : decode cX3_connect 6 = .ok (.aload_n 0, 1) := by decide +kernel
theorem dX3_connect_7 : decode cX3_connect 7 = .ok (.invokevirtual 109, 3) := by decide +kernel
theorem dX3_connect_10 : decode cX3_connect 10 = .ok (.aload_n 0, 1) := by decide +kernel
theorem dX3_connect_11 : decode cX3_connect 11 = .ok (.getfield 21, 3) := by decide +kernel
theorem dX3_connect_14 : decode cX3_connect 14 = .ok (.aload_n 0, 1) := by decide +kernel
theorem dX3_connect_15 : decode cX3_connect 15 = .ok (.getfield 45, 3) := by decide +kernel
theorem dX3_connect_18 : decode cX3_connect 18 = .ok (.invokevirtual 112, 3) := by decide +kernel
theorem dX3_connect_21 : decode cX3_connect 21 = .ok (.aload_n 2, 1) := by decide +kernel
theorem dX3_connect_22 : decode cX3_connect 22 = .ok (.getfield 136, 3) := by decide +kernel
theorem dX3_connect_25 : decode cX3_connect 25 = .ok (.if_icmp .eq 13, 3) := by decide +kernel
theorem dX3_connect_28 : decode cX3_connect 28 = .ok (.new 66, 3) := by decide +kernel
theorem dX3_connect_31 : decode cX3_connect 31 = .ok (.dup, 1) := by decide +kernel
theorem dX3_connect_32 : decode cX3_connect 32 = .ok (.ldc 139, 2) := by decide +kernel
theorem dX3_connect_34 : decode cX3_connect 34 = .ok (.invokespecial 70, 3) := by decide +kernel
theorem dX3_connect_37 : decode cX3_connect 37 = .ok (.athrow, 1) := by decide +kernel
theorem dX3_connect_38 : decode cX3_connect 38 = .ok (.aload_n 2, 1) := by decide +kernel
theorem dX3_connect_39 : decode cX3_connect 39 = .ok (.aload_n 0, 1) := by decide +kernel
theorem dX3_connect_40 : decode cX3_connect 40 = .ok (.getfield 45, 3) := by decide +kernel
theorem dX3_connect_43 : decode cX3_connect 43 = .ok (.invokevirtual 141, 3) := by decide +kernel
theorem dX3_connect_46 : decode cX3_connect 46 = .ok (.ifCond .eq 13, 3) := by decide +kernel
theorem dX3_connect_49 : decode cX3_connect 49 = .ok (.new 66, 3) := by decide +kernel
theorem dX3_connect_52 : decode cX3_connect 52 = .ok (.dup, 1) := by decide +kernel
theorem dX3_connect_53 : decode cX3_connect 53 = .ok (.ldc 144, 2) := by decide +kernel
theorem dX3_connect_55 : decode cX3_connect 55 = .ok (.invokespecial 70, 3) := by decide +kernel
theorem dX3_connect_58 : decode cX3_connect 58 = .ok (.athrow, 1) := by decide +kernel
theorem dX3_connect_59 : decode cX3_connect 59 = .ok (.aload_n 2, 1) := by decide +kernel
theorem dX3_connect_60 : decode cX3_connect 60 = .ok (.invokevirtual 146, 3) := by decide +kernel
theorem dX3_connect_63 : decode cX3_connect 63 = .ok (.istore_n 3, 1) := by decide +kernel
theorem dX3_connect_64 : decode cX3_connect 64 = .ok (.iload_n 3, 1) := by decide +kernel
theorem dX3_connect_65 : decode cX3_connect 65 = .ok (.iconst (-1), 1) := by decide +kernel
theorem dX3_connect_66 : decode cX3_connect 66 = .ok (.if_icmp .ne 13, 3) := by decide +kernel
theorem dX3_connect_69 : decode cX3_connect 69 = .ok (.new 66, 3) := by decide +kernel
theorem dX3_connect_72 : decode cX3_connect 72 = .ok (.dup, 1) := by decide +kernel
theorem dX3_connect_73 : decode cX3_connect 73 = .ok (.ldc 149, 2) := by decide +kernel
theorem dX3_connect_75 : decode cX3_connect 75 = .ok (.invokespecial 70, 3) := by decide +kernel
theorem dX3_connect_78 : decode cX3_connect 78 = .ok (.athrow, 1) := by decide +kernel
theorem dX3_connect_79 : decode cX3_connect 79 = .ok (.aload_n 2, 1) := by decide +kernel
theorem dX3_connect_80 : decode cX3_connect 80 = .ok (.aload_n 0, 1) := by decide +kernel
theorem dX3_connect_81 : decode cX3_connect 81 = .ok (.getfield 45, 3) := by decide +kernel
theorem dX3_connect_84 : decode cX3_connect 84 = .ok (.iload_n 3, 1) := by decide +kernel
theorem dX3_connect_85 : decode cX3_connect 85 = .ok (.aload_n 0, 1) := by decide +kernel
theorem dX3_connect_86 : decode cX3_connect 86 = .ok (.getfield 25, 3) := by decide +kernel
theorem dX3_connect_89 : decode cX3_connect 89 = .ok (.invokevirtual 151, 3) := by decide +kernel
theorem dX3_connect_92 : decode cX3_connect 92 = .ok (.aload_n 2, 1) := by decide +kernel
theorem dX3_connect_93 : decode cX3_connect 93 = .ok (.aload_n 0, 1) := by decide +kernel
theorem dX3_connect_94 : decode cX3_connect 94 = .ok (.getfield 45, 3) := by decide +kernel
theorem dX3_connect_97 : decode cX3_connect 97 = .ok (.putfield 154, 3) := by decide +kernel
theorem dX3_connect_100 : decode cX3_connect 100 = .ok (.aload_n 2, 1) := by decide +kernel
theorem dX3_connect_101 : decode cX3_connect 101 = .ok (.iload_n 3, 1) := by decide +kernel
theorem dX3_connect_102 : decode cX3_connect 102 = .ok (.invokevirtual 157, 3) := by decide +kernel
theorem dX3_connect_105 : decode cX3_connect 105 = .ok (.ireturn, 1) := by decide +kernel
theorem dX3_disconnect_0 : decode cX3_disconnect 0 = .ok (.aload_n 0, 1) := by decide +kernel
theorem dX3_disconnect_1 : decode cX3_disconnect 1 = .ok (.iload_n 1, 1) := by decide +kernel
theorem dX3_disconnect_2 : decode cX3_disconnect 2 = .ok (.invokevirtual 132, 3) := by decide +kernel
theorem dX3_disconnect_5 : decode cX3_disconnect 5 = .ok (.astore_n 2, 1) := by decide +kernel
theorem dX3_disconnect_6 : decode cX3_disconnect 6 = .ok (.aload_n 0, 1) := by decide +kernel
theorem dX3_disconnect_7 : decode cX3_disconnect 7 = .ok (.aload_n 2, 1) := by decide +kernel
theorem dX3_disconnect_8 : decode cX3_disconnect 8 = .ok (.invokevirtual 160, 3) := by decide +kernel
theorem dX3_disconnect_11 : decode cX3_disconnect 11 = .ok (.aload_n 2, 1) := by decide +kernel
theorem dX3_disconnect_12 : decode cX3_disconnect 12 = .ok (.getfield 164, 3) := by decide +kernel
theorem dX3_disconnect_15 : decode cX3_disconnect 15 = .ok (.iconst 2, 1) := by decide +kernel
theorem dX3_disconnect_16 : decode cX3_disconnect 16 = .ok (.if_icmp .eq 13, 3) := by decide +kernel
theorem dX3_disconnect_19 : decode cX3_disconnect 19 = .ok (.new 66, 3) := by decide +kernel
theorem dX3_disconnect_22 : decode cX3_disconnect 22 = .ok (.dup, 1) := by decide +kernel
theorem dX3_disconnect_23 : decode cX3_disconnect 23 = .ok (.ldc 167, 2) := by decide +kernel
theorem dX3_disconnect_25 : decode cX3_disconnect 25 = .ok (.invokespecial 70, 3) := by decide +kernel
theorem dX3_disconnect_28 : decode cX3_disconnect 28 = .ok (.athrow, 1) := by decide +kernel
theorem dX3_disconnect_29 : decode cX3_disconnect 29 = .ok (.aload_n 2, 1) := by decide +kernel
theorem dX3_disconnect_30 : decode cX3_disconnect 30 = .ok (.getfield 169, 3) := by decide +kernel
theorem dX3_disconnect_33 : decode cX3_disconnect 33 = .ok (.aload_n 0, 1) := by decide +kernel
theorem dX3_disconnect_34 : decode cX3_disconnect 34 = .ok (.getfield 45, 3) := by decide +kernel
theorem dX3_disconnect_37 : decode cX3_disconnect 37 = .ok (.invokevirtual 112, 3) := by decide +kernel
theorem dX3_disconnect_40 : decode cX3_disconnect 40 = .ok (.istore_n 3, 1) := by decide +kernel
theorem dX3_disconnect_41 : decode cX3_disconnect 41 = .ok (.aload_n 2, 1) := by decide +kernel
theorem dX3_disconnect_42 : decode cX3_disconnect 42 = .ok (.aload_n 0, 1) := by decide +kernel
theorem dX3_disconnect_43 : decode cX3_disconnect 43 = .ok (.getfield 45, 3) := by decide +kernel
theorem dX3_disconnect_46 : decode cX3_disconnect 46 = .ok (.invokevirtual 172, 3) := by decide +kernel
theorem dX3_disconnect_49 : decode cX3_disconnect 49 = .ok (.aload_n 2, 1) := by decide +kernel
theorem dX3_disconnect_50 : decode cX3_disconnect 50 = .ok (.iload_n 3, 1) := by decide +kernel
theorem dX3_disconnect_51 : decode cX3_disconnect 51 = .ok (.invokevirtual 157, 3) := by decide +kernel
theorem dX3_disconnect_54 : decode cX3_disconnect 54 = .ok (.ireturn, 1) := by decide +kernel
theorem dX3_reconnect_0 : decode cX3_reconnect 0 = .ok (.aload_n 0, 1) := by decide +kernel
theorem dX3_reconnect_1 : decode cX3_reconnect 1 = .ok (.iload_n 1, 1) := by decide +kernel
theorem dX3_reconnect_2 : decode cX3_reconnect 2 = .ok (.invokevirtual 132, 3) := by decide +kernel
theorem dX3_reconnect_5 : decode cX3_reconnect 5 = .ok (.astore_n 3, 1) := by decide +kernel
theorem dX3_reconnect_6 : decode cX3_reconnect 6 = .ok (.aload_n 3, 1) := by decide +kernel
theorem dX3_reconnect_7 : decode cX3_reconnect 7 = .ok (.iload_n 2, 1) := by decide +kernel
theorem dX3_reconnect_8 : decode cX3_reconnect 8 = .ok (.invokevirtual 175, 3) := by decide +kernel
theorem dX3_reconnect_11 : decode cX3_reconnect 11 = .ok (.ifCond .ne 13, 3) := by decide +kernel
theorem dX3_reconnect_14 : decode cX3_reconnect 14 = .ok (.new 178, 3) := by decide +kernel
theorem dX3_reconnect_17 : decode cX3_reconnect 17 = .ok (.dup, 1) := by decide +kernel
theorem dX3_reconnect_18 : decode cX3_reconnect 18 = .ok (.ldc 180, 2) := by decide +kernel
theorem dX3_reconnect_20 : decode cX3_reconnect 20 = .ok (.invokespecial 182, 3) := by decide +kernel
theorem dX3_reconnect_23 : decode cX3_reconnect 23 = .ok (.athrow, 1) := by decide +kernel
theorem dX3_reconnect_24 : decode cX3_reconnect 24 = .ok (.aload_n 0, 1) := by decide +kernel
theorem dX3_reconnect_25 : decode cX3_reconnect 25 = .ok (.aload_n 3, 1) := by decide +kernel
theorem dX3_reconnect_26 : decode cX3_reconnect 26 = .ok (.invokevirtual 160, 3) := by decide +kernel
theorem dX3_reconnect_29 : decode cX3_reconnect 29 = .ok (.aload_n 3, 1) := by decide +kernel
theorem dX3_reconnect_30 : decode cX3_reconnect 30 = .ok (.getfield 164, 3) := by decide +kernel
theorem dX3_reconnect_33 : decode cX3_reconnect 33 = .ok (.ifCond .ne 13, 3) := by decide +kernel
theorem dX3_reconnect_36 : decode cX3_reconnect 36 = .ok (.new 66, 3) := by decide +kernel
theorem dX3_reconnect_39 : decode cX3_reconnect 39 = .ok (.dup, 1) := by decide +kernel
theorem dX3_reconnect_40 : decode cX3_reconnect 40 = .ok (.ldc 183, 2) := by decide +kernel
theorem dX3_reconnect_42 : decode cX3_reconnect 42 = .ok (.invokespecial 70, 3) := by decide +kernel
theorem dX3_reconnect_45 : decode cX3_reconnect 45 = .ok (.athrow, 1) := by decide +kernel
theorem dX3_reconnect_46 : decode cX3_reconnect 46 = .ok (.aload_n 3, 1) := by decide +kernel
theorem dX3_reconnect_47 : decode cX3_reconnect 47 = .ok (.aload_n 0, 1) := by decide +kernel
theorem dX3_reconnect_48 : decode cX3_reconnect 48 = .ok (.getfield 45, 3) := by decide +kernel
theorem dX3_reconnect_51 : decode cX3_reconnect 51 = .ok (.invokevirtual 185, 3) := by decide +kernel
theorem dX3_reconnect_54 : decode cX3_reconnect 54 = .ok (.aload_n 3, 1) := by decide +kernel
theorem dX3_reconnect_55 : decode cX3_reconnect 55 = .ok (.aload_n 0, 1) := by decide +kernel
theorem dX3_reconnect_56 : decode cX3_reconnect 56 = .ok (.getfield 45, 3) := by decide +kernel
theorem dX3_reconnect_59 : decode cX3_reconnect 59 = .ok (.iload_n 2, 1) := by decide +kernel
theorem dX3_reconnect_60 : decode cX3_reconnect 60 = .ok (.aload_n 0, 1) := by decide +kernel
theorem dX3_reconnect_61 : decode cX3_reconnect 61 = .ok (.getfield 25, 3) := by decide +kernel
theorem dX3_reconnect_64 : decode cX3_reconnect 64 = .ok (.invokevirtual 151, 3) := by decide +kernel
theorem dX3_reconnect_67 : decode cX3_reconnect 67 = .ok (.aload_n 3, 1) := by decide +kernel
theorem dX3_reconnect_68 : decode cX3_reconnect 68 = .ok (.aload_n 0, 1) := by decide +kernel
theorem dX3_reconnect_69 : decode cX3_reconnect 69 = .ok (.getfield 45, 3) := by decide +kernel
theorem dX3_reconnect_72 : decode cX3_reconnect 72 = .ok (.putfield 154, 3) := by decide +kernel
theorem dX3_reconnect_75 : decode cX3_reconnect 75 = .ok (.aload_n 3, 1) := by decide +kernel
theorem dX3_reconnect_76 : decode cX3_reconnect 76 = .ok (.iload_n 2, 1) := by decide +kernel
theorem dX3_reconnect_77 : decode cX3_reconnect 77 = .ok (.invokevirtual 157, 3) := by decide +kernel
theorem dX3_reconnect_80 : decode cX3_reconnect 80 = .ok (.ireturn, 1) := by decide +kernel
theorem dX3_find_0 : decode cX3_find 0 = .ok (.aload_n 0, 1) := by decide +kernel
theorem dX3_find_1 : decode cX3_find 1 = .ok (.iload_n 1, 1) := by decide +kernel
theorem dX3_find_2 : decode cX3_find 2 = .ok (.invokevirtual 105, 3) := by decide +kernel
theorem dX3_find_5 : decode cX3_find 5 = .ok (.ireturn, 1) := by decide +kernel
theorem dX3_findOf_0 : decode cX3_findOf 0 = .ok (.aload_n 0, 1) := by decide +kernel
theorem dX3_findOf_1 : decode cX3_findOf 1 = .ok (.iload_n 1, 1) := by decide +kernel
theorem dX3_findOf_2 : decode cX3_findOf 2 = .ok (.invokevirtual 48, 3) := by decide +kernel
theorem dX3_findOf_5 : decode cX3_findOf 5 = .ok (.iload_n 2, 1) := by decide +kernel
theorem dX3_findOf_6 : decode cX3_findOf 6 = .ok (.ifCond .eq 7, 3) := by decide +kernel
theorem dX3_findOf_9 : decode cX3_findOf 9 = .ok (.iconst 0, 1) := by decide +kernel
theorem dX3_findOf_10 : decode cX3_findOf 10 = .ok (.goto 13, 3) := by decide +kernel
theorem dX3_findOf_13 : decode cX3_findOf 13 = .ok (.aload_n 0, 1) := by decide +kernel
theorem dX3_findOf_14 : decode cX3_findOf 14 = .ok (.getfield 28, 3) := by decide +kernel
theorem dX3_findOf_17 : decode cX3_findOf 17 = .ok (.iload_n 1, 1) := by decide +kernel
theorem dX3_findOf_18 : decode cX3_findOf 18 = .ok (.invokevirtual 112, 3) := by decide +kernel
theorem dX3_findOf_21 : decode cX3_findOf 21 = .ok (.iconst 1, 1) := by decide +kernel
theorem dX3_findOf_22 : decode cX3_findOf 22 = .ok (.iadd, 1) := by decide +kernel
theorem dX3_findOf_23 : decode cX3_findOf 23 = .ok (.istore_n 3, 1) := by decide +kernel
theorem dX3_findOf_24 : decode cX3_findOf 24 = .ok (.iload_n 3, 1) := by decide +kernel
theorem dX3_findOf_25 : decode cX3_findOf 25 = .ok (.istore 4, 2) := by decide +kernel
theorem dX3_findOf_27 : decode cX3_findOf 27 = .ok (.iload 4, 2) := by decide +kernel
theorem dX3_findOf_29 : decode cX3_findOf 29 = .ok (.aload_n 0, 1) := by decide +kernel
theorem dX3_findOf_30 : decode cX3_findOf 30 = .ok (.getfield 38, 3) := by decide +kernel
theorem dX3_findOf_33 : decode cX3_findOf 33 = .ok (.if_icmp .ge 29, 3) := by decide +kernel
theorem dX3_findOf_36 : decode cX3_findOf 36 = .ok (.aload_n 0, 1) := by decide +kernel
theorem dX3_findOf_37 : decode cX3_findOf 37 = .ok (.getfield 21, 3) := by decide +kernel
theorem dX3_findOf_40 : decode cX3_findOf 40 = .ok (.iload 4, 2) := by decide +kernel
theorem dX3_findOf_42 : decode cX3_findOf 42 = .ok (.invokevirtual 112, 3) := by decide +kernel
theorem dX3_findOf_45 : decode cX3_findOf 45 = .ok (.iload_n 1, 1) := by decide +kernel
theorem dX3_findOf_46 : decode cX3_findOf 46 = .ok (.if_icmp .ne 10, 3) := by decide +kernel
theorem dX3_findOf_49 : decode cX3_findOf 49 = .ok (.aload_n 0, 1) := by decide +kernel
theorem dX3_findOf_50 : decode cX3_findOf 50 = .ok (.iload 4, 2) := by decide +kernel
theorem dX3_findOf_52 : decode cX3_findOf 52 = .ok (.invokevirtual 105, 3) := by decide +kernel
theorem dX3_findOf_55 : decode cX3_findOf 55 = .ok (.ireturn, 1) := by decide +kernel
theorem dX3_findOf_56 : decode cX3_findOf 56 = .ok (.iinc 4 1, 3) := by decide +kernel
theorem dX3_findOf_59 : decode cX3_findOf 59 = .ok (.goto (-32), 3) := by decide +kernel
theorem dX3_findOf_62 : decode cX3_findOf 62 = .ok (.iconst (-1), 1) := by decide +kernel
theorem dX3_findOf_63 : decode cX3_findOf 63 = .ok (.ireturn, 1) := by decide +kernel
theorem dX3_findEnd_0 : decode cX3_findEnd 0 = .ok (.aload_n 0, 1) := by decide +kernel
theorem dX3_findEnd_1 : decode cX3_findEnd 1 = .ok (.iload_n 1, 1) := by decide +kernel
theorem dX3_findEnd_2 : decode cX3_findEnd 2 = .ok (.invokevirtual 132, 3) := by decide +kernel
theorem dX3_findEnd_5 : decode cX3_findEnd 5 = .ok (.astore_n 3, 1) := by decide +kernel
theorem dX3_findEnd_6 : decode cX3_findEnd 6 = .ok (.aload_n 0, 1) := by decide +kernel
theorem dX3_findEnd_7 : decode cX3_findEnd 7 = .ok (.aload_n 3, 1) := by decide +kernel
theorem dX3_findEnd_8 : decode cX3_findEnd 8 = .ok (.aload_n 3, 1) := by decide +kernel
theorem dX3_findEnd_9 : decode cX3_findEnd 9 = .ok (.invokevirtual 146, 3) := by decide +kernel
theorem dX3_findEnd_12 : decode cX3_findEnd 12 = .ok (.iload_n 2, 1) := by decide +kernel
theorem dX3_findEnd_13 : decode cX3_findEnd 13 = .ok (.invokevirtual 188, 3) := by decide +kernel
theorem dX3_findEnd_16 : decode cX3_findEnd 16 = .ok (.invokevirtual 105, 3) := by decide +kernel
theorem dX3_findEnd_19 : decode cX3_findEnd 19 = .ok (.ireturn, 1) := by decide +kernel
theorem dX3_findNext_0 : decode cX3_findNext 0 = .ok (.aload_n 0, 1) := by decide +kernel
theorem dX3_findNext_1 : decode cX3_findNext 1 = .ok (.iload_n 1, 1) := by decide +kernel
theorem dX3_findNext_2 : decode cX3_findNext 2 = .ok (.invokevirtual 132, 3) := by decide +kernel
theorem dX3_findNext_5 : decode cX3_findNext 5 = .ok (.astore_n 3, 1) := by decide +kernel
theorem dX3_findNext_6 : decode cX3_findNext 6 = .ok (.aload_n 0, 1) := by decide +kernel
theorem dX3_findNext_7 : decode cX3_findNext 7 = .ok (.aload_n 3, 1) := by decide +kernel
theorem dX3_findNext_8 : decode cX3_findNext 8 = .ok (.aload_n 3, 1) := by decide +kernel
theorem dX3_findNext_9 : decode cX3_findNext 9 = .ok (.getfield 154, 3) := by decide +kernel
theorem dX3_findNext_12 : decode cX3_findNext 12 = .ok (.iload_n 2, 1) := by decide +kernel
theorem dX3_findNext_13 : decode cX3_findNext 13 = .ok (.invokevirtual 188, 3) := by decide +kernel
theorem dX3_findNext_16 : decode cX3_findNext 16 = .ok (.invokevirtual 105, 3) := by decide +kernel
theorem dX3_findNext_19 : decode cX3_findNext 19 = .ok (.ireturn, 1) := by decide +kernel
theorem dX3_findOwner_0 : decode cX3_findOwner 0 = .ok (.aload_n 0, 1) := by decide +kernel
theorem dX3_findOwner_1 : decode cX3_findOwner 1 = .ok (.aload_n 0, 1) := by decide +kernel
theorem dX3_findOwner_2 : decode cX3_findOwner 2 = .ok (.iload_n 1, 1) := by decide +kernel
theorem dX3_findOwner_3 : decode cX3_findOwner 3 = .ok (.invokevirtual 132, 3) := by decide +kernel
theorem dX3_findOwner_6 : decode cX3_findOwner 6 = .ok (.invokevirtual 146, 3) := by decide +kernel
theorem dX3_findOwner_9 : decode cX3_findOwner 9 = .ok (.invokevirtual 105, 3) := by decide +kernel
theorem dX3_findOwner_12 : decode cX3_findOwner 12 = .ok (.ireturn, 1) := by decide +kernel
theorem dX3_findValue_0 : decode cX3_findValue 0 = .ok (.aload_n 0, 1) := by decide +kernel
theorem dX3_findValue_1 : decode cX3_findValue 1 = .ok (.iload_n 1, 1) := by decide +kernel
theorem dX3_findValue_2 : decode cX3_findValue 2 = .ok (.invokevirtual 132, 3) := by decide +kernel
theorem dX3_findValue_5 : decode cX3_findValue 5 = .ok (.astore_n 3, 1) := by decide +kernel
theorem dX3_findValue_6 : decode cX3_findValue 6 = .ok (.aload_n 0, 1) := by decide +kernel
theorem dX3_findValue_7 : decode cX3_findValue 7 = .ok (.aload_n 3, 1) := by decide +kernel
theorem dX3_findValue_8 : decode cX3_findValue 8 = .ok (.aload_n 3, 1) := by decide +kernel
theorem dX3_findValue_9 : decode cX3_findValue 9 = .ok (.invokevirtual 146, 3) := by decide +kernel
theorem dX3_findValue_12 : decode cX3_findValue 12 = .ok (.iload_n 2, 1) := by decide +kernel
theorem dX3_findValue_13 : decode cX3_findValue 13 = .ok (.aload_n 0, 1) := by decide +kernel
theorem dX3_findValue_14 : decode cX3_findValue 14 = .ok (.getfield 25, 3) := by decide +kernel
theorem dX3_findValue_17 : decode cX3_findValue 17 = .ok (.invokevirtual 192, 3) := by decide +kernel
theorem dX3_findValue_20 : decode cX3_findValue 20 = .ok (.invokevirtual 105, 3) := by decide +kernel
theorem dX3_findValue_23 : decode cX3_findValue 23 = .ok (.ireturn, 1) := by decide +kernel
theorem dX3_setTypes_0 : decode cX3_setTypes 0 = .ok (.aload_n 0, 1) := by decide +kernel
theorem dX3_setTypes_1 : decode cX3_setTypes 1 = .ok (.getfield 10, 3) := by decide +kernel
theorem dX3_setTypes_4 : decode cX3_setTypes 4 = .ok (.invokevirtual 62, 3) := by decide +kernel
theorem dX3_setTypes_7 : decode cX3_setTypes 7 = .ok (.ireturn, 1) := by decide +kernel
theorem dX3_records_0 : decode cX3_records 0 = .ok (.aload_n 0, 1) := by decide +kernel
theorem dX3_records_1 : decode cX3_records 1 = .ok (.getfield 42, 3) := by decide +kernel
theorem dX3_records_4 : decode cX3_records 4 = .ok (.ireturn, 1) := by decide +kernel
theorem dX3_current_0 : decode cX3_current 0 = .ok (.aload_n 0, 1) := by decide +kernel
theorem dX3_current_1 : decode cX3_current 1 = .ok (.getfield 45, 3) := by decide +kernel
theorem dX3_current_4 : decode cX3_current 4 = .ok (.ireturn, 1) := by decide +kernel
theorem dX3_currentOf_0 : decode cX3_currentOf 0 = .ok (.aload_n 0, 1) := by decide +kernel
theorem dX3_currentOf_1 : decode cX3_currentOf 1 = .ok (.iload_n 1, 1) := by decide +kernel
theorem dX3_currentOf_2 : decode cX3_currentOf 2 = .ok (.invokevirtual 48, 3) := by decide +kernel
theorem dX3_currentOf_5 : decode cX3_currentOf 5 = .ok (.aload_n 0, 1) := by decide +kernel
theorem dX3_currentOf_6 : decode cX3_currentOf 6 = .ok (.getfield 28, 3) := by decide +kernel
theorem dX3_currentOf_9 : decode cX3_currentOf 9 = .ok (.iload_n 1, 1) := by decide +kernel
theorem dX3_currentOf_10 : decode cX3_currentOf 10 = .ok (.invokevirtual 112, 3) := by decide +kernel
theorem dX3_currentOf_13 : decode cX3_currentOf 13 = .ok (.ireturn, 1) := by decide +kernel
theorem dX3_currentIn_0 : decode cX3_currentIn 0 = .ok (.aload_n 0, 1) := by decide +kernel
theorem dX3_currentIn_1 : decode cX3_currentIn 1 = .ok (.iload_n 1, 1) := by decide +kernel
theorem dX3_currentIn_2 : decode cX3_currentIn 2 = .ok (.invokevirtual 132, 3) := by decide +kernel
theorem dX3_currentIn_5 : decode cX3_currentIn 5 = .ok (.getfield 154, 3) := by decide +kernel
theorem dX3_currentIn_8 : decode cX3_currentIn 8 = .ok (.ireturn, 1) := by decide +kernel
theorem dX3_typeOf_0 : decode cX3_typeOf 0 = .ok (.aload_n 0, 1) := by decide +kernel
theorem dX3_typeOf_1 : decode cX3_typeOf 1 = .ok (.iload_n 1, 1) := by decide +kernel
theorem dX3_typeOf_2 : decode cX3_typeOf 2 = .ok (.invokevirtual 196, 3) := by decide +kernel
theorem dX3_typeOf_5 : decode cX3_typeOf 5 = .ok (.aload_n 0, 1) := by decide +kernel
theorem dX3_typeOf_6 : decode cX3_typeOf 6 = .ok (.getfield 21, 3) := by decide +kernel
theorem dX3_typeOf_9 : decode cX3_typeOf 9 = .ok (.iload_n 1, 1) := by decide +kernel
theorem dX3_typeOf_10 : decode cX3_typeOf 10 = .ok (.invokevirtual 112, 3) := by decide +kernel
theorem dX3_typeOf_13 : decode cX3_typeOf 13 = .ok (.ireturn, 1) := by decide +kernel
theorem dX3_valueOf_0 : decode cX3_valueOf 0 = .ok (.aload_n 0, 1) := by decide +kernel
theorem dX3_valueOf_1 : decode cX3_valueOf 1 = .ok (.iload_n 1, 1) := by decide +kernel
theorem dX3_valueOf_2 : decode cX3_valueOf 2 = .ok (.invokevirtual 196, 3) := by decide +kernel
theorem dX3_valueOf_5 : decode cX3_valueOf 5 = .ok (.aload_n 0, 1) := by decide +kernel
theorem dX3_valueOf_6 : decode cX3_valueOf 6 = .ok (.getfield 25, 3) := by decide +kernel
theorem dX3_valueOf_9 : decode cX3_valueOf 9 = .ok (.iload_n 1, 1) := by decide +kernel
theorem dX3_valueOf_10 : decode cX3_valueOf 10 = .ok (.invokevirtual 112, 3) := by decide +kernel
theorem dX3_valueOf_13 : decode cX3_valueOf 13 = .ok (.ireturn, 1) := by decide +kernel
theorem dX3_ownerOf_0 : decode cX3_ownerOf 0 = .ok (.aload_n 0, 1) := by decide +kernel
theorem dX3_ownerOf_1 : decode cX3_ownerOf 1 = .ok (.iload_n 1, 1) := by decide +kernel
theorem dX3_ownerOf_2 : decode cX3_ownerOf 2 = .ok (.invokevirtual 196, 3) := by decide +kernel
theorem dX3_ownerOf_5 : decode cX3_ownerOf 5 = .ok (.aload_n 0, 1) := by decide +kernel
theorem dX3_ownerOf_6 : decode cX3_ownerOf 6 = .ok (.iload_n 2, 1) := by decide +kernel
theorem dX3_ownerOf_7 : decode cX3_ownerOf 7 = .ok (.invokevirtual 132, 3) := by decide +kernel
theorem dX3_ownerOf_10 : decode cX3_ownerOf 10 = .ok (.astore_n 3, 1) := by decide +kernel
theorem dX3_ownerOf_11 : decode cX3_ownerOf 11 = .ok (.aload_n 3, 1) := by decide +kernel
theorem dX3_ownerOf_12 : decode cX3_ownerOf 12 = .ok (.iload_n 1, 1) := by decide +kernel
theorem dX3_ownerOf_13 : decode cX3_ownerOf 13 = .ok (.invokevirtual 141, 3) := by decide +kernel
theorem dX3_ownerOf_16 : decode cX3_ownerOf 16 = .ok (.ifCond .eq 14, 3) := by decide +kernel
theorem dX3_ownerOf_19 : decode cX3_ownerOf 19 = .ok (.aload_n 3, 1) := by decide +kernel
theorem dX3_ownerOf_20 : decode cX3_ownerOf 20 = .ok (.getfield 169, 3) := by decide +kernel
theorem dX3_ownerOf_23 : decode cX3_ownerOf 23 = .ok (.iload_n 1, 1) := by decide +kernel
theorem dX3_ownerOf_24 : decode cX3_ownerOf 24 = .ok (.invokevirtual 112, 3) := by decide +kernel
theorem dX3_ownerOf_27 : decode cX3_ownerOf 27 = .ok (.goto 4, 3) := by decide +kernel
theorem dX3_ownerOf_30 : decode cX3_ownerOf 30 = .ok (.iconst (-1), 1) := by decide +kernel
theorem dX3_ownerOf_31 : decode cX3_ownerOf 31 = .ok (.ireturn, 1) := by decide +kernel
theorem dX3_members_0 : decode cX3_members 0 = .ok (.aload_n 0, 1) := by decide +kernel
theorem dX3_members_1 : decode cX3_members 1 = .ok (.iload_n 1, 1) := by decide +kernel
theorem dX3_members_2 : decode cX3_members 2 = .ok (.invokevirtual 196, 3) := by decide +kernel
theorem dX3_members_5 : decode cX3_members 5 = .ok (.aload_n 0, 1) := by decide +kernel
theorem dX3_members_6 : decode cX3_members 6 = .ok (.iload_n 2, 1) := by decide +kernel
theorem dX3_members_7 : decode cX3_members 7 = .ok (.invokevirtual 132, 3) := by decide +kernel
theorem dX3_members_10 : decode cX3_members 10 = .ok (.astore_n 3, 1) := by decide +kernel
theorem dX3_members_11 : decode cX3_members 11 = .ok (.aload_n 3, 1) := by decide +kernel
theorem dX3_members_12 : decode cX3_members 12 = .ok (.iload_n 1, 1) := by decide +kernel
theorem dX3_members_13 : decode cX3_members 13 = .ok (.invokevirtual 175, 3) := by decide +kernel
theorem dX3_members_16 : decode cX3_members 16 = .ok (.ifCond .eq 11, 3) := by decide +kernel
theorem dX3_members_19 : decode cX3_members 19 = .ok (.aload_n 3, 1) := by decide +kernel
theorem dX3_members_20 : decode cX3_members 20 = .ok (.iload_n 1, 1) := by decide +kernel
theorem dX3_members_21 : decode cX3_members 21 = .ok (.invokevirtual 157, 3) := by decide +kernel
theorem dX3_members_24 : decode cX3_members 24 = .ok (.goto 4, 3) := by decide +kernel
theorem dX3_members_27 : decode cX3_members 27 = .ok (.iconst (-1), 1) := by decide +kernel
theorem dX3_members_28 : decode cX3_members 28 = .ok (.ireturn, 1) := by decide +kernel
theorem dX3_membersByTable_0 : decode cX3_membersByTable 0 = .ok (.aload_n 0, 1) := by decide +kernel
theorem dX3_membersByTable_1 : decode cX3_membersByTable 1 = .ok (.iload_n 1, 1) := by decide +kernel
theorem dX3_membersByTable_2 : decode cX3_membersByTable 2 = .ok (.invokevirtual 196, 3) := by decide +kernel
theorem dX3_membersByTable_5 : decode cX3_membersByTable 5 = .ok (.aload_n 0, 1) := by decide +kernel
theorem dX3_membersByTable_6 : decode cX3_membersByTable 6 = .ok (.iload_n 2, 1) := by decide +kernel
theorem dX3_membersByTable_7 : decode cX3_membersByTable 7 = .ok (.invokevirtual 132, 3) := by decide +kernel
theorem dX3_membersByTable_10 : decode cX3_membersByTable 10 = .ok (.astore_n 3, 1) := by decide +kernel
theorem dX3_membersByTable_11 : decode cX3_membersByTable 11 = .ok (.aload_n 3, 1) := by decide +kernel
theorem dX3_membersByTable_12 : decode cX3_membersByTable 12 = .ok (.iload_n 1, 1) := by decide +kernel
theorem dX3_membersByTable_13 : decode cX3_membersByTable 13 = .ok (.invokevirtual 175, 3) := by decide +kernel
theorem dX3_membersByTable_16 : decode cX3_membersByTable 16 = .ok (.ifCond .eq 11, 3) := by decide +kernel
theorem dX3_membersByTable_19 : decode cX3_membersByTable 19 = .ok (.aload_n 3, 1) := by decide +kernel
theorem dX3_membersByTable_20 : decode cX3_membersByTable 20 = .ok (.iload_n 1, 1) := by decide +kernel
theorem dX3_membersByTable_21 : decode cX3_membersByTable 21 = .ok (.invokevirtual 199, 3) := by decide +kernel
theorem dX3_membersByTable_24 : decode cX3_membersByTable 24 = .ok (.goto 4, 3) := by decide +kernel
theorem dX3_membersByTable_27 : decode cX3_membersByTable 27 = .ok (.iconst (-1), 1) := by decide +kernel
theorem dX3_membersByTable_28 : decode cX3_membersByTable 28 = .ok (.ireturn, 1) := by decide +kernel
theorem dX3_memberAt_0 : decode cX3_memberAt 0 = .ok (.aload_n 0, 1) := by decide +kernel
theorem dX3_memberAt_1 : decode cX3_memberAt 1 = .ok (.iload_n 1, 1) := by decide +kernel
theorem dX3_memberAt_2 : decode cX3_memberAt 2 = .ok (.invokevirtual 196, 3) := by decide +kernel
theorem dX3_memberAt_5 : decode cX3_memberAt 5 = .ok (.aload_n 0, 1) := by decide +kernel
theorem dX3_memberAt_6 : decode cX3_memberAt 6 = .ok (.iload_n 2, 1) := by decide +kernel
theorem dX3_memberAt_7 : decode cX3_memberAt 7 = .ok (.invokevirtual 132, 3) := by decide +kernel
theorem dX3_memberAt_10 : decode cX3_memberAt 10 = .ok (.astore 4, 2) := by decide +kernel
theorem dX3_memberAt_12 : decode cX3_memberAt 12 = .ok (.aload 4, 2) := by decide +kernel
theorem dX3_memberAt_14 : decode cX3_memberAt 14 = .ok (.iload_n 1, 1) := by decide +kernel
theorem dX3_memberAt_15 : decode cX3_memberAt 15 = .ok (.invokevirtual 175, 3) := by decide +kernel
theorem dX3_memberAt_18 : decode cX3_memberAt 18 = .ok (.ifCond .ne 13, 3) := by decide +kernel
theorem dX3_memberAt_21 : decode cX3_memberAt 21 = .ok (.new 178, 3) := by decide +kernel
theorem dX3_memberAt_24 : decode cX3_memberAt 24 = .ok (.dup, 1) := by decide +kernel
theorem dX3_memberAt_25 : decode cX3_memberAt 25 = .ok (.ldc 202, 2) := by decide +kernel
theorem dX3_memberAt_27 : decode cX3_memberAt 27 = .ok (.invokespecial 182, 3) := by decide +kernel
theorem dX3_memberAt_30 : decode cX3_memberAt 30 = .ok (.athrow, 1) := by decide +kernel
theorem dX3_memberAt_31 : decode cX3_memberAt 31 = .ok (.iload_n 3, 1) := by decide +kernel
theorem dX3_memberAt_32 : decode cX3_memberAt 32 = .ok (.ifCond .lt 13, 3) := by decide +kernel
theorem dX3_memberAt_35 : decode cX3_memberAt 35 = .ok (.iload_n 3, 1) := by decide +kernel
theorem dX3_memberAt_36 : decode cX3_memberAt 36 = .ok (.aload 4, 2) := by decide +kernel
theorem dX3_memberAt_38 : decode cX3_memberAt 38 = .ok (.iload_n 1, 1) := by decide +kernel
theorem dX3_memberAt_39 : decode cX3_memberAt 39 = .ok (.invokevirtual 157, 3) := by decide +kernel
theorem dX3_memberAt_42 : decode cX3_memberAt 42 = .ok (.if_icmp .lt 13, 3) := by decide +kernel
theorem dX3_memberAt_45 : decode cX3_memberAt 45 = .ok (.new 178, 3) := by decide +kernel
theorem dX3_memberAt_48 : decode cX3_memberAt 48 = .ok (.dup, 1) := by decide +kernel
theorem dX3_memberAt_49 : decode cX3_memberAt 49 = .ok (.ldc 204, 2) := by decide +kernel
theorem dX3_memberAt_51 : decode cX3_memberAt 51 = .ok (.invokespecial 182, 3) := by decide +kernel
theorem dX3_memberAt_54 : decode cX3_memberAt 54 = .ok (.athrow, 1) := by decide +kernel
theorem dX3_memberAt_55 : decode cX3_memberAt 55 = .ok (.aload 4, 2) := by decide +kernel
theorem dX3_memberAt_57 : decode cX3_memberAt 57 = .ok (.iload_n 1, 1) := by decide +kernel
theorem dX3_memberAt_58 : decode cX3_memberAt 58 = .ok (.iload_n 3, 1) := by decide +kernel
theorem dX3_memberAt_59 : decode cX3_memberAt 59 = .ok (.invokevirtual 206, 3) := by decide +kernel
theorem dX3_memberAt_62 : decode cX3_memberAt 62 = .ok (.ireturn, 1) := by decide +kernel
theorem dX3_wouldErase_0 : decode cX3_wouldErase 0 = .ok (.aload_n 0, 1) := by decide +kernel
theorem dX3_wouldErase_1 : decode cX3_wouldErase 1 = .ok (.iload_n 1, 1) := by decide +kernel
theorem dX3_wouldErase_2 : decode cX3_wouldErase 2 = .ok (.invokevirtual 196, 3) := by decide +kernel
theorem dX3_wouldErase_5 : decode cX3_wouldErase 5 = .ok (.aload_n 0, 1) := by decide +kernel
theorem dX3_wouldErase_6 : decode cX3_wouldErase 6 = .ok (.iload_n 2, 1) := by decide +kernel
theorem dX3_wouldErase_7 : decode cX3_wouldErase 7 = .ok (.invokevirtual 119, 3) := by decide +kernel
theorem dX3_wouldErase_10 : decode cX3_wouldErase 10 = .ok (.aload_n 0, 1) := by decide +kernel
theorem dX3_wouldErase_11 : decode cX3_wouldErase 11 = .ok (.iload_n 1, 1) := by decide +kernel
theorem dX3_wouldErase_12 : decode cX3_wouldErase 12 = .ok (.iload_n 2, 1) := by decide +kernel
theorem dX3_wouldErase_13 : decode cX3_wouldErase 13 = .ok (.invokevirtual 122, 3) := by decide +kernel
theorem dX3_wouldErase_16 : decode cX3_wouldErase 16 = .ok (.ireturn, 1) := by decide +kernel
theorem dX3_requireType_0 : decode cX3_requireType 0 = .ok (.iload_n 1, 1) := by decide +kernel
theorem dX3_requireType_1 : decode cX3_requireType 1 = .ok (.ifCond .lt 8, 3) := by decide +kernel
theorem dX3_requireType_4 : decode cX3_requireType 4 = .ok (.iload_n 1, 1) := by decide +kernel
theorem dX3_requireType_5 : decode cX3_requireType 5 = .ok (.iconst 4, 1) := by decide +kernel
theorem dX3_requireType_6 : decode cX3_requireType 6 = .ok (.if_icmp .lt 13, 3) := by decide +kernel
theorem dX3_requireType_9 : decode cX3_requireType 9 = .ok (.new 51, 3) := by decide +kernel
theorem dX3_requireType_12 : decode cX3_requireType 12 = .ok (.dup, 1) := by decide +kernel
theorem dX3_requireType_13 : decode cX3_requireType 13 = .ok (.ldc 209, 2) := by decide +kernel
theorem dX3_requireType_15 : decode cX3_requireType 15 = .ok (.invokespecial 55, 3) := by decide +kernel
theorem dX3_requireType_18 : decode cX3_requireType 18 = .ok (.athrow, 1) := by decide +kernel
theorem dX3_requireType_19 : decode cX3_requireType 19 = .ok (.return_, 1) := by decide +kernel
theorem dX3_requireValue_0 : decode cX3_requireValue 0 = .ok (.iload_n 1, 1) := by decide +kernel
theorem dX3_requireValue_1 : decode cX3_requireValue 1 = .ok (.sipush (-1000), 3) := by decide +kernel
theorem dX3_requireValue_4 : decode cX3_requireValue 4 = .ok (.if_icmp .lt 10, 3) := by decide +kernel
theorem dX3_requireValue_7 : decode cX3_requireValue 7 = .ok (.iload_n 1, 1) := by decide +kernel
theorem dX3_requireValue_8 : decode cX3_requireValue 8 = .ok (.sipush 1000, 3) := by decide +kernel
theorem dX3_requireValue_11 : decode cX3_requireValue 11 = .ok (.if_icmp .le 13, 3) := by decide +kernel
theorem dX3_requireValue_14 : decode cX3_requireValue 14 = .ok (.new 51, 3) := by decide +kernel
theorem dX3_requireValue_17 : decode cX3_requireValue 17 = .ok (.dup, 1) := by decide +kernel
theorem dX3_requireValue_18 : decode cX3_requireValue 18 = .ok (.ldc 211, 2) := by decide +kernel
theorem dX3_requireValue_20 : decode cX3_requireValue 20 = .ok (.invokespecial 55, 3) := by decide +kernel
theorem dX3_requireValue_23 : decode cX3_requireValue 23 = .ok (.athrow, 1) := by decide +kernel
theorem dX3_requireValue_24 : decode cX3_requireValue 24 = .ok (.return_, 1) := by decide +kernel
theorem dX3_requireWay_0 : decode cX3_requireWay 0 = .ok (.iload_n 1, 1) := by decide +kernel
theorem dX3_requireWay_1 : decode cX3_requireWay 1 = .ok (.ifCond .lt 8, 3) := by decide +kernel
theorem dX3_requireWay_4 : decode cX3_requireWay 4 = .ok (.iload_n 1, 1) := by decide +kernel
theorem dX3_requireWay_5 : decode cX3_requireWay 5 = .ok (.iconst 2, 1) := by decide +kernel
theorem dX3_requireWay_6 : decode cX3_requireWay 6 = .ok (.if_icmp .le 13, 3) := by decide +kernel
theorem dX3_requireWay_9 : decode cX3_requireWay 9 = .ok (.new 51, 3) := by decide +kernel
theorem dX3_requireWay_12 : decode cX3_requireWay 12 = .ok (.dup, 1) := by decide +kernel
theorem dX3_requireWay_13 : decode cX3_requireWay 13 = .ok (.ldc 213, 2) := by decide +kernel
theorem dX3_requireWay_15 : decode cX3_requireWay 15 = .ok (.invokespecial 55, 3) := by decide +kernel
theorem dX3_requireWay_18 : decode cX3_requireWay 18 = .ok (.athrow, 1) := by decide +kernel
theorem dX3_requireWay_19 : decode cX3_requireWay 19 = .ok (.return_, 1) := by decide +kernel
theorem dX3_requireSet_0 : decode cX3_requireSet 0 = .ok (.iload_n 1, 1) := by decide +kernel
theorem dX3_requireSet_1 : decode cX3_requireSet 1 = .ok (.ifCond .lt 14, 3) := by decide +kernel
theorem dX3_requireSet_4 : decode cX3_requireSet 4 = .ok (.iload_n 1, 1) := by decide +kernel
theorem dX3_requireSet_5 : decode cX3_requireSet 5 = .ok (.aload_n 0, 1) := by decide +kernel
theorem dX3_requireSet_6 : decode cX3_requireSet 6 = .ok (.getfield 10, 3) := by decide +kernel
theorem dX3_requireSet_9 : decode cX3_requireSet 9 = .ok (.invokevirtual 62, 3) := by decide +kernel
theorem dX3_requireSet_12 : decode cX3_requireSet 12 = .ok (.if_icmp .lt 13, 3) := by decide +kernel
theorem dX3_requireSet_15 : decode cX3_requireSet 15 = .ok (.new 178, 3) := by decide +kernel
theorem dX3_requireSet_18 : decode cX3_requireSet 18 = .ok (.dup, 1) := by decide +kernel
theorem dX3_requireSet_19 : decode cX3_requireSet 19 = .ok (.ldc 215, 2) := by decide +kernel
theorem dX3_requireSet_21 : decode cX3_requireSet 21 = .ok (.invokespecial 182, 3) := by decide +kernel
theorem dX3_requireSet_24 : decode cX3_requireSet 24 = .ok (.athrow, 1) := by decide +kernel
theorem dX3_requireSet_25 : decode cX3_requireSet 25 = .ok (.aload_n 0, 1) := by decide +kernel
theorem dX3_requireSet_26 : decode cX3_requireSet 26 = .ok (.getfield 10, 3) := by decide +kernel
theorem dX3_requireSet_29 : decode cX3_requireSet 29 = .ok (.iload_n 1, 1) := by decide +kernel
theorem dX3_requireSet_30 : decode cX3_requireSet 30 = .ok (.invokevirtual 97, 3) := by decide +kernel
theorem dX3_requireSet_33 : decode cX3_requireSet 33 = .ok (.checkcast 73, 3) := by decide +kernel
theorem dX3_requireSet_36 : decode cX3_requireSet 36 = .ok (.areturn, 1) := by decide +kernel
theorem dX3_requireRecord_0 : decode cX3_requireRecord 0 = .ok (.aload_n 0, 1) := by decide +kernel
theorem dX3_requireRecord_1 : decode cX3_requireRecord 1 = .ok (.getfield 21, 3) := by decide +kernel
theorem dX3_requireRecord_4 : decode cX3_requireRecord 4 = .ok (.iload_n 1, 1) := by decide +kernel
theorem dX3_requireRecord_5 : decode cX3_requireRecord 5 = .ok (.invokevirtual 112, 3) := by decide +kernel
theorem dX3_requireRecord_8 : decode cX3_requireRecord 8 = .ok (.iconst (-1), 1) := by decide +kernel
theorem dX3_requireRecord_9 : decode cX3_requireRecord 9 = .ok (.if_icmp .ne 13, 3) := by decide +kernel
theorem dX3_requireRecord_12 : decode cX3_requireRecord 12 = .ok (.new 178, 3) := by decide +kernel
theorem dX3_requireRecord_15 : decode cX3_requireRecord 15 = .ok (.dup, 1) := by decide +kernel
theorem dX3_requireRecord_16 : decode cX3_requireRecord 16 = .ok (.ldc 217, 2) := by decide +kernel
theorem dX3_requireRecord_18 : decode cX3_requireRecord 18 = .ok (.invokespecial 182, 3) := by decide +kernel
theorem dX3_requireRecord_21 : decode cX3_requireRecord 21 = .ok (.athrow, 1) := by decide +kernel
theorem dX3_requireRecord_22 : decode cX3_requireRecord 22 = .ok (.return_, 1) := by decide +kernel
theorem dX3_requireRunUnit_0 : decode cX3_requireRunUnit 0 = .ok (.aload_n 0, 1) := by decide +kernel
theorem dX3_requireRunUnit_1 : decode cX3_requireRunUnit 1 = .ok (.getfield 45, 3) := by decide +kernel
theorem dX3_requireRunUnit_4 : decode cX3_requireRunUnit 4 = .ok (.iconst (-1), 1) := by decide +kernel
theorem dX3_requireRunUnit_5 : decode cX3_requireRunUnit 5 = .ok (.if_icmp .ne 13, 3) := by decide +kernel
theorem dX3_requireRunUnit_8 : decode cX3_requireRunUnit 8 = .ok (.new 66, 3) := by decide +kernel
theorem dX3_requireRunUnit_11 : decode cX3_requireRunUnit 11 = .ok (.dup, 1) := by decide +kernel
theorem dX3_requireRunUnit_12 : decode cX3_requireRunUnit 12 = .ok (.ldc 219, 2) := by decide +kernel
theorem dX3_requireRunUnit_14 : decode cX3_requireRunUnit 14 = .ok (.invokespecial 70, 3) := by decide +kernel
theorem dX3_requireRunUnit_17 : decode cX3_requireRunUnit 17 = .ok (.athrow, 1) := by decide +kernel
theorem dX3_requireRunUnit_18 : decode cX3_requireRunUnit 18 = .ok (.return_, 1) := by decide +kernel
theorem dX3_requireMembership_0 : decode cX3_requireMembership 0 = .ok (.aload_n 0, 1) := by decide +kernel
theorem dX3_requireMembership_1 : decode cX3_requireMembership 1 = .ok (.invokevirtual 109, 3) := by decide +kernel
theorem dX3_requireMembership_4 : decode cX3_requireMembership 4 = .ok (.aload_n 1, 1) := by decide +kernel
theorem dX3_requireMembership_5 : decode cX3_requireMembership 5 = .ok (.aload_n 0, 1) := by decide +kernel
theorem dX3_requireMembership_6 : decode cX3_requireMembership 6 = .ok (.getfield 45, 3) := by decide +kernel
theorem dX3_requireMembership_9 : decode cX3_requireMembership 9 = .ok (.invokevirtual 141, 3) := by decide +kernel
theorem dX3_requireMembership_12 : decode cX3_requireMembership 12 = .ok (.ifCond .ne 13, 3) := by decide +kernel
theorem dX3_requireMembership_15 : decode cX3_requireMembership 15 = .ok (.new 66, 3) := by decide +kernel
theorem dX3_requireMembership_18 : decode cX3_requireMembership 18 = .ok (.dup, 1) := by decide +kernel
theorem dX3_requireMembership_19 : decode cX3_requireMembership 19 = .ok (.ldc 221, 2) := by decide +kernel
theorem dX3_requireMembership_21 : decode cX3_requireMembership 21 = .ok (.invokespecial 70, 3) := by decide +kernel
theorem dX3_requireMembership_24 : decode cX3_requireMembership 24 = .ok (.athrow, 1) := by decide +kernel
theorem dX3_requireMembership_25 : decode cX3_requireMembership 25 = .ok (.return_, 1) := by decide +kernel
theorem dX3_lacksSetFor_0 : decode cX3_lacksSetFor 0 = .ok (.iconst 0, 1) := by decide +kernel
theorem dX3_lacksSetFor_1 : decode cX3_lacksSetFor 1 = .ok (.istore_n 2, 1) := by decide +kernel
theorem dX3_lacksSetFor_2 : decode cX3_lacksSetFor 2 = .ok (.iload_n 2, 1) := by decide +kernel
theorem dX3_lacksSetFor_3 : decode cX3_lacksSetFor 3 = .ok (.aload_n 0, 1) := by decide +kernel
theorem dX3_lacksSetFor_4 : decode cX3_lacksSetFor 4 = .ok (.getfield 10, 3) := by decide +kernel
theorem dX3_lacksSetFor_7 : decode cX3_lacksSetFor 7 = .ok (.invokevirtual 62, 3) := by decide +kernel
theorem dX3_lacksSetFor_10 : decode cX3_lacksSetFor 10 = .ok (.if_icmp .ge 39, 3) := by decide +kernel
theorem dX3_lacksSetFor_13 : decode cX3_lacksSetFor 13 = .ok (.aload_n 0, 1) := by decide +kernel
theorem dX3_lacksSetFor_14 : decode cX3_lacksSetFor 14 = .ok (.getfield 10, 3) := by decide +kernel
theorem dX3_lacksSetFor_17 : decode cX3_lacksSetFor 17 = .ok (.iload_n 2, 1) := by decide +kernel
theorem dX3_lacksSetFor_18 : decode cX3_lacksSetFor 18 = .ok (.invokevirtual 97, 3) := by decide +kernel
theorem dX3_lacksSetFor_21 : decode cX3_lacksSetFor 21 = .ok (.checkcast 73, 3) := by decide +kernel
theorem dX3_lacksSetFor_24 : decode cX3_lacksSetFor 24 = .ok (.astore_n 3, 1) := by decide +kernel
theorem dX3_lacksSetFor_25 : decode cX3_lacksSetFor 25 = .ok (.aload_n 3, 1) := by decide +kernel
theorem dX3_lacksSetFor_26 : decode cX3_lacksSetFor 26 = .ok (.iload_n 1, 1) := by decide +kernel
theorem dX3_lacksSetFor_27 : decode cX3_lacksSetFor 27 = .ok (.invokevirtual 223, 3) := by decide +kernel
theorem dX3_lacksSetFor_30 : decode cX3_lacksSetFor 30 = .ok (.ifCond .eq 13, 3) := by decide +kernel
theorem dX3_lacksSetFor_33 : decode cX3_lacksSetFor 33 = .ok (.aload_n 3, 1) := by decide +kernel
theorem dX3_lacksSetFor_34 : decode cX3_lacksSetFor 34 = .ok (.getfield 154, 3) := by decide +kernel
theorem dX3_lacksSetFor_37 : decode cX3_lacksSetFor 37 = .ok (.iconst (-1), 1) := by decide +kernel
theorem dX3_lacksSetFor_38 : decode cX3_lacksSetFor 38 = .ok (.if_icmp .ne 5, 3) := by decide +kernel
theorem dX3_lacksSetFor_41 : decode cX3_lacksSetFor 41 = .ok (.iconst 1, 1) := by decide +kernel
theorem dX3_lacksSetFor_42 : decode cX3_lacksSetFor 42 = .ok (.ireturn, 1) := by decide +kernel
theorem dX3_lacksSetFor_43 : decode cX3_lacksSetFor 43 = .ok (.iinc 2 1, 3) := by decide +kernel
theorem dX3_lacksSetFor_46 : decode cX3_lacksSetFor 46 = .ok (.goto (-44), 3) := by decide +kernel
theorem dX3_lacksSetFor_49 : decode cX3_lacksSetFor 49 = .ok (.iconst 0, 1) := by decide +kernel
theorem dX3_lacksSetFor_50 : decode cX3_lacksSetFor 50 = .ok (.ireturn, 1) := by decide +kernel
theorem dX3_makeCurrent_0 : decode cX3_makeCurrent 0 = .ok (.aload_n 0, 1) := by decide +kernel
theorem dX3_makeCurrent_1 : decode cX3_makeCurrent 1 = .ok (.getfield 21, 3) := by decide +kernel
theorem dX3_makeCurrent_4 : decode cX3_makeCurrent 4 = .ok (.iload_n 1, 1) := by decide +kernel
theorem dX3_makeCurrent_5 : decode cX3_makeCurrent 5 = .ok (.invokevirtual 112, 3) := by decide +kernel
theorem dX3_makeCurrent_8 : decode cX3_makeCurrent 8 = .ok (.istore_n 2, 1) := by decide +kernel
theorem dX3_makeCurrent_9 : decode cX3_makeCurrent 9 = .ok (.iload_n 2, 1) := by decide +kernel
theorem dX3_makeCurrent_10 : decode cX3_makeCurrent 10 = .ok (.iconst (-1), 1) := by decide +kernel
theorem dX3_makeCurrent_11 : decode cX3_makeCurrent 11 = .ok (.if_icmp .ne 5, 3) := by decide +kernel
theorem dX3_makeCurrent_14 : decode cX3_makeCurrent 14 = .ok (.iconst (-1), 1) := by decide +kernel
theorem dX3_makeCurrent_15 : decode cX3_makeCurrent 15 = .ok (.ireturn, 1) := by decide +kernel
theorem dX3_makeCurrent_16 : decode cX3_makeCurrent 16 = .ok (.aload_n 0, 1) := by decide +kernel
theorem dX3_makeCurrent_17 : decode cX3_makeCurrent 17 = .ok (.iload_n 1, 1) := by decide +kernel
theorem dX3_makeCurrent_18 : decode cX3_makeCurrent 18 = .ok (.putfield 45, 3) := by decide +kernel
theorem dX3_makeCurrent_21 : decode cX3_makeCurrent 21 = .ok (.aload_n 0, 1) := by decide +kernel
theorem dX3_makeCurrent_22 : decode cX3_makeCurrent 22 = .ok (.getfield 28, 3) := by decide +kernel
theorem dX3_makeCurrent_25 : decode cX3_makeCurrent 25 = .ok (.iload_n 2, 1) := by decide +kernel
theorem dX3_makeCurrent_26 : decode cX3_makeCurrent 26 = .ok (.iload_n 1, 1) := by decide +kernel
theorem dX3_makeCurrent_27 : decode cX3_makeCurrent 27 = .ok (.invokevirtual 93, 3) := by decide +kernel
theorem dX3_makeCurrent_30 : decode cX3_makeCurrent 30 = .ok (.iconst 0, 1) := by decide +kernel
theorem dX3_makeCurrent_31 : decode cX3_makeCurrent 31 = .ok (.istore_n 3, 1) := by decide +kernel
theorem dX3_makeCurrent_32 : decode cX3_makeCurrent 32 = .ok (.iload_n 3, 1) := by decide +kernel
theorem dX3_makeCurrent_33 : decode cX3_makeCurrent 33 = .ok (.aload_n 0, 1) := by decide +kernel
theorem dX3_makeCurrent_34 : decode cX3_makeCurrent 34 = .ok (.getfield 10, 3) := by decide +kernel
theorem dX3_makeCurrent_37 : decode cX3_makeCurrent 37 = .ok (.invokevirtual 62, 3) := by decide +kernel
theorem dX3_makeCurrent_40 : decode cX3_makeCurrent 40 = .ok (.if_icmp .ge 41, 3) := by decide +kernel
theorem dX3_makeCurrent_43 : decode cX3_makeCurrent 43 = .ok (.aload_n 0, 1) := by decide +kernel
theorem dX3_makeCurrent_44 : decode cX3_makeCurrent 44 = .ok (.getfield 10, 3) := by decide +kernel
theorem dX3_makeCurrent_47 : decode cX3_makeCurrent 47 = .ok (.iload_n 3, 1) := by decide +kernel
theorem dX3_makeCurrent_48 : decode cX3_makeCurrent 48 = .ok (.invokevirtual 97, 3) := by decide +kernel
theorem dX3_makeCurrent_51 : decode cX3_makeCurrent 51 = .ok (.checkcast 73, 3) := by decide +kernel
theorem dX3_makeCurrent_54 : decode cX3_makeCurrent 54 = .ok (.astore 4, 2) := by decide +kernel
theorem dX3_makeCurrent_56 : decode cX3_makeCurrent 56 = .ok (.aload 4, 2) := by decide +kernel
theorem dX3_makeCurrent_58 : decode cX3_makeCurrent 58 = .ok (.getfield 169, 3) := by decide +kernel
theorem dX3_makeCurrent_61 : decode cX3_makeCurrent 61 = .ok (.iload_n 1, 1) := by decide +kernel
theorem dX3_makeCurrent_62 : decode cX3_makeCurrent 62 = .ok (.invokevirtual 112, 3) := by decide +kernel
theorem dX3_makeCurrent_65 : decode cX3_makeCurrent 65 = .ok (.iconst (-1), 1) := by decide +kernel
theorem dX3_makeCurrent_66 : decode cX3_makeCurrent 66 = .ok (.if_icmp .eq 9, 3) := by decide +kernel
theorem dX3_makeCurrent_69 : decode cX3_makeCurrent 69 = .ok (.aload 4, 2) := by decide +kernel
theorem dX3_makeCurrent_71 : decode cX3_makeCurrent 71 = .ok (.iload_n 1, 1) := by decide +kernel
theorem dX3_makeCurrent_72 : decode cX3_makeCurrent 72 = .ok (.putfield 154, 3) := by decide +kernel
theorem dX3_makeCurrent_75 : decode cX3_makeCurrent 75 = .ok (.iinc 3 1, 3) := by decide +kernel
theorem dX3_makeCurrent_78 : decode cX3_makeCurrent 78 = .ok (.goto (-46), 3) := by decide +kernel
theorem dX3_makeCurrent_81 : decode cX3_makeCurrent 81 = .ok (.iload_n 1, 1) := by decide +kernel
theorem dX3_makeCurrent_82 : decode cX3_makeCurrent 82 = .ok (.ireturn, 1) := by decide +kernel
theorem dX3_gatherDoomed_0 : decode cX3_gatherDoomed 0 = .ok (.iload_n 2, 1) := by decide +kernel
theorem dX3_gatherDoomed_1 : decode cX3_gatherDoomed 1 = .ok (.ifCond .ne 13, 3) := by decide +kernel
theorem dX3_gatherDoomed_4 : decode cX3_gatherDoomed 4 = .ok (.aload_n 0, 1) := by decide +kernel
theorem dX3_gatherDoomed_5 : decode cX3_gatherDoomed 5 = .ok (.iload_n 1, 1) := by decide +kernel
theorem dX3_gatherDoomed_6 : decode cX3_gatherDoomed 6 = .ok (.invokevirtual 226, 3) := by decide +kernel
theorem dX3_gatherDoomed_9 : decode cX3_gatherDoomed 9 = .ok (.ifCond .eq 5, 3) := by decide +kernel
theorem dX3_gatherDoomed_12 : decode cX3_gatherDoomed 12 = .ok (.iconst (-1), 1) := by decide +kernel
theorem dX3_gatherDoomed_13 : decode cX3_gatherDoomed 13 = .ok (.ireturn, 1) := by decide +kernel
theorem dX3_gatherDoomed_14 : decode cX3_gatherDoomed 14 = .ok (.aload_n 0, 1) := by decide +kernel
theorem dX3_gatherDoomed_15 : decode cX3_gatherDoomed 15 = .ok (.getfield 34, 3) := by decide +kernel
theorem dX3_gatherDoomed_18 : decode cX3_gatherDoomed 18 = .ok (.invokevirtual 229, 3) := by decide +kernel
theorem dX3_gatherDoomed_21 : decode cX3_gatherDoomed 21 = .ok (.aload_n 0, 1) := by decide +kernel
theorem dX3_gatherDoomed_22 : decode cX3_gatherDoomed 22 = .ok (.getfield 34, 3) := by decide +kernel
theorem dX3_gatherDoomed_25 : decode cX3_gatherDoomed 25 = .ok (.iload_n 1, 1) := by decide +kernel
theorem dX3_gatherDoomed_26 : decode cX3_gatherDoomed 26 = .ok (.invokevirtual 232, 3) := by decide +kernel
theorem dX3_gatherDoomed_29 : decode cX3_gatherDoomed 29 = .ok (.iconst 0, 1) := by decide +kernel
theorem dX3_gatherDoomed_30 : decode cX3_gatherDoomed 30 = .ok (.istore_n 3, 1) := by decide +kernel
theorem dX3_gatherDoomed_31 : decode cX3_gatherDoomed 31 = .ok (.iload_n 3, 1) := by decide +kernel
theorem dX3_gatherDoomed_32 : decode cX3_gatherDoomed 32 = .ok (.bipush 60, 2) := by decide +kernel
theorem dX3_gatherDoomed_34 : decode cX3_gatherDoomed 34 = .ok (.if_icmp .ge 33, 3) := by decide +kernel
theorem dX3_gatherDoomed_37 : decode cX3_gatherDoomed 37 = .ok (.iload_n 3, 1) := by decide +kernel
theorem dX3_gatherDoomed_38 : decode cX3_gatherDoomed 38 = .ok (.aload_n 0, 1) := by decide +kernel
theorem dX3_gatherDoomed_39 : decode cX3_gatherDoomed 39 = .ok (.getfield 34, 3) := by decide +kernel
theorem dX3_gatherDoomed_42 : decode cX3_gatherDoomed 42 = .ok (.getfield 234, 3) := by decide +kernel
theorem dX3_gatherDoomed_45 : decode cX3_gatherDoomed 45 = .ok (.if_icmp .ge 22, 3) := by decide +kernel
theorem dX3_gatherDoomed_48 : decode cX3_gatherDoomed 48 = .ok (.aload_n 0, 1) := by decide +kernel
theorem dX3_gatherDoomed_49 : decode cX3_gatherDoomed 49 = .ok (.aload_n 0, 1) := by decide +kernel
theorem dX3_gatherDoomed_50 : decode cX3_gatherDoomed 50 = .ok (.getfield 34, 3) := by decide +kernel
theorem dX3_gatherDoomed_53 : decode cX3_gatherDoomed 53 = .ok (.iload_n 3, 1) := by decide +kernel
theorem dX3_gatherDoomed_54 : decode cX3_gatherDoomed 54 = .ok (.invokevirtual 128, 3) := by decide +kernel
theorem dX3_gatherDoomed_57 : decode cX3_gatherDoomed 57 = .ok (.iload_n 2, 1) := by decide +kernel
theorem dX3_gatherDoomed_58 : decode cX3_gatherDoomed 58 = .ok (.invokevirtual 236, 3) := by decide +kernel
theorem dX3_gatherDoomed_61 : decode cX3_gatherDoomed 61 = .ok (.iinc 3 1, 3) := by decide +kernel
theorem dX3_gatherDoomed_64 : decode cX3_gatherDoomed 64 = .ok (.goto (-33), 3) := by decide +kernel
theorem dX3_gatherDoomed_67 : decode cX3_gatherDoomed 67 = .ok (.aload_n 0, 1) := by decide +kernel
theorem dX3_gatherDoomed_68 : decode cX3_gatherDoomed 68 = .ok (.getfield 34, 3) := by decide +kernel
theorem dX3_gatherDoomed_71 : decode cX3_gatherDoomed 71 = .ok (.getfield 234, 3) := by decide +kernel
theorem dX3_gatherDoomed_74 : decode cX3_gatherDoomed 74 = .ok (.ireturn, 1) := by decide +kernel
theorem dX3_gatherMembers_0 : decode cX3_gatherMembers 0 = .ok (.iconst 0, 1) := by decide +kernel
theorem dX3_gatherMembers_1 : decode cX3_gatherMembers 1 = .ok (.istore_n 3, 1) := by decide +kernel
theorem dX3_gatherMembers_2 : decode cX3_gatherMembers 2 = .ok (.iload_n 3, 1) := by decide +kernel
theorem dX3_gatherMembers_3 : decode cX3_gatherMembers 3 = .ok (.aload_n 0, 1) := by decide +kernel
theorem dX3_gatherMembers_4 : decode cX3_gatherMembers 4 = .ok (.getfield 10, 3) := by decide +kernel
theorem dX3_gatherMembers_7 : decode cX3_gatherMembers 7 = .ok (.invokevirtual 62, 3) := by decide +kernel
theorem dX3_gatherMembers_10 : decode cX3_gatherMembers 10 = .ok (.if_icmp .ge 50, 3) := by decide +kernel
theorem dX3_gatherMembers_13 : decode cX3_gatherMembers 13 = .ok (.aload_n 0, 1) := by decide +kernel
theorem dX3_gatherMembers_14 : decode cX3_gatherMembers 14 = .ok (.getfield 10, 3) := by decide +kernel
theorem dX3_gatherMembers_17 : decode cX3_gatherMembers 17 = .ok (.iload_n 3, 1) := by decide +kernel
theorem dX3_gatherMembers_18 : decode cX3_gatherMembers 18 = .ok (.invokevirtual 97, 3) := by decide +kernel
theorem dX3_gatherMembers_21 : decode cX3_gatherMembers 21 = .ok (.checkcast 73, 3) := by decide +kernel
theorem dX3_gatherMembers_24 : decode cX3_gatherMembers 24 = .ok (.astore 4, 2) := by decide +kernel
theorem dX3_gatherMembers_26 : decode cX3_gatherMembers 26 = .ok (.aload 4, 2) := by decide +kernel
theorem dX3_gatherMembers_28 : decode cX3_gatherMembers 28 = .ok (.iload_n 1, 1) := by decide +kernel
theorem dX3_gatherMembers_29 : decode cX3_gatherMembers 29 = .ok (.invokevirtual 175, 3) := by decide +kernel
theorem dX3_gatherMembers_32 : decode cX3_gatherMembers 32 = .ok (.ifCond .eq 22, 3) := by decide +kernel
theorem dX3_gatherMembers_35 : decode cX3_gatherMembers 35 = .ok (.aload 4, 2) := by decide +kernel
theorem dX3_gatherMembers_37 : decode cX3_gatherMembers 37 = .ok (.iload_n 2, 1) := by decide +kernel
theorem dX3_gatherMembers_38 : decode cX3_gatherMembers 38 = .ok (.invokevirtual 239, 3) := by decide +kernel
theorem dX3_gatherMembers_41 : decode cX3_gatherMembers 41 = .ok (.ifCond .eq 13, 3) := by decide +kernel
theorem dX3_gatherMembers_44 : decode cX3_gatherMembers 44 = .ok (.aload 4, 2) := by decide +kernel
theorem dX3_gatherMembers_46 : decode cX3_gatherMembers 46 = .ok (.iload_n 1, 1) := by decide +kernel
theorem dX3_gatherMembers_47 : decode cX3_gatherMembers 47 = .ok (.aload_n 0, 1) := by decide +kernel
theorem dX3_gatherMembers_48 : decode cX3_gatherMembers 48 = .ok (.getfield 34, 3) := by decide +kernel
theorem dX3_gatherMembers_51 : decode cX3_gatherMembers 51 = .ok (.invokevirtual 242, 3) := by decide +kernel
theorem dX3_gatherMembers_54 : decode cX3_gatherMembers 54 = .ok (.iinc 3 1, 3) := by decide +kernel
theorem dX3_gatherMembers_57 : decode cX3_gatherMembers 57 = .ok (.goto (-55), 3) := by decide +kernel
theorem dX3_gatherMembers_60 : decode cX3_gatherMembers 60 = .ok (.return_, 1) := by decide +kernel
theorem dX3_hasMembers_0 : decode cX3_hasMembers 0 = .ok (.iconst 0, 1) := by decide +kernel
theorem dX3_hasMembers_1 : decode cX3_hasMembers 1 = .ok (.istore_n 2, 1) := by decide +kernel
theorem dX3_hasMembers_2 : decode cX3_hasMembers 2 = .ok (.iload_n 2, 1) := by decide +kernel
theorem dX3_hasMembers_3 : decode cX3_hasMembers 3 = .ok (.aload_n 0, 1) := by decide +kernel
theorem dX3_hasMembers_4 : decode cX3_hasMembers 4 = .ok (.getfield 10, 3) := by decide +kernel
theorem dX3_hasMembers_7 : decode cX3_hasMembers 7 = .ok (.invokevirtual 62, 3) := by decide +kernel
theorem dX3_hasMembers_10 : decode cX3_hasMembers 10 = .ok (.if_icmp .ge 39, 3) := by decide +kernel
theorem dX3_hasMembers_13 : decode cX3_hasMembers 13 = .ok (.aload_n 0, 1) := by decide +kernel
theorem dX3_hasMembers_14 : decode cX3_hasMembers 14 = .ok (.getfield 10, 3) := by decide +kernel
theorem dX3_hasMembers_17 : decode cX3_hasMembers 17 = .ok (.iload_n 2, 1) := by decide +kernel
theorem dX3_hasMembers_18 : decode cX3_hasMembers 18 = .ok (.invokevirtual 97, 3) := by decide +kernel
theorem dX3_hasMembers_21 : decode cX3_hasMembers 21 = .ok (.checkcast 73, 3) := by decide +kernel
theorem dX3_hasMembers_24 : decode cX3_hasMembers 24 = .ok (.astore_n 3, 1) := by decide +kernel
theorem dX3_hasMembers_25 : decode cX3_hasMembers 25 = .ok (.aload_n 3, 1) := by decide +kernel
theorem dX3_hasMembers_26 : decode cX3_hasMembers 26 = .ok (.iload_n 1, 1) := by decide +kernel
theorem dX3_hasMembers_27 : decode cX3_hasMembers 27 = .ok (.invokevirtual 175, 3) := by decide +kernel
theorem dX3_hasMembers_30 : decode cX3_hasMembers 30 = .ok (.ifCond .eq 13, 3) := by decide +kernel
theorem dX3_hasMembers_33 : decode cX3_hasMembers 33 = .ok (.aload_n 3, 1) := by decide +kernel
theorem dX3_hasMembers_34 : decode cX3_hasMembers 34 = .ok (.iload_n 1, 1) := by decide +kernel
theorem dX3_hasMembers_35 : decode cX3_hasMembers 35 = .ok (.invokevirtual 157, 3) := by decide +kernel
theorem dX3_hasMembers_38 : decode cX3_hasMembers 38 = .ok (.ifCond .le 5, 3) := by decide +kernel
theorem dX3_hasMembers_41 : decode cX3_hasMembers 41 = .ok (.iconst 1, 1) := by decide +kernel
theorem dX3_hasMembers_42 : decode cX3_hasMembers 42 = .ok (.ireturn, 1) := by decide +kernel
theorem dX3_hasMembers_43 : decode cX3_hasMembers 43 = .ok (.iinc 2 1, 3) := by decide +kernel
theorem dX3_hasMembers_46 : decode cX3_hasMembers 46 = .ok (.goto (-44), 3) := by decide +kernel
theorem dX3_hasMembers_49 : decode cX3_hasMembers 49 = .ok (.iconst 0, 1) := by decide +kernel
theorem dX3_hasMembers_50 : decode cX3_hasMembers 50 = .ok (.ireturn, 1) := by decide +kernel
theorem dX3_remove_0 : decode cX3_remove 0 = .ok (.iconst 0, 1) := by decide +kernel
theorem dX3_remove_1 : decode cX3_remove 1 = .ok (.istore_n 2, 1) := by decide +kernel
theorem dX3_remove_2 : decode cX3_remove 2 = .ok (.iload_n 2, 1) := by decide +kernel
theorem dX3_remove_3 : decode cX3_remove 3 = .ok (.aload_n 0, 1) := by decide +kernel
theorem dX3_remove_4 : decode cX3_remove 4 = .ok (.getfield 10, 3) := by decide +kernel
theorem dX3_remove_7 : decode cX3_remove 7 = .ok (.invokevirtual 62, 3) := by decide +kernel
theorem dX3_remove_10 : decode cX3_remove 10 = .ok (.if_icmp .ge 24, 3) := by decide +kernel
theorem dX3_remove_13 : decode cX3_remove 13 = .ok (.aload_n 0, 1) := by decide +kernel
theorem dX3_remove_14 : decode cX3_remove 14 = .ok (.getfield 10, 3) := by decide +kernel
theorem dX3_remove_17 : decode cX3_remove 17 = .ok (.iload_n 2, 1) := by decide +kernel
theorem dX3_remove_18 : decode cX3_remove 18 = .ok (.invokevirtual 97, 3) := by decide +kernel
theorem dX3_remove_21 : decode cX3_remove 21 = .ok (.checkcast 73, 3) := by decide +kernel
theorem dX3_remove_24 : decode cX3_remove 24 = .ok (.iload_n 1, 1) := by decide +kernel
theorem dX3_remove_25 : decode cX3_remove 25 = .ok (.invokevirtual 246, 3) := by decide +kernel
theorem dX3_remove_28 : decode cX3_remove 28 = .ok (.iinc 2 1, 3) := by decide +kernel
theorem dX3_remove_31 : decode cX3_remove 31 = .ok (.goto (-29), 3) := by decide +kernel
theorem dX3_remove_34 : decode cX3_remove 34 = .ok (.aload_n 0, 1) := by decide +kernel
theorem dX3_remove_35 : decode cX3_remove 35 = .ok (.getfield 21, 3) := by decide +kernel
theorem dX3_remove_38 : decode cX3_remove 38 = .ok (.iload_n 1, 1) := by decide +kernel
theorem dX3_remove_39 : decode cX3_remove 39 = .ok (.invokevirtual 112, 3) := by decide +kernel
theorem dX3_remove_42 : decode cX3_remove 42 = .ok (.istore_n 2, 1) := by decide +kernel
theorem dX3_remove_43 : decode cX3_remove 43 = .ok (.aload_n 0, 1) := by decide +kernel
theorem dX3_remove_44 : decode cX3_remove 44 = .ok (.getfield 28, 3) := by decide +kernel
theorem dX3_remove_47 : decode cX3_remove 47 = .ok (.iload_n 2, 1) := by decide +kernel
theorem dX3_remove_48 : decode cX3_remove 48 = .ok (.invokevirtual 112, 3) := by decide +kernel
theorem dX3_remove_51 : decode cX3_remove 51 = .ok (.iload_n 1, 1) := by decide +kernel
theorem dX3_remove_52 : decode cX3_remove 52 = .ok (.if_icmp .ne 12, 3) := by decide +kernel
theorem dX3_remove_55 : decode cX3_remove 55 = .ok (.aload_n 0, 1) := by decide +kernel
theorem dX3_remove_56 : decode cX3_remove 56 = .ok (.getfield 28, 3) := by decide +kernel
theorem dX3_remove_59 : decode cX3_remove 59 = .ok (.iload_n 2, 1) := by decide +kernel
theorem dX3_remove_60 : decode cX3_remove 60 = .ok (.iconst (-1), 1) := by decide +kernel
theorem dX3_remove_61 : decode cX3_remove 61 = .ok (.invokevirtual 93, 3) := by decide +kernel
theorem dX3_remove_64 : decode cX3_remove 64 = .ok (.aload_n 0, 1) := by decide +kernel
theorem dX3_remove_65 : decode cX3_remove 65 = .ok (.getfield 45, 3) := by decide +kernel
theorem dX3_remove_68 : decode cX3_remove 68 = .ok (.iload_n 1, 1) := by decide +kernel
theorem dX3_remove_69 : decode cX3_remove 69 = .ok (.if_icmp .ne 8, 3) := by decide +kernel
theorem dX3_remove_72 : decode cX3_remove 72 = .ok (.aload_n 0, 1) := by decide +kernel
theorem dX3_remove_73 : decode cX3_remove 73 = .ok (.iconst (-1), 1) := by decide +kernel
theorem dX3_remove_74 : decode cX3_remove 74 = .ok (.putfield 45, 3) := by decide +kernel
theorem dX3_remove_77 : decode cX3_remove 77 = .ok (.aload_n 0, 1) := by decide +kernel
theorem dX3_remove_78 : decode cX3_remove 78 = .ok (.getfield 21, 3) := by decide +kernel
theorem dX3_remove_81 : decode cX3_remove 81 = .ok (.iload_n 1, 1) := by decide +kernel
theorem dX3_remove_82 : decode cX3_remove 82 = .ok (.iconst (-1), 1) := by decide +kernel
theorem dX3_remove_83 : decode cX3_remove 83 = .ok (.invokevirtual 93, 3) := by decide +kernel
theorem dX3_remove_86 : decode cX3_remove 86 = .ok (.aload_n 0, 1) := by decide +kernel
theorem dX3_remove_87 : decode cX3_remove 87 = .ok (.dup, 1) := by decide +kernel
theorem dX3_remove_88 : decode cX3_remove 88 = .ok (.getfield 42, 3) := by decide +kernel
theorem dX3_remove_91 : decode cX3_remove 91 = .ok (.iconst 1, 1) := by decide +kernel
theorem dX3_remove_92 : decode cX3_remove 92 = .ok (.isub, 1) := by decide +kernel
theorem dX3_remove_93 : decode cX3_remove 93 = .ok (.putfield 42, 3) := by decide +kernel
theorem dX3_remove_96 : decode cX3_remove 96 = .ok (.return_, 1) := by decide +kernel
