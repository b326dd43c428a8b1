theorem dX0_init_0 : decode cX0_init 0 = .ok (.aload_n 0, 1) := by decide +kernel
theorem dX0_init_1 : decode cX0_init 1 = .ok (.invokespecial 3, 3) := by decide +kernel
theorem dX0_init_4 : decode cX0_init 4 = .ok (.aload_n 0, 1) := by decide +kernel
theorem dX0_init_5 : decode cX0_init 5 = .ok (.new 9, 3) := by decide +kernel
theorem dX0_init_8 : decode cX0_init 8 = .ok (.dup, 1) := by decide +kernel
theorem dX0_init_9 : decode cX0_init 9 = .ok (.invokespecial 11, 3) := by decide +kernel
theorem dX0_init_12 : decode cX0_init 12 = .ok (.putfield 12, 3) := by decide +kernel
theorem dX0_init_15 : decode cX0_init 15 = .ok (.return_, 1) := by decide +kernel
theorem dX0_start_0 : decode cX0_start 0 = .ok (.aload_n 0, 1) := by decide +kernel
theorem dX0_start_1 : decode cX0_start 1 = .ok (.iconst 0, 1) := by decide +kernel
theorem dX0_start_2 : decode cX0_start 2 = .ok (.putfield 18, 3) := by decide +kernel
theorem dX0_start_5 : decode cX0_start 5 = .ok (.return_, 1) := by decide +kernel
theorem dX0_findFault_0 : decode cX0_findFault 0 = .ok (.aload_n 0, 1) := by decide +kernel
theorem dX0_findFault_1 : decode cX0_findFault 1 = .ok (.invokevirtual 22, 3) := by decide +kernel
theorem dX0_findFault_4 : decode cX0_findFault 4 = .ok (.iconst 0, 1) := by decide +kernel
theorem dX0_findFault_5 : decode cX0_findFault 5 = .ok (.istore_n 1, 1) := by decide +kernel
theorem dX0_findFault_6 : decode cX0_findFault 6 = .ok (.iload_n 1, 1) := by decide +kernel
theorem dX0_findFault_7 : decode cX0_findFault 7 = .ok (.bipush 60, 2) := by decide +kernel
theorem dX0_findFault_9 : decode cX0_findFault 9 = .ok (.if_icmp .gt 33, 3) := by decide +kernel
theorem dX0_findFault_12 : decode cX0_findFault 12 = .ok (.aload_n 0, 1) := by decide +kernel
theorem dX0_findFault_13 : decode cX0_findFault 13 = .ok (.invokevirtual 25, 3) := by decide +kernel
theorem dX0_findFault_16 : decode cX0_findFault 16 = .ok (.ifCond .ne 8, 3) := by decide +kernel
theorem dX0_findFault_19 : decode cX0_findFault 19 = .ok (.aload_n 0, 1) := by decide +kernel
theorem dX0_findFault_20 : decode cX0_findFault 20 = .ok (.getfield 18, 3) := by decide +kernel
theorem dX0_findFault_23 : decode cX0_findFault 23 = .ok (.ireturn, 1) := by decide +kernel
theorem dX0_findFault_24 : decode cX0_findFault 24 = .ok (.aload_n 0, 1) := by decide +kernel
theorem dX0_findFault_25 : decode cX0_findFault 25 = .ok (.bipush 59, 2) := by decide +kernel
theorem dX0_findFault_27 : decode cX0_findFault 27 = .ok (.invokevirtual 29, 3) := by decide +kernel
theorem dX0_findFault_30 : decode cX0_findFault 30 = .ok (.ifCond .ne 6, 3) := by decide +kernel
theorem dX0_findFault_33 : decode cX0_findFault 33 = .ok (.goto 9, 3) := by decide +kernel
theorem dX0_findFault_36 : decode cX0_findFault 36 = .ok (.iinc 1 1, 3) := by decide +kernel
theorem dX0_findFault_39 : decode cX0_findFault 39 = .ok (.goto (-33), 3) := by decide +kernel
theorem dX0_findFault_42 : decode cX0_findFault 42 = .ok (.aload_n 0, 1) := by decide +kernel
theorem dX0_findFault_43 : decode cX0_findFault 43 = .ok (.getfield 18, 3) := by decide +kernel
theorem dX0_findFault_46 : decode cX0_findFault 46 = .ok (.aload_n 0, 1) := by decide +kernel
theorem dX0_findFault_47 : decode cX0_findFault 47 = .ok (.getfield 12, 3) := by decide +kernel
theorem dX0_findFault_50 : decode cX0_findFault 50 = .ok (.getfield 33, 3) := by decide +kernel
theorem dX0_findFault_53 : decode cX0_findFault 53 = .ok (.if_icmp .ne 8, 3) := by decide +kernel
theorem dX0_findFault_56 : decode cX0_findFault 56 = .ok (.ldc 36, 2) := by decide +kernel
theorem dX0_findFault_58 : decode cX0_findFault 58 = .ok (.goto 7, 3) := by decide +kernel
theorem dX0_findFault_61 : decode cX0_findFault 61 = .ok (.aload_n 0, 1) := by decide +kernel
theorem dX0_findFault_62 : decode cX0_findFault 62 = .ok (.getfield 18, 3) := by decide +kernel
theorem dX0_findFault_65 : decode cX0_findFault 65 = .ok (.ireturn, 1) := by decide +kernel
theorem dX0_readSign_0 : decode cX0_readSign 0 = .ok (.aload_n 0, 1) := by decide +kernel
theorem dX0_readSign_1 : decode cX0_readSign 1 = .ok (.getfield 12, 3) := by decide +kernel
theorem dX0_readSign_4 : decode cX0_readSign 4 = .ok (.aload_n 0, 1) := by decide +kernel
theorem dX0_readSign_5 : decode cX0_readSign 5 = .ok (.getfield 18, 3) := by decide +kernel
theorem dX0_readSign_8 : decode cX0_readSign 8 = .ok (.invokevirtual 37, 3) := by decide +kernel
theorem dX0_readSign_11 : decode cX0_readSign 11 = .ok (.iload_n 1, 1) := by decide +kernel
theorem dX0_readSign_12 : decode cX0_readSign 12 = .ok (.if_icmp .eq 5, 3) := by decide +kernel
theorem dX0_readSign_15 : decode cX0_readSign 15 = .ok (.iconst 0, 1) := by decide +kernel
theorem dX0_readSign_16 : decode cX0_readSign 16 = .ok (.ireturn, 1) := by decide +kernel
theorem dX0_readSign_17 : decode cX0_readSign 17 = .ok (.aload_n 0, 1) := by decide +kernel
theorem dX0_readSign_18 : decode cX0_readSign 18 = .ok (.dup, 1) := by decide +kernel
theorem dX0_readSign_19 : decode cX0_readSign 19 = .ok (.getfield 18, 3) := by decide +kernel
theorem dX0_readSign_22 : decode cX0_readSign 22 = .ok (.iconst 1, 1) := by decide +kernel
theorem dX0_readSign_23 : decode cX0_readSign 23 = .ok (.iadd, 1) := by decide +kernel
theorem dX0_readSign_24 : decode cX0_readSign 24 = .ok (.putfield 18, 3) := by decide +kernel
theorem dX0_readSign_27 : decode cX0_readSign 27 = .ok (.iconst 1, 1) := by decide +kernel
theorem dX0_readSign_28 : decode cX0_readSign 28 = .ok (.ireturn, 1) := by decide +kernel
theorem dX0_readDeed_0 : decode cX0_readDeed 0 = .ok (.aload_n 0, 1) := by decide +kernel
theorem dX0_readDeed_1 : decode cX0_readDeed 1 = .ok (.bipush 120, 2) := by decide +kernel
theorem dX0_readDeed_3 : decode cX0_readDeed 3 = .ok (.invokevirtual 29, 3) := by decide +kernel
theorem dX0_readDeed_6 : decode cX0_readDeed 6 = .ok (.ifCond .eq 10, 3) := by decide +kernel
theorem dX0_readDeed_9 : decode cX0_readDeed 9 = .ok (.aload_n 0, 1) := by decide +kernel
theorem dX0_readDeed_10 : decode cX0_readDeed 10 = .ok (.iconst 2, 1) := by decide +kernel
theorem dX0_readDeed_11 : decode cX0_readDeed 11 = .ok (.putfield 41, 3) := by decide +kernel
theorem dX0_readDeed_14 : decode cX0_readDeed 14 = .ok (.iconst 1, 1) := by decide +kernel
theorem dX0_readDeed_15 : decode cX0_readDeed 15 = .ok (.ireturn, 1) := by decide +kernel
theorem dX0_readDeed_16 : decode cX0_readDeed 16 = .ok (.aload_n 0, 1) := by decide +kernel
theorem dX0_readDeed_17 : decode cX0_readDeed 17 = .ok (.bipush 46, 2) := by decide +kernel
theorem dX0_readDeed_19 : decode cX0_readDeed 19 = .ok (.invokevirtual 29, 3) := by decide +kernel
theorem dX0_readDeed_22 : decode cX0_readDeed 22 = .ok (.ifCond .eq 33, 3) := by decide +kernel
theorem dX0_readDeed_25 : decode cX0_readDeed 25 = .ok (.aload_n 0, 1) := by decide +kernel
theorem dX0_readDeed_26 : decode cX0_readDeed 26 = .ok (.iconst 1, 1) := by decide +kernel
theorem dX0_readDeed_27 : decode cX0_readDeed 27 = .ok (.putfield 41, 3) := by decide +kernel
theorem dX0_readDeed_30 : decode cX0_readDeed 30 = .ok (.aload_n 0, 1) := by decide +kernel
theorem dX0_readDeed_31 : decode cX0_readDeed 31 = .ok (.aload_n 0, 1) := by decide +kernel
theorem dX0_readDeed_32 : decode cX0_readDeed 32 = .ok (.iconst 1, 1) := by decide +kernel
theorem dX0_readDeed_33 : decode cX0_readDeed 33 = .ok (.bipush 99, 2) := by decide +kernel
theorem dX0_readDeed_35 : decode cX0_readDeed 35 = .ok (.invokevirtual 44, 3) := by decide +kernel
theorem dX0_readDeed_38 : decode cX0_readDeed 38 = .ok (.putfield 48, 3) := by decide +kernel
theorem dX0_readDeed_41 : decode cX0_readDeed 41 = .ok (.aload_n 0, 1) := by decide +kernel
theorem dX0_readDeed_42 : decode cX0_readDeed 42 = .ok (.getfield 48, 3) := by decide +kernel
theorem dX0_readDeed_45 : decode cX0_readDeed 45 = .ok (.iconst (-1), 1) := by decide +kernel
theorem dX0_readDeed_46 : decode cX0_readDeed 46 = .ok (.if_icmp .eq 7, 3) := by decide +kernel
theorem dX0_readDeed_49 : decode cX0_readDeed 49 = .ok (.iconst 1, 1) := by decide +kernel
theorem dX0_readDeed_50 : decode cX0_readDeed 50 = .ok (.goto 4, 3) := by decide +kernel
theorem dX0_readDeed_53 : decode cX0_readDeed 53 = .ok (.iconst 0, 1) := by decide +kernel
theorem dX0_readDeed_54 : decode cX0_readDeed 54 = .ok (.ireturn, 1) := by decide +kernel
theorem dX0_readDeed_55 : decode cX0_readDeed 55 = .ok (.aload_n 0, 1) := by decide +kernel
theorem dX0_readDeed_56 : decode cX0_readDeed 56 = .ok (.iconst 0, 1) := by decide +kernel
theorem dX0_readDeed_57 : decode cX0_readDeed 57 = .ok (.putfield 41, 3) := by decide +kernel
theorem dX0_readDeed_60 : decode cX0_readDeed 60 = .ok (.aload_n 0, 1) := by decide +kernel
theorem dX0_readDeed_61 : decode cX0_readDeed 61 = .ok (.invokevirtual 51, 3) := by decide +kernel
theorem dX0_readDeed_64 : decode cX0_readDeed 64 = .ok (.ifCond .eq 23, 3) := by decide +kernel
theorem dX0_readDeed_67 : decode cX0_readDeed 67 = .ok (.aload_n 0, 1) := by decide +kernel
theorem dX0_readDeed_68 : decode cX0_readDeed 68 = .ok (.bipush 61, 2) := by decide +kernel
theorem dX0_readDeed_70 : decode cX0_readDeed 70 = .ok (.invokevirtual 29, 3) := by decide +kernel
theorem dX0_readDeed_73 : decode cX0_readDeed 73 = .ok (.ifCond .eq 14, 3) := by decide +kernel
theorem dX0_readDeed_76 : decode cX0_readDeed 76 = .ok (.aload_n 0, 1) := by decide +kernel
theorem dX0_readDeed_77 : decode cX0_readDeed 77 = .ok (.invokevirtual 54, 3) := by decide +kernel
theorem dX0_readDeed_80 : decode cX0_readDeed 80 = .ok (.ifCond .eq 7, 3) := by decide +kernel
theorem dX0_readDeed_83 : decode cX0_readDeed 83 = .ok (.iconst 1, 1) := by decide +kernel
theorem dX0_readDeed_84 : decode cX0_readDeed 84 = .ok (.goto 4, 3) := by decide +kernel
theorem dX0_readDeed_87 : decode cX0_readDeed 87 = .ok (.iconst 0, 1) := by decide +kernel
theorem dX0_readDeed_88 : decode cX0_readDeed 88 = .ok (.ireturn, 1) := by decide +kernel
theorem dX0_readSector_0 : decode cX0_readSector 0 = .ok (.aload_n 0, 1) := by decide +kernel
theorem dX0_readSector_1 : decode cX0_readSector 1 = .ok (.bipush 102, 2) := by decide +kernel
theorem dX0_readSector_3 : decode cX0_readSector 3 = .ok (.invokevirtual 29, 3) := by decide +kernel
theorem dX0_readSector_6 : decode cX0_readSector 6 = .ok (.ifCond .eq 11, 3) := by decide +kernel
theorem dX0_readSector_9 : decode cX0_readSector 9 = .ok (.aload_n 0, 1) := by decide +kernel
theorem dX0_readSector_10 : decode cX0_readSector 10 = .ok (.iconst 0, 1) := by decide +kernel
theorem dX0_readSector_11 : decode cX0_readSector 11 = .ok (.putfield 57, 3) := by decide +kernel
theorem dX0_readSector_14 : decode cX0_readSector 14 = .ok (.goto 22, 3) := by decide +kernel
theorem dX0_readSector_17 : decode cX0_readSector 17 = .ok (.aload_n 0, 1) := by decide +kernel
theorem dX0_readSector_18 : decode cX0_readSector 18 = .ok (.bipush 98, 2) := by decide +kernel
theorem dX0_readSector_20 : decode cX0_readSector 20 = .ok (.invokevirtual 29, 3) := by decide +kernel
theorem dX0_readSector_23 : decode cX0_readSector 23 = .ok (.ifCond .eq 11, 3) := by decide +kernel
theorem dX0_readSector_26 : decode cX0_readSector 26 = .ok (.aload_n 0, 1) := by decide +kernel
theorem dX0_readSector_27 : decode cX0_readSector 27 = .ok (.iconst 1, 1) := by decide +kernel
theorem dX0_readSector_28 : decode cX0_readSector 28 = .ok (.putfield 57, 3) := by decide +kernel
theorem dX0_readSector_31 : decode cX0_readSector 31 = .ok (.goto 5, 3) := by decide +kernel
theorem dX0_readSector_34 : decode cX0_readSector 34 = .ok (.iconst 0, 1) := by decide +kernel
theorem dX0_readSector_35 : decode cX0_readSector 35 = .ok (.ireturn, 1) := by decide +kernel
theorem dX0_readSector_36 : decode cX0_readSector 36 = .ok (.aload_n 0, 1) := by decide +kernel
theorem dX0_readSector_37 : decode cX0_readSector 37 = .ok (.aload_n 0, 1) := by decide +kernel
theorem dX0_readSector_38 : decode cX0_readSector 38 = .ok (.iconst 0, 1) := by decide +kernel
theorem dX0_readSector_39 : decode cX0_readSector 39 = .ok (.bipush 11, 2) := by decide +kernel
theorem dX0_readSector_41 : decode cX0_readSector 41 = .ok (.invokevirtual 44, 3) := by decide +kernel
theorem dX0_readSector_44 : decode cX0_readSector 44 = .ok (.putfield 60, 3) := by decide +kernel
theorem dX0_readSector_47 : decode cX0_readSector 47 = .ok (.aload_n 0, 1) := by decide +kernel
theorem dX0_readSector_48 : decode cX0_readSector 48 = .ok (.getfield 60, 3) := by decide +kernel
theorem dX0_readSector_51 : decode cX0_readSector 51 = .ok (.iconst (-1), 1) := by decide +kernel
theorem dX0_readSector_52 : decode cX0_readSector 52 = .ok (.if_icmp .eq 7, 3) := by decide +kernel
theorem dX0_readSector_55 : decode cX0_readSector 55 = .ok (.iconst 1, 1) := by decide +kernel
theorem dX0_readSector_56 : decode cX0_readSector 56 = .ok (.goto 4, 3) := by decide +kernel
theorem dX0_readSector_59 : decode cX0_readSector 59 = .ok (.iconst 0, 1) := by decide +kernel
theorem dX0_readSector_60 : decode cX0_readSector 60 = .ok (.ireturn, 1) := by decide +kernel
theorem dX0_readCharge_0 : decode cX0_readCharge 0 = .ok (.aload_n 0, 1) := by decide +kernel
theorem dX0_readCharge_1 : decode cX0_readCharge 1 = .ok (.bipush 45, 2) := by decide +kernel
theorem dX0_readCharge_3 : decode cX0_readCharge 3 = .ok (.invokevirtual 29, 3) := by decide +kernel
theorem dX0_readCharge_6 : decode cX0_readCharge 6 = .ok (.istore_n 1, 1) := by decide +kernel
theorem dX0_readCharge_7 : decode cX0_readCharge 7 = .ok (.aload_n 0, 1) := by decide +kernel
theorem dX0_readCharge_8 : decode cX0_readCharge 8 = .ok (.iconst 0, 1) := by decide +kernel
theorem dX0_readCharge_9 : decode cX0_readCharge 9 = .ok (.bipush 99, 2) := by decide +kernel
theorem dX0_readCharge_11 : decode cX0_readCharge 11 = .ok (.invokevirtual 44, 3) := by decide +kernel
theorem dX0_readCharge_14 : decode cX0_readCharge 14 = .ok (.istore_n 2, 1) := by decide +kernel
theorem dX0_readCharge_15 : decode cX0_readCharge 15 = .ok (.iload_n 2, 1) := by decide +kernel
theorem dX0_readCharge_16 : decode cX0_readCharge 16 = .ok (.iconst (-1), 1) := by decide +kernel
theorem dX0_readCharge_17 : decode cX0_readCharge 17 = .ok (.if_icmp .ne 5, 3) := by decide +kernel
theorem dX0_readCharge_20 : decode cX0_readCharge 20 = .ok (.iconst 0, 1) := by decide +kernel
theorem dX0_readCharge_21 : decode cX0_readCharge 21 = .ok (.ireturn, 1) := by decide +kernel
theorem dX0_readCharge_22 : decode cX0_readCharge 22 = .ok (.aload_n 0, 1) := by decide +kernel
theorem dX0_readCharge_23 : decode cX0_readCharge 23 = .ok (.iload_n 1, 1) := by decide +kernel
theorem dX0_readCharge_24 : decode cX0_readCharge 24 = .ok (.ifCond .eq 8, 3) := by decide +kernel
theorem dX0_readCharge_27 : decode cX0_readCharge 27 = .ok (.iload_n 2, 1) := by decide +kernel
theorem dX0_readCharge_28 : decode cX0_readCharge 28 = .ok (.ineg, 1) := by decide +kernel
theorem dX0_readCharge_29 : decode cX0_readCharge 29 = .ok (.goto 4, 3) := by decide +kernel
theorem dX0_readCharge_32 : decode cX0_readCharge 32 = .ok (.iload_n 2, 1) := by decide +kernel
theorem dX0_readCharge_33 : decode cX0_readCharge 33 = .ok (.putfield 48, 3) := by decide +kernel
theorem dX0_readCharge_36 : decode cX0_readCharge 36 = .ok (.iconst 1, 1) := by decide +kernel
theorem dX0_readCharge_37 : decode cX0_readCharge 37 = .ok (.ireturn, 1) := by decide +kernel
theorem dX0_readNumber_0 : decode cX0_readNumber 0 = .ok (.aload_n 0, 1) := by decide +kernel
theorem dX0_readNumber_1 : decode cX0_readNumber 1 = .ok (.aload_n 0, 1) := by decide +kernel
theorem dX0_readNumber_2 : decode cX0_readNumber 2 = .ok (.getfield 18, 3) := by decide +kernel
theorem dX0_readNumber_5 : decode cX0_readNumber 5 = .ok (.invokevirtual 63, 3) := by decide +kernel
theorem dX0_readNumber_8 : decode cX0_readNumber 8 = .ok (.istore_n 3, 1) := by decide +kernel
theorem dX0_readNumber_9 : decode cX0_readNumber 9 = .ok (.iload_n 3, 1) := by decide +kernel
theorem dX0_readNumber_10 : decode cX0_readNumber 10 = .ok (.iload_n 1, 1) := by decide +kernel
theorem dX0_readNumber_11 : decode cX0_readNumber 11 = .ok (.if_icmp .ge 5, 3) := by decide +kernel
theorem dX0_readNumber_14 : decode cX0_readNumber 14 = .ok (.iconst (-1), 1) := by decide +kernel
theorem dX0_readNumber_15 : decode cX0_readNumber 15 = .ok (.ireturn, 1) := by decide +kernel
theorem dX0_readNumber_16 : decode cX0_readNumber 16 = .ok (.aload_n 0, 1) := by decide +kernel
theorem dX0_readNumber_17 : decode cX0_readNumber 17 = .ok (.dup, 1) := by decide +kernel
theorem dX0_readNumber_18 : decode cX0_readNumber 18 = .ok (.getfield 18, 3) := by decide +kernel
theorem dX0_readNumber_21 : decode cX0_readNumber 21 = .ok (.iconst 1, 1) := by decide +kernel
theorem dX0_readNumber_22 : decode cX0_readNumber 22 = .ok (.iadd, 1) := by decide +kernel
theorem dX0_readNumber_23 : decode cX0_readNumber 23 = .ok (.putfield 18, 3) := by decide +kernel
theorem dX0_readNumber_26 : decode cX0_readNumber 26 = .ok (.iconst 0, 1) := by decide +kernel
theorem dX0_readNumber_27 : decode cX0_readNumber 27 = .ok (.istore 4, 2) := by decide +kernel
theorem dX0_readNumber_29 : decode cX0_readNumber 29 = .ok (.iload 4, 2) := by decide +kernel
theorem dX0_readNumber_31 : decode cX0_readNumber 31 = .ok (.bipush 60, 2) := by decide +kernel
theorem dX0_readNumber_33 : decode cX0_readNumber 33 = .ok (.if_icmp .ge 61, 3) := by decide +kernel
theorem dX0_readNumber_36 : decode cX0_readNumber 36 = .ok (.iload_n 3, 1) := by decide +kernel
theorem dX0_readNumber_37 : decode cX0_readNumber 37 = .ok (.ifCond .le 57, 3) := by decide +kernel
theorem dX0_readNumber_40 : decode cX0_readNumber 40 = .ok (.aload_n 0, 1) := by decide +kernel
theorem dX0_readNumber_41 : decode cX0_readNumber 41 = .ok (.aload_n 0, 1) := by decide +kernel
theorem dX0_readNumber_42 : decode cX0_readNumber 42 = .ok (.getfield 18, 3) := by decide +kernel
theorem dX0_readNumber_45 : decode cX0_readNumber 45 = .ok (.invokevirtual 63, 3) := by decide +kernel
theorem dX0_readNumber_48 : decode cX0_readNumber 48 = .ok (.istore 5, 2) := by decide +kernel
theorem dX0_readNumber_50 : decode cX0_readNumber 50 = .ok (.iload 5, 2) := by decide +kernel
theorem dX0_readNumber_52 : decode cX0_readNumber 52 = .ok (.iconst (-1), 1) := by decide +kernel
theorem dX0_readNumber_53 : decode cX0_readNumber 53 = .ok (.if_icmp .eq 41, 3) := by decide +kernel
theorem dX0_readNumber_56 : decode cX0_readNumber 56 = .ok (.bipush 10, 2) := by decide +kernel
theorem dX0_readNumber_58 : decode cX0_readNumber 58 = .ok (.iload_n 3, 1) := by decide +kernel
theorem dX0_readNumber_59 : decode cX0_readNumber 59 = .ok (.imul, 1) := by decide +kernel
theorem dX0_readNumber_60 : decode cX0_readNumber 60 = .ok (.iload 5, 2) := by decide +kernel
theorem dX0_readNumber_62 : decode cX0_readNumber 62 = .ok (.iadd, 1) := by decide +kernel
theorem dX0_readNumber_63 : decode cX0_readNumber 63 = .ok (.iload_n 2, 1) := by decide +kernel
theorem dX0_readNumber_64 : decode cX0_readNumber 64 = .ok (.if_icmp .le 6, 3) := by decide +kernel
theorem dX0_readNumber_67 : decode cX0_readNumber 67 = .ok (.goto 27, 3) := by decide +kernel
theorem dX0_readNumber_70 : decode cX0_readNumber 70 = .ok (.bipush 10, 2) := by decide +kernel
theorem dX0_readNumber_72 : decode cX0_readNumber 72 = .ok (.iload_n 3, 1) := by decide +kernel
theorem dX0_readNumber_73 : decode cX0_readNumber 73 = .ok (.imul, 1) := by decide +kernel
theorem dX0_readNumber_74 : decode cX0_readNumber 74 = .ok (.iload 5, 2) := by decide +kernel
theorem dX0_readNumber_76 : decode cX0_readNumber 76 = .ok (.iadd, 1) := by decide +kernel
theorem dX0_readNumber_77 : decode cX0_readNumber 77 = .ok (.istore_n 3, 1) := by decide +kernel
theorem dX0_readNumber_78 : decode cX0_readNumber 78 = .ok (.aload_n 0, 1) := by decide +kernel
theorem dX0_readNumber_79 : decode cX0_readNumber 79 = .ok (.dup, 1) := by decide +kernel
theorem dX0_readNumber_80 : decode cX0_readNumber 80 = .ok (.getfield 18, 3) := by decide +kernel
theorem dX0_readNumber_83 : decode cX0_readNumber 83 = .ok (.iconst 1, 1) := by decide +kernel
theorem dX0_readNumber_84 : decode cX0_readNumber 84 = .ok (.iadd, 1) := by decide +kernel
theorem dX0_readNumber_85 : decode cX0_readNumber 85 = .ok (.putfield 18, 3) := by decide +kernel
theorem dX0_readNumber_88 : decode cX0_readNumber 88 = .ok (.iinc 4 1, 3) := by decide +kernel
theorem dX0_readNumber_91 : decode cX0_readNumber 91 = .ok (.goto (-62), 3) := by decide +kernel
theorem dX0_readNumber_94 : decode cX0_readNumber 94 = .ok (.iload_n 3, 1) := by decide +kernel
theorem dX0_readNumber_95 : decode cX0_readNumber 95 = .ok (.ireturn, 1) := by decide +kernel
theorem dX0_digitAt_0 : decode cX0_digitAt 0 = .ok (.aload_n 0, 1) := by decide +kernel
theorem dX0_digitAt_1 : decode cX0_digitAt 1 = .ok (.getfield 12, 3) := by decide +kernel
theorem dX0_digitAt_4 : decode cX0_digitAt 4 = .ok (.iload_n 1, 1) := by decide +kernel
theorem dX0_digitAt_5 : decode cX0_digitAt 5 = .ok (.invokevirtual 37, 3) := by decide +kernel
theorem dX0_digitAt_8 : decode cX0_digitAt 8 = .ok (.istore_n 2, 1) := by decide +kernel
theorem dX0_digitAt_9 : decode cX0_digitAt 9 = .ok (.iload_n 2, 1) := by decide +kernel
theorem dX0_digitAt_10 : decode cX0_digitAt 10 = .ok (.bipush 48, 2) := by decide +kernel
theorem dX0_digitAt_12 : decode cX0_digitAt 12 = .ok (.if_icmp .lt 16, 3) := by decide +kernel
theorem dX0_digitAt_15 : decode cX0_digitAt 15 = .ok (.iload_n 2, 1) := by decide +kernel
theorem dX0_digitAt_16 : decode cX0_digitAt 16 = .ok (.bipush 57, 2) := by decide +kernel
theorem dX0_digitAt_18 : decode cX0_digitAt 18 = .ok (.if_icmp .gt 10, 3) := by decide +kernel
theorem dX0_digitAt_21 : decode cX0_digitAt 21 = .ok (.iload_n 2, 1) := by decide +kernel
theorem dX0_digitAt_22 : decode cX0_digitAt 22 = .ok (.bipush 48, 2) := by decide +kernel
theorem dX0_digitAt_24 : decode cX0_digitAt 24 = .ok (.isub, 1) := by decide +kernel
theorem dX0_digitAt_25 : decode cX0_digitAt 25 = .ok (.goto 4, 3) := by decide +kernel
theorem dX0_digitAt_28 : decode cX0_digitAt 28 = .ok (.iconst (-1), 1) := by decide +kernel
theorem dX0_digitAt_29 : decode cX0_digitAt 29 = .ok (.ireturn, 1) := by decide +kernel
theorem dX1_init_0 : decode cX1_init 0 = .ok (.aload_n 0, 1) := by decide +kernel
theorem dX1_init_1 : decode cX1_init 1 = .ok (.invokespecial 3, 3) := by decide +kernel
theorem dX1_init_4 : decode cX1_init 4 = .ok (.aload_n 0, 1) := by decide +kernel
theorem dX1_init_5 : decode cX1_init 5 = .ok (.bipush 6, 2) := by decide +kernel
theorem dX1_init_7 : decode cX1_init 7 = .ok (.anewarray 9, 3) := by decide +kernel
theorem dX1_init_10 : decode cX1_init 10 = .ok (.putfield 11, 3) := by decide +kernel
theorem dX1_init_13 : decode cX1_init 13 = .ok (.return_, 1) := by decide +kernel
theorem dX1_record_0 : decode cX1_record 0 = .ok (.aload_n 0, 1) := by decide +kernel
theorem dX1_record_1 : decode cX1_record 1 = .ok (.getfield 17, 3) := by decide +kernel
theorem dX1_record_4 : decode cX1_record 4 = .ok (.bipush 6, 2) := by decide +kernel
theorem dX1_record_6 : decode cX1_record 6 = .ok (.if_icmp .ne 23, 3) := by decide +kernel
theorem dX1_record_9 : decode cX1_record 9 = .ok (.aload_n 0, 1) := by decide +kernel
theorem dX1_record_10 : decode cX1_record 10 = .ok (.dup, 1) := by decide +kernel
theorem dX1_record_11 : decode cX1_record 11 = .ok (.getfield 21, 3) := by decide +kernel
theorem dX1_record_14 : decode cX1_record 14 = .ok (.iconst 1, 1) := by decide +kernel
theorem dX1_record_15 : decode cX1_record 15 = .ok (.iadd, 1) := by decide +kernel
theorem dX1_record_16 : decode cX1_record 16 = .ok (.putfield 21, 3) := by decide +kernel
theorem dX1_record_19 : decode cX1_record 19 = .ok (.aload_n 0, 1) := by decide +kernel
theorem dX1_record_20 : decode cX1_record 20 = .ok (.dup, 1) := by decide +kernel
theorem dX1_record_21 : decode cX1_record 21 = .ok (.getfield 17, 3) := by decide +kernel
theorem dX1_record_24 : decode cX1_record 24 = .ok (.iconst 1, 1) := by decide +kernel
theorem dX1_record_25 : decode cX1_record 25 = .ok (.isub, 1) := by decide +kernel
theorem dX1_record_26 : decode cX1_record 26 = .ok (.putfield 17, 3) := by decide +kernel
theorem dX1_record_29 : decode cX1_record 29 = .ok (.aload_n 0, 1) := by decide +kernel
theorem dX1_record_30 : decode cX1_record 30 = .ok (.getfield 21, 3) := by decide +kernel
theorem dX1_record_33 : decode cX1_record 33 = .ok (.aload_n 0, 1) := by decide +kernel
theorem dX1_record_34 : decode cX1_record 34 = .ok (.getfield 17, 3) := by decide +kernel
theorem dX1_record_37 : decode cX1_record 37 = .ok (.iadd, 1) := by decide +kernel
theorem dX1_record_38 : decode cX1_record 38 = .ok (.bipush 6, 2) := by decide +kernel
theorem dX1_record_40 : decode cX1_record 40 = .ok (.invokestatic 24, 3) := by decide +kernel
theorem dX1_record_43 : decode cX1_record 43 = .ok (.istore_n 2, 1) := by decide +kernel
theorem dX1_record_44 : decode cX1_record 44 = .ok (.aload_n 0, 1) := by decide +kernel
theorem dX1_record_45 : decode cX1_record 45 = .ok (.getfield 11, 3) := by decide +kernel
theorem dX1_record_48 : decode cX1_record 48 = .ok (.iload_n 2, 1) := by decide +kernel
theorem dX1_record_49 : decode cX1_record 49 = .ok (.aaload, 1) := by decide +kernel
theorem dX1_record_50 : decode cX1_record 50 = .ok (.astore_n 3, 1) := by decide +kernel
theorem dX1_record_51 : decode cX1_record 51 = .ok (.aload_n 3, 1) := by decide +kernel
theorem dX1_record_52 : decode cX1_record 52 = .ok (.ifnonnull 18, 3) := by decide +kernel
theorem dX1_record_55 : decode cX1_record 55 = .ok (.new 9, 3) := by decide +kernel
theorem dX1_record_58 : decode cX1_record 58 = .ok (.dup, 1) := by decide +kernel
theorem dX1_record_59 : decode cX1_record 59 = .ok (.invokespecial 30, 3) := by decide +kernel
theorem dX1_record_62 : decode cX1_record 62 = .ok (.astore_n 3, 1) := by decide +kernel
theorem dX1_record_63 : decode cX1_record 63 = .ok (.aload_n 0, 1) := by decide +kernel
theorem dX1_record_64 : decode cX1_record 64 = .ok (.getfield 11, 3) := by decide +kernel
theorem dX1_record_67 : decode cX1_record 67 = .ok (.iload_n 2, 1) := by decide +kernel
theorem dX1_record_68 : decode cX1_record 68 = .ok (.aload_n 3, 1) := by decide +kernel
theorem dX1_record_69 : decode cX1_record 69 = .ok (.aastore, 1) := by decide +kernel
theorem dX1_record_70 : decode cX1_record 70 = .ok (.aload_n 3, 1) := by decide +kernel
theorem dX1_record_71 : decode cX1_record 71 = .ok (.aload_n 1, 1) := by decide +kernel
theorem dX1_record_72 : decode cX1_record 72 = .ok (.invokevirtual 31, 3) := by decide +kernel
theorem dX1_record_75 : decode cX1_record 75 = .ok (.aload_n 0, 1) := by decide +kernel
theorem dX1_record_76 : decode cX1_record 76 = .ok (.dup, 1) := by decide +kernel
theorem dX1_record_77 : decode cX1_record 77 = .ok (.getfield 17, 3) := by decide +kernel
theorem dX1_record_80 : decode cX1_record 80 = .ok (.iconst 1, 1) := by decide +kernel
theorem dX1_record_81 : decode cX1_record 81 = .ok (.iadd, 1) := by decide +kernel
theorem dX1_record_82 : decode cX1_record 82 = .ok (.putfield 17, 3) := by decide +kernel
theorem dX1_record_85 : decode cX1_record 85 = .ok (.return_, 1) := by decide +kernel
theorem dX1_takeBack_0 : decode cX1_takeBack 0 = .ok (.aload_n 0, 1) := by decide +kernel
theorem dX1_takeBack_1 : decode cX1_takeBack 1 = .ok (.getfield 17, 3) := by decide +kernel
theorem dX1_takeBack_4 : decode cX1_takeBack 4 = .ok (.ifCond .ne 5, 3) := by decide +kernel
theorem dX1_takeBack_7 : decode cX1_takeBack 7 = .ok (.iconst 0, 1) := by decide +kernel
theorem dX1_takeBack_8 : decode cX1_takeBack 8 = .ok (.ireturn, 1) := by decide +kernel
theorem dX1_takeBack_9 : decode cX1_takeBack 9 = .ok (.aload_n 0, 1) := by decide +kernel
theorem dX1_takeBack_10 : decode cX1_takeBack 10 = .ok (.getfield 11, 3) := by decide +kernel
theorem dX1_takeBack_13 : decode cX1_takeBack 13 = .ok (.aload_n 0, 1) := by decide +kernel
theorem dX1_takeBack_14 : decode cX1_takeBack 14 = .ok (.getfield 21, 3) := by decide +kernel
theorem dX1_takeBack_17 : decode cX1_takeBack 17 = .ok (.aload_n 0, 1) := by decide +kernel
theorem dX1_takeBack_18 : decode cX1_takeBack 18 = .ok (.getfield 17, 3) := by decide +kernel
theorem dX1_takeBack_21 : decode cX1_takeBack 21 = .ok (.iadd, 1) := by decide +kernel
theorem dX1_takeBack_22 : decode cX1_takeBack 22 = .ok (.iconst 1, 1) := by decide +kernel
theorem dX1_takeBack_23 : decode cX1_takeBack 23 = .ok (.isub, 1) := by decide +kernel
theorem dX1_takeBack_24 : decode cX1_takeBack 24 = .ok (.bipush 6, 2) := by decide +kernel
theorem dX1_takeBack_26 : decode cX1_takeBack 26 = .ok (.invokestatic 24, 3) := by decide +kernel
theorem dX1_takeBack_29 : decode cX1_takeBack 29 = .ok (.aaload, 1) := by decide +kernel
theorem dX1_takeBack_30 : decode cX1_takeBack 30 = .ok (.astore_n 2, 1) := by decide +kernel
theorem dX1_takeBack_31 : decode cX1_takeBack 31 = .ok (.aload_n 2, 1) := by decide +kernel
theorem dX1_takeBack_32 : decode cX1_takeBack 32 = .ok (.ifnonnull 5, 3) := by decide +kernel
theorem dX1_takeBack_35 : decode cX1_takeBack 35 = .ok (.iconst 0, 1) := by decide +kernel
theorem dX1_takeBack_36 : decode cX1_takeBack 36 = .ok (.ireturn, 1) := by decide +kernel
theorem dX1_takeBack_37 : decode cX1_takeBack 37 = .ok (.aload_n 1, 1) := by decide +kernel
theorem dX1_takeBack_38 : decode cX1_takeBack 38 = .ok (.aload_n 2, 1) := by decide +kernel
theorem dX1_takeBack_39 : decode cX1_takeBack 39 = .ok (.invokevirtual 31, 3) := by decide +kernel
theorem dX1_takeBack_42 : decode cX1_takeBack 42 = .ok (.aload_n 0, 1) := by decide +kernel
theorem dX1_takeBack_43 : decode cX1_takeBack 43 = .ok (.dup, 1) := by decide +kernel
theorem dX1_takeBack_44 : decode cX1_takeBack 44 = .ok (.getfield 17, 3) := by decide +kernel
theorem dX1_takeBack_47 : decode cX1_takeBack 47 = .ok (.iconst 1, 1) := by decide +kernel
theorem dX1_takeBack_48 : decode cX1_takeBack 48 = .ok (.isub, 1) := by decide +kernel
theorem dX1_takeBack_49 : decode cX1_takeBack 49 = .ok (.putfield 17, 3) := by decide +kernel
theorem dX1_takeBack_52 : decode cX1_takeBack 52 = .ok (.iconst 1, 1) := by decide +kernel
theorem dX1_takeBack_53 : decode cX1_takeBack 53 = .ok (.ireturn, 1) := by decide +kernel
theorem dX2_init_0 : decode cX2_init 0 = .ok (.aload_n 0, 1) := by decide +kernel
theorem dX2_init_1 : decode cX2_init 1 = .ok (.invokespecial 3, 3) := by decide +kernel
theorem dX2_init_4 : decode cX2_init 4 = .ok (.aload_n 0, 1) := by decide +kernel
theorem dX2_init_5 : decode cX2_init 5 = .ok (.iconst 5, 1) := by decide +kernel
theorem dX2_init_6 : decode cX2_init 6 = .ok (.newarray .int, 2) := by decide +kernel
theorem dX2_init_8 : decode cX2_init 8 = .ok (.dup, 1) := by decide +kernel
theorem dX2_init_9 : decode cX2_init 9 = .ok (.iconst 0, 1) := by decide +kernel
theorem dX2_init_10 : decode cX2_init 10 = .ok (.bipush 12, 2) := by decide +kernel
theorem dX2_init_12 : decode cX2_init 12 = .ok (.iastore, 1) := by decide +kernel
theorem dX2_init_13 : decode cX2_init 13 = .ok (.dup, 1) := by decide +kernel
theorem dX2_init_14 : decode cX2_init 14 = .ok (.iconst 1, 1) := by decide +kernel
theorem dX2_init_15 : decode cX2_init 15 = .ok (.iconst 2, 1) := by decide +kernel
theorem dX2_init_16 : decode cX2_init 16 = .ok (.iastore, 1) := by decide +kernel
theorem dX2_init_17 : decode cX2_init 17 = .ok (.dup, 1) := by decide +kernel
theorem dX2_init_18 : decode cX2_init 18 = .ok (.iconst 2, 1) := by decide +kernel
theorem dX2_init_19 : decode cX2_init 19 = .ok (.bipush 30, 2) := by decide +kernel
theorem dX2_init_21 : decode cX2_init 21 = .ok (.iastore, 1) := by decide +kernel
theorem dX2_init_22 : decode cX2_init 22 = .ok (.dup, 1) := by decide +kernel
theorem dX2_init_23 : decode cX2_init 23 = .ok (.iconst 3, 1) := by decide +kernel
theorem dX2_init_24 : decode cX2_init 24 = .ok (.bipush 20, 2) := by decide +kernel
theorem dX2_init_26 : decode cX2_init 26 = .ok (.iastore, 1) := by decide +kernel
theorem dX2_init_27 : decode cX2_init 27 = .ok (.dup, 1) := by decide +kernel
theorem dX2_init_28 : decode cX2_init 28 = .ok (.iconst 4, 1) := by decide +kernel
theorem dX2_init_29 : decode cX2_init 29 = .ok (.sipush 1000, 3) := by decide +kernel
theorem dX2_init_32 : decode cX2_init 32 = .ok (.iastore, 1) := by decide +kernel
theorem dX2_init_33 : decode cX2_init 33 = .ok (.putfield 9, 3) := by decide +kernel
theorem dX2_init_36 : decode cX2_init 36 = .ok (.aload_n 0, 1) := by decide +kernel
theorem dX2_init_37 : decode cX2_init 37 = .ok (.bipush 24, 2) := by decide +kernel
theorem dX2_init_39 : decode cX2_init 39 = .ok (.newarray .int, 2) := by decide +kernel
theorem dX2_init_41 : decode cX2_init 41 = .ok (.putfield 15, 3) := by decide +kernel
theorem dX2_init_44 : decode cX2_init 44 = .ok (.aload_n 0, 1) := by decide +kernel
theorem dX2_init_45 : decode cX2_init 45 = .ok (.iconst 2, 1) := by decide +kernel
theorem dX2_init_46 : decode cX2_init 46 = .ok (.newarray .int, 2) := by decide +kernel
theorem dX2_init_48 : decode cX2_init 48 = .ok (.putfield 18, 3) := by decide +kernel
theorem dX2_init_51 : decode cX2_init 51 = .ok (.aload_n 0, 1) := by decide +kernel
theorem dX2_init_52 : decode cX2_init 52 = .ok (.iconst 2, 1) := by decide +kernel
theorem dX2_init_53 : decode cX2_init 53 = .ok (.newarray .int, 2) := by decide +kernel
theorem dX2_init_55 : decode cX2_init 55 = .ok (.putfield 21, 3) := by decide +kernel
theorem dX2_init_58 : decode cX2_init 58 = .ok (.aload_n 0, 1) := by decide +kernel
theorem dX2_init_59 : decode cX2_init 59 = .ok (.iconst 2, 1) := by decide +kernel
theorem dX2_init_60 : decode cX2_init 60 = .ok (.newarray .int, 2) := by decide +kernel
theorem dX2_init_62 : decode cX2_init 62 = .ok (.putfield 24, 3) := by decide +kernel
theorem dX2_init_65 : decode cX2_init 65 = .ok (.aload_n 0, 1) := by decide +kernel
theorem dX2_init_66 : decode cX2_init 66 = .ok (.bipush 24, 2) := by decide +kernel
theorem dX2_init_68 : decode cX2_init 68 = .ok (.newarray .int, 2) := by decide +kernel
theorem dX2_init_70 : decode cX2_init 70 = .ok (.putfield 27, 3) := by decide +kernel
theorem dX2_init_73 : decode cX2_init 73 = .ok (.return_, 1) := by decide +kernel
theorem dX2_become_0 : decode cX2_become 0 = .ok (.aload_n 1, 1) := by decide +kernel
theorem dX2_become_1 : decode cX2_become 1 = .ok (.getfield 9, 3) := by decide +kernel
theorem dX2_become_4 : decode cX2_become 4 = .ok (.aload_n 0, 1) := by decide +kernel
theorem dX2_become_5 : decode cX2_become 5 = .ok (.getfield 9, 3) := by decide +kernel
theorem dX2_become_8 : decode cX2_become 8 = .ok (.invokestatic 30, 3) := by decide +kernel
theorem dX2_become_11 : decode cX2_become 11 = .ok (.aload_n 1, 1) := by decide +kernel
theorem dX2_become_12 : decode cX2_become 12 = .ok (.getfield 15, 3) := by decide +kernel
theorem dX2_become_15 : decode cX2_become 15 = .ok (.aload_n 0, 1) := by decide +kernel
theorem dX2_become_16 : decode cX2_become 16 = .ok (.getfield 15, 3) := by decide +kernel
theorem dX2_become_19 : decode cX2_become 19 = .ok (.invokestatic 30, 3) := by decide +kernel
theorem dX2_become_22 : decode cX2_become 22 = .ok (.aload_n 1, 1) := by decide +kernel
theorem dX2_become_23 : decode cX2_become 23 = .ok (.getfield 18, 3) := by decide +kernel
theorem dX2_become_26 : decode cX2_become 26 = .ok (.aload_n 0, 1) := by decide +kernel
theorem dX2_become_27 : decode cX2_become 27 = .ok (.getfield 18, 3) := by decide +kernel
theorem dX2_become_30 : decode cX2_become 30 = .ok (.invokestatic 30, 3) := by decide +kernel
theorem dX2_become_33 : decode cX2_become 33 = .ok (.aload_n 1, 1) := by decide +kernel
theorem dX2_become_34 : decode cX2_become 34 = .ok (.getfield 21, 3) := by decide +kernel
theorem dX2_become_37 : decode cX2_become 37 = .ok (.aload_n 0, 1) := by decide +kernel
theorem dX2_become_38 : decode cX2_become 38 = .ok (.getfield 21, 3) := by decide +kernel
theorem dX2_become_41 : decode cX2_become 41 = .ok (.invokestatic 30, 3) := by decide +kernel
theorem dX2_become_44 : decode cX2_become 44 = .ok (.aload_n 1, 1) := by decide +kernel
theorem dX2_become_45 : decode cX2_become 45 = .ok (.getfield 24, 3) := by decide +kernel
theorem dX2_become_48 : decode cX2_become 48 = .ok (.aload_n 0, 1) := by decide +kernel
theorem dX2_become_49 : decode cX2_become 49 = .ok (.getfield 24, 3) := by decide +kernel
theorem dX2_become_52 : decode cX2_become 52 = .ok (.invokestatic 30, 3) := by decide +kernel
theorem dX2_become_55 : decode cX2_become 55 = .ok (.aload_n 1, 1) := by decide +kernel
theorem dX2_become_56 : decode cX2_become 56 = .ok (.getfield 27, 3) := by decide +kernel
theorem dX2_become_59 : decode cX2_become 59 = .ok (.aload_n 0, 1) := by decide +kernel
theorem dX2_become_60 : decode cX2_become 60 = .ok (.getfield 27, 3) := by decide +kernel
theorem dX2_become_63 : decode cX2_become 63 = .ok (.invokestatic 30, 3) := by decide +kernel
theorem dX2_become_66 : decode cX2_become 66 = .ok (.aload_n 0, 1) := by decide +kernel
theorem dX2_become_67 : decode cX2_become 67 = .ok (.aload_n 1, 1) := by decide +kernel
theorem dX2_become_68 : decode cX2_become 68 = .ok (.getfield 34, 3) := by decide +kernel
theorem dX2_become_71 : decode cX2_become 71 = .ok (.putfield 34, 3) := by decide +kernel
theorem dX2_become_74 : decode cX2_become 74 = .ok (.aload_n 0, 1) := by decide +kernel
theorem dX2_become_75 : decode cX2_become 75 = .ok (.aload_n 1, 1) := by decide +kernel
theorem dX2_become_76 : decode cX2_become 76 = .ok (.getfield 38, 3) := by decide +kernel
theorem dX2_become_79 : decode cX2_become 79 = .ok (.putfield 38, 3) := by decide +kernel
theorem dX2_become_82 : decode cX2_become 82 = .ok (.aload_n 0, 1) := by decide +kernel
theorem dX2_become_83 : decode cX2_become 83 = .ok (.aload_n 1, 1) := by decide +kernel
theorem dX2_become_84 : decode cX2_become 84 = .ok (.getfield 41, 3) := by decide +kernel
theorem dX2_become_87 : decode cX2_become 87 = .ok (.putfield 41, 3) := by decide +kernel
theorem dX2_become_90 : decode cX2_become 90 = .ok (.aload_n 0, 1) := by decide +kernel
theorem dX2_become_91 : decode cX2_become 91 = .ok (.aload_n 1, 1) := by decide +kernel
theorem dX2_become_92 : decode cX2_become 92 = .ok (.getfield 44, 3) := by decide +kernel
theorem dX2_become_95 : decode cX2_become 95 = .ok (.putfield 44, 3) := by decide +kernel
theorem dX2_become_98 : decode cX2_become 98 = .ok (.aload_n 0, 1) := by decide +kernel
theorem dX2_become_99 : decode cX2_become 99 = .ok (.aload_n 1, 1) := by decide +kernel
theorem dX2_become_100 : decode cX2_become 100 = .ok (.getfield 47, 3) := by decide +kernel
theorem dX2_become_103 : decode cX2_become 103 = .ok (.putfield 47, 3) := by decide +kernel
theorem dX2_become_106 : decode cX2_become 106 = .ok (.aload_n 0, 1) := by decide +kernel
theorem dX2_become_107 : decode cX2_become 107 = .ok (.aload_n 1, 1) := by decide +kernel
theorem dX2_become_108 : decode cX2_become 108 = .ok (.getfield 50, 3) := by decide +kernel
theorem dX2_become_111 : decode cX2_become 111 = .ok (.putfield 50, 3) := by decide +kernel
theorem dX2_become_114 : decode cX2_become 114 = .ok (.aload_n 0, 1) := by decide +kernel
theorem dX2_become_115 : decode cX2_become 115 = .ok (.aload_n 1, 1) := by decide +kernel
theorem dX2_become_116 : decode cX2_become 116 = .ok (.getfield 53, 3) := by decide +kernel
theorem dX2_become_119 : decode cX2_become 119 = .ok (.putfield 53, 3) := by decide +kernel
theorem dX2_become_122 : decode cX2_become 122 = .ok (.return_, 1) := by decide +kernel
theorem dX2_indexOf_0 : decode cX2_indexOf 0 = .ok (.iload_n 0, 1) := by decide +kernel
theorem dX2_indexOf_1 : decode cX2_indexOf 1 = .ok (.ifCond .ne 12, 3) := by decide +kernel
theorem dX2_indexOf_4 : decode cX2_indexOf 4 = .ok (.iload_n 1, 1) := by decide +kernel
theorem dX2_indexOf_5 : decode cX2_indexOf 5 = .ok (.iload_n 2, 1) := by decide +kernel
theorem dX2_indexOf_6 : decode cX2_indexOf 6 = .ok (.isub, 1) := by decide +kernel
theorem dX2_indexOf_7 : decode cX2_indexOf 7 = .ok (.bipush 12, 2) := by decide +kernel
theorem dX2_indexOf_9 : decode cX2_indexOf 9 = .ok (.invokestatic 56, 3) := by decide +kernel
theorem dX2_indexOf_12 : decode cX2_indexOf 12 = .ok (.ireturn, 1) := by decide +kernel
theorem dX2_indexOf_13 : decode cX2_indexOf 13 = .ok (.bipush 12, 2) := by decide +kernel
theorem dX2_indexOf_15 : decode cX2_indexOf 15 = .ok (.iload_n 1, 1) := by decide +kernel
theorem dX2_indexOf_16 : decode cX2_indexOf 16 = .ok (.iload_n 2, 1) := by decide +kernel
theorem dX2_indexOf_17 : decode cX2_indexOf 17 = .ok (.iadd, 1) := by decide +kernel
theorem dX2_indexOf_18 : decode cX2_indexOf 18 = .ok (.bipush 12, 2) := by decide +kernel
theorem dX2_indexOf_20 : decode cX2_indexOf 20 = .ok (.invokestatic 56, 3) := by decide +kernel
theorem dX2_indexOf_23 : decode cX2_indexOf 23 = .ok (.iadd, 1) := by decide +kernel
theorem dX2_indexOf_24 : decode cX2_indexOf 24 = .ok (.ireturn, 1) := by decide +kernel
theorem dX2_firstIndexOf_0 : decode cX2_firstIndexOf 0 = .ok (.iload_n 0, 1) := by decide +kernel
theorem dX2_firstIndexOf_1 : decode cX2_firstIndexOf 1 = .ok (.ifCond .ne 7, 3) := by decide +kernel
theorem dX2_firstIndexOf_4 : decode cX2_firstIndexOf 4 = .ok (.iconst 0, 1) := by decide +kernel
theorem dX2_firstIndexOf_5 : decode cX2_firstIndexOf 5 = .ok (.goto 5, 3) := by decide +kernel
theorem dX2_firstIndexOf_8 : decode cX2_firstIndexOf 8 = .ok (.bipush 12, 2) := by decide +kernel
theorem dX2_firstIndexOf_10 : decode cX2_firstIndexOf 10 = .ok (.ireturn, 1) := by decide +kernel
theorem dX2_logIndexOf_0 : decode cX2_logIndexOf 0 = .ok (.iconst 3, 1) := by decide +kernel
theorem dX2_logIndexOf_1 : decode cX2_logIndexOf 1 = .ok (.iload_n 0, 1) := by decide +kernel
theorem dX2_logIndexOf_2 : decode cX2_logIndexOf 2 = .ok (.bipush 8, 2) := by decide +kernel
theorem dX2_logIndexOf_4 : decode cX2_logIndexOf 4 = .ok (.invokestatic 56, 3) := by decide +kernel
theorem dX2_logIndexOf_7 : decode cX2_logIndexOf 7 = .ok (.imul, 1) := by decide +kernel
theorem dX2_logIndexOf_8 : decode cX2_logIndexOf 8 = .ok (.ireturn, 1) := by decide +kernel
theorem dX2_sumOfDisc_0 : decode cX2_sumOfDisc 0 = .ok (.iconst 0, 1) := by decide +kernel
theorem dX2_sumOfDisc_1 : decode cX2_sumOfDisc 1 = .ok (.istore_n 2, 1) := by decide +kernel
theorem dX2_sumOfDisc_2 : decode cX2_sumOfDisc 2 = .ok (.iload_n 1, 1) := by decide +kernel
theorem dX2_sumOfDisc_3 : decode cX2_sumOfDisc 3 = .ok (.invokestatic 62, 3) := by decide +kernel
theorem dX2_sumOfDisc_6 : decode cX2_sumOfDisc 6 = .ok (.istore_n 3, 1) := by decide +kernel
theorem dX2_sumOfDisc_7 : decode cX2_sumOfDisc 7 = .ok (.iload_n 3, 1) := by decide +kernel
theorem dX2_sumOfDisc_8 : decode cX2_sumOfDisc 8 = .ok (.istore 4, 2) := by decide +kernel
theorem dX2_sumOfDisc_10 : decode cX2_sumOfDisc 10 = .ok (.iload 4, 2) := by decide +kernel
theorem dX2_sumOfDisc_12 : decode cX2_sumOfDisc 12 = .ok (.iload_n 3, 1) := by decide +kernel
theorem dX2_sumOfDisc_13 : decode cX2_sumOfDisc 13 = .ok (.bipush 12, 2) := by decide +kernel
theorem dX2_sumOfDisc_15 : decode cX2_sumOfDisc 15 = .ok (.iadd, 1) := by decide +kernel
theorem dX2_sumOfDisc_16 : decode cX2_sumOfDisc 16 = .ok (.if_icmp .ge 19, 3) := by decide +kernel
theorem dX2_sumOfDisc_19 : decode cX2_sumOfDisc 19 = .ok (.iload_n 2, 1) := by decide +kernel
theorem dX2_sumOfDisc_20 : decode cX2_sumOfDisc 20 = .ok (.aload_n 0, 1) := by decide +kernel
theorem dX2_sumOfDisc_21 : decode cX2_sumOfDisc 21 = .ok (.getfield 15, 3) := by decide +kernel
theorem dX2_sumOfDisc_24 : decode cX2_sumOfDisc 24 = .ok (.iload 4, 2) := by decide +kernel
theorem dX2_sumOfDisc_26 : decode cX2_sumOfDisc 26 = .ok (.iaload, 1) := by decide +kernel
theorem dX2_sumOfDisc_27 : decode cX2_sumOfDisc 27 = .ok (.iadd, 1) := by decide +kernel
theorem dX2_sumOfDisc_28 : decode cX2_sumOfDisc 28 = .ok (.istore_n 2, 1) := by decide +kernel
theorem dX2_sumOfDisc_29 : decode cX2_sumOfDisc 29 = .ok (.iinc 4 1, 3) := by decide +kernel
theorem dX2_sumOfDisc_32 : decode cX2_sumOfDisc 32 = .ok (.goto (-22), 3) := by decide +kernel
theorem dX2_sumOfDisc_35 : decode cX2_sumOfDisc 35 = .ok (.iload_n 2, 1) := by decide +kernel
theorem dX2_sumOfDisc_36 : decode cX2_sumOfDisc 36 = .ok (.ireturn, 1) := by decide +kernel
theorem dX2_sectorsWithSign_0 : decode cX2_sectorsWithSign 0 = .ok (.iconst 0, 1) := by decide +kernel
theorem dX2_sectorsWithSign_1 : decode cX2_sectorsWithSign 1 = .ok (.istore_n 3, 1) := by decide +kernel
theorem dX2_sectorsWithSign_2 : decode cX2_sectorsWithSign 2 = .ok (.iload_n 1, 1) := by decide +kernel
theorem dX2_sectorsWithSign_3 : decode cX2_sectorsWithSign 3 = .ok (.invokestatic 62, 3) := by decide +kernel
theorem dX2_sectorsWithSign_6 : decode cX2_sectorsWithSign 6 = .ok (.istore 4, 2) := by decide +kernel
theorem dX2_sectorsWithSign_8 : decode cX2_sectorsWithSign 8 = .ok (.iload 4, 2) := by decide +kernel
theorem dX2_sectorsWithSign_10 : decode cX2_sectorsWithSign 10 = .ok (.istore 5, 2) := by decide +kernel
theorem dX2_sectorsWithSign_12 : decode cX2_sectorsWithSign 12 = .ok (.iload 5, 2) := by decide +kernel
theorem dX2_sectorsWithSign_14 : decode cX2_sectorsWithSign 14 = .ok (.iload 4, 2) := by decide +kernel
theorem dX2_sectorsWithSign_16 : decode cX2_sectorsWithSign 16 = .ok (.bipush 12, 2) := by decide +kernel
theorem dX2_sectorsWithSign_18 : decode cX2_sectorsWithSign 18 = .ok (.iadd, 1) := by decide +kernel
theorem dX2_sectorsWithSign_19 : decode cX2_sectorsWithSign 19 = .ok (.if_icmp .ge 26, 3) := by decide +kernel
theorem dX2_sectorsWithSign_22 : decode cX2_sectorsWithSign 22 = .ok (.aload_n 0, 1) := by decide +kernel
theorem dX2_sectorsWithSign_23 : decode cX2_sectorsWithSign 23 = .ok (.getfield 15, 3) := by decide +kernel
theorem dX2_sectorsWithSign_26 : decode cX2_sectorsWithSign 26 = .ok (.iload 5, 2) := by decide +kernel
theorem dX2_sectorsWithSign_28 : decode cX2_sectorsWithSign 28 = .ok (.iaload, 1) := by decide +kernel
theorem dX2_sectorsWithSign_29 : decode cX2_sectorsWithSign 29 = .ok (.invokestatic 66, 3) := by decide +kernel
theorem dX2_sectorsWithSign_32 : decode cX2_sectorsWithSign 32 = .ok (.iload_n 2, 1) := by decide +kernel
theorem dX2_sectorsWithSign_33 : decode cX2_sectorsWithSign 33 = .ok (.if_icmp .ne 6, 3) := by decide +kernel
theorem dX2_sectorsWithSign_36 : decode cX2_sectorsWithSign 36 = .ok (.iinc 3 1, 3) := by decide +kernel
theorem dX2_sectorsWithSign_39 : decode cX2_sectorsWithSign 39 = .ok (.iinc 5 1, 3) := by decide +kernel
theorem dX2_sectorsWithSign_42 : decode cX2_sectorsWithSign 42 = .ok (.goto (-30), 3) := by decide +kernel
theorem dX2_sectorsWithSign_45 : decode cX2_sectorsWithSign 45 = .ok (.iload_n 3, 1) := by decide +kernel
theorem dX2_sectorsWithSign_46 : decode cX2_sectorsWithSign 46 = .ok (.ireturn, 1) := by decide +kernel
theorem dX2_greatestOfDisc_0 : decode cX2_greatestOfDisc 0 = .ok (.bipush (-99), 2) := by decide +kernel
theorem dX2_greatestOfDisc_2 : decode cX2_greatestOfDisc 2 = .ok (.istore_n 2, 1) := by decide +kernel
theorem dX2_greatestOfDisc_3 : decode cX2_greatestOfDisc 3 = .ok (.iload_n 1, 1) := by decide +kernel
theorem dX2_greatestOfDisc_4 : decode cX2_greatestOfDisc 4 = .ok (.invokestatic 62, 3) := by decide +kernel
theorem dX2_greatestOfDisc_7 : decode cX2_greatestOfDisc 7 = .ok (.istore_n 3, 1) := by decide +kernel
theorem dX2_greatestOfDisc_8 : decode cX2_greatestOfDisc 8 = .ok (.iload_n 3, 1) := by decide +kernel
theorem dX2_greatestOfDisc_9 : decode cX2_greatestOfDisc 9 = .ok (.istore 4, 2) := by decide +kernel
theorem dX2_greatestOfDisc_11 : decode cX2_greatestOfDisc 11 = .ok (.iload 4, 2) := by decide +kernel
theorem dX2_greatestOfDisc_13 : decode cX2_greatestOfDisc 13 = .ok (.iload_n 3, 1) := by decide +kernel
theorem dX2_greatestOfDisc_14 : decode cX2_greatestOfDisc 14 = .ok (.bipush 12, 2) := by decide +kernel
theorem dX2_greatestOfDisc_16 : decode cX2_greatestOfDisc 16 = .ok (.iadd, 1) := by decide +kernel
theorem dX2_greatestOfDisc_17 : decode cX2_greatestOfDisc 17 = .ok (.if_icmp .ge 21, 3) := by decide +kernel
theorem dX2_greatestOfDisc_20 : decode cX2_greatestOfDisc 20 = .ok (.iload_n 2, 1) := by decide +kernel
theorem dX2_greatestOfDisc_21 : decode cX2_greatestOfDisc 21 = .ok (.aload_n 0, 1) := by decide +kernel
theorem dX2_greatestOfDisc_22 : decode cX2_greatestOfDisc 22 = .ok (.getfield 15, 3) := by decide +kernel
theorem dX2_greatestOfDisc_25 : decode cX2_greatestOfDisc 25 = .ok (.iload 4, 2) := by decide +kernel
theorem dX2_greatestOfDisc_27 : decode cX2_greatestOfDisc 27 = .ok (.iaload, 1) := by decide +kernel
theorem dX2_greatestOfDisc_28 : decode cX2_greatestOfDisc 28 = .ok (.invokestatic 71, 3) := by decide +kernel
theorem dX2_greatestOfDisc_31 : decode cX2_greatestOfDisc 31 = .ok (.istore_n 2, 1) := by decide +kernel
theorem dX2_greatestOfDisc_32 : decode cX2_greatestOfDisc 32 = .ok (.iinc 4 1, 3) := by decide +kernel
theorem dX2_greatestOfDisc_35 : decode cX2_greatestOfDisc 35 = .ok (.goto (-24), 3) := by decide +kernel
theorem dX2_greatestOfDisc_38 : decode cX2_greatestOfDisc 38 = .ok (.iload_n 2, 1) := by decide +kernel
theorem dX2_greatestOfDisc_39 : decode cX2_greatestOfDisc 39 = .ok (.ireturn, 1) := by decide +kernel
theorem dX2_leastOfDisc_0 : decode cX2_leastOfDisc 0 = .ok (.bipush 99, 2) := by decide +kernel
theorem dX2_leastOfDisc_2 : decode cX2_leastOfDisc 2 = .ok (.istore_n 2, 1) := by decide +kernel
theorem dX2_leastOfDisc_3 : decode cX2_leastOfDisc 3 = .ok (.iload_n 1, 1) := by decide +kernel
theorem dX2_leastOfDisc_4 : decode cX2_leastOfDisc 4 = .ok (.invokestatic 62, 3) := by decide +kernel
theorem dX2_leastOfDisc_7 : decode cX2_leastOfDisc 7 = .ok (.istore_n 3, 1) := by decide +kernel
theorem dX2_leastOfDisc_8 : decode cX2_leastOfDisc 8 = .ok (.iload_n 3, 1) := by decide +kernel
theorem dX2_leastOfDisc_9 : decode cX2_leastOfDisc 9 = .ok (.istore 4, 2) := by decide +kernel
theorem dX2_leastOfDisc_11 : decode cX2_leastOfDisc 11 = .ok (.iload 4, 2) := by decide +kernel
theorem dX2_leastOfDisc_13 : decode cX2_leastOfDisc 13 = .ok (.iload_n 3, 1) := by decide +kernel
theorem dX2_leastOfDisc_14 : decode cX2_leastOfDisc 14 = .ok (.bipush 12, 2) := by decide +kernel
theorem dX2_leastOfDisc_16 : decode cX2_leastOfDisc 16 = .ok (.iadd, 1) := by decide +kernel
theorem dX2_leastOfDisc_17 : decode cX2_leastOfDisc 17 = .ok (.if_icmp .ge 21, 3) := by decide +kernel
theorem dX2_leastOfDisc_20 : decode cX2_leastOfDisc 20 = .ok (.iload_n 2, 1) := by decide +kernel
theorem dX2_leastOfDisc_21 : decode cX2_leastOfDisc 21 = .ok (.aload_n 0, 1) := by decide +kernel
theorem dX2_leastOfDisc_22 : decode cX2_leastOfDisc 22 = .ok (.getfield 15, 3) := by decide +kernel
theorem dX2_leastOfDisc_25 : decode cX2_leastOfDisc 25 = .ok (.iload 4, 2) := by decide +kernel
theorem dX2_leastOfDisc_27 : decode cX2_leastOfDisc 27 = .ok (.iaload, 1) := by decide +kernel
theorem dX2_leastOfDisc_28 : decode cX2_leastOfDisc 28 = .ok (.invokestatic 74, 3) := by decide +kernel
theorem dX2_leastOfDisc_31 : decode cX2_leastOfDisc 31 = .ok (.istore_n 2, 1) := by decide +kernel
theorem dX2_leastOfDisc_32 : decode cX2_leastOfDisc 32 = .ok (.iinc 4 1, 3) := by decide +kernel
theorem dX2_leastOfDisc_35 : decode cX2_leastOfDisc 35 = .ok (.goto (-24), 3) := by decide +kernel
theorem dX2_leastOfDisc_38 : decode cX2_leastOfDisc 38 = .ok (.iload_n 2, 1) := by decide +kernel
theorem dX2_leastOfDisc_39 : decode cX2_leastOfDisc 39 = .ok (.ireturn, 1) := by decide +kernel
theorem dX2_chargeOfAll_0 : decode cX2_chargeOfAll 0 = .ok (.aload_n 0, 1) := by decide +kernel
theorem dX2_chargeOfAll_1 : decode cX2_chargeOfAll 1 = .ok (.iconst 0, 1) := by decide +kernel
theorem dX2_chargeOfAll_2 : decode cX2_chargeOfAll 2 = .ok (.invokevirtual 77, 3) := by decide +kernel
theorem dX2_chargeOfAll_5 : decode cX2_chargeOfAll 5 = .ok (.aload_n 0, 1) := by decide +kernel
theorem dX2_chargeOfAll_6 : decode cX2_chargeOfAll 6 = .ok (.iconst 1, 1) := by decide +kernel
theorem dX2_chargeOfAll_7 : decode cX2_chargeOfAll 7 = .ok (.invokevirtual 77, 3) := by decide +kernel
theorem dX2_chargeOfAll_10 : decode cX2_chargeOfAll 10 = .ok (.iadd, 1) := by decide +kernel
theorem dX2_chargeOfAll_11 : decode cX2_chargeOfAll 11 = .ok (.aload_n 0, 1) := by decide +kernel
theorem dX2_chargeOfAll_12 : decode cX2_chargeOfAll 12 = .ok (.getfield 18, 3) := by decide +kernel
theorem dX2_chargeOfAll_15 : decode cX2_chargeOfAll 15 = .ok (.iconst 0, 1) := by decide +kernel
theorem dX2_chargeOfAll_16 : decode cX2_chargeOfAll 16 = .ok (.iaload, 1) := by decide +kernel
theorem dX2_chargeOfAll_17 : decode cX2_chargeOfAll 17 = .ok (.iadd, 1) := by decide +kernel
theorem dX2_chargeOfAll_18 : decode cX2_chargeOfAll 18 = .ok (.aload_n 0, 1) := by decide +kernel
theorem dX2_chargeOfAll_19 : decode cX2_chargeOfAll 19 = .ok (.getfield 18, 3) := by decide +kernel
theorem dX2_chargeOfAll_22 : decode cX2_chargeOfAll 22 = .ok (.iconst 1, 1) := by decide +kernel
theorem dX2_chargeOfAll_23 : decode cX2_chargeOfAll 23 = .ok (.iaload, 1) := by decide +kernel
theorem dX2_chargeOfAll_24 : decode cX2_chargeOfAll 24 = .ok (.iadd, 1) := by decide +kernel
theorem dX2_chargeOfAll_25 : decode cX2_chargeOfAll 25 = .ok (.ireturn, 1) := by decide +kernel
theorem dX2_fullestJar_0 : decode cX2_fullestJar 0 = .ok (.aload_n 0, 1) := by decide +kernel
theorem dX2_fullestJar_1 : decode cX2_fullestJar 1 = .ok (.getfield 18, 3) := by decide +kernel
theorem dX2_fullestJar_4 : decode cX2_fullestJar 4 = .ok (.iconst 0, 1) := by decide +kernel
theorem dX2_fullestJar_5 : decode cX2_fullestJar 5 = .ok (.iaload, 1) := by decide +kernel
theorem dX2_fullestJar_6 : decode cX2_fullestJar 6 = .ok (.invokestatic 80, 3) := by decide +kernel
theorem dX2_fullestJar_9 : decode cX2_fullestJar 9 = .ok (.aload_n 0, 1) := by decide +kernel
theorem dX2_fullestJar_10 : decode cX2_fullestJar 10 = .ok (.getfield 18, 3) := by decide +kernel
theorem dX2_fullestJar_13 : decode cX2_fullestJar 13 = .ok (.iconst 1, 1) := by decide +kernel
theorem dX2_fullestJar_14 : decode cX2_fullestJar 14 = .ok (.iaload, 1) := by decide +kernel
theorem dX2_fullestJar_15 : decode cX2_fullestJar 15 = .ok (.invokestatic 80, 3) := by decide +kernel
theorem dX2_fullestJar_18 : decode cX2_fullestJar 18 = .ok (.invokestatic 71, 3) := by decide +kernel
theorem dX2_fullestJar_21 : decode cX2_fullestJar 21 = .ok (.ireturn, 1) := by decide +kernel
theorem dX2_difference_0 : decode cX2_difference 0 = .ok (.aload_n 0, 1) := by decide +kernel
theorem dX2_difference_1 : decode cX2_difference 1 = .ok (.getfield 18, 3) := by decide +kernel
theorem dX2_difference_4 : decode cX2_difference 4 = .ok (.iconst 0, 1) := by decide +kernel
theorem dX2_difference_5 : decode cX2_difference 5 = .ok (.iaload, 1) := by decide +kernel
theorem dX2_difference_6 : decode cX2_difference 6 = .ok (.aload_n 0, 1) := by decide +kernel
theorem dX2_difference_7 : decode cX2_difference 7 = .ok (.getfield 18, 3) := by decide +kernel
theorem dX2_difference_10 : decode cX2_difference 10 = .ok (.iconst 1, 1) := by decide +kernel
theorem dX2_difference_11 : decode cX2_difference 11 = .ok (.iaload, 1) := by decide +kernel
theorem dX2_difference_12 : decode cX2_difference 12 = .ok (.isub, 1) := by decide +kernel
theorem dX2_difference_13 : decode cX2_difference 13 = .ok (.invokestatic 80, 3) := by decide +kernel
theorem dX2_difference_16 : decode cX2_difference 16 = .ok (.ireturn, 1) := by decide +kernel
theorem dX2_sign_0 : decode cX2_sign 0 = .ok (.aload_n 0, 1) := by decide +kernel
theorem dX2_sign_1 : decode cX2_sign 1 = .ok (.getfield 18, 3) := by decide +kernel
theorem dX2_sign_4 : decode cX2_sign 4 = .ok (.iconst 0, 1) := by decide +kernel
theorem dX2_sign_5 : decode cX2_sign 5 = .ok (.iaload, 1) := by decide +kernel
theorem dX2_sign_6 : decode cX2_sign 6 = .ok (.aload_n 0, 1) := by decide +kernel
theorem dX2_sign_7 : decode cX2_sign 7 = .ok (.getfield 18, 3) := by decide +kernel
theorem dX2_sign_10 : decode cX2_sign 10 = .ok (.iconst 1, 1) := by decide +kernel
theorem dX2_sign_11 : decode cX2_sign 11 = .ok (.iaload, 1) := by decide +kernel
theorem dX2_sign_12 : decode cX2_sign 12 = .ok (.isub, 1) := by decide +kernel
theorem dX2_sign_13 : decode cX2_sign 13 = .ok (.invokestatic 66, 3) := by decide +kernel
theorem dX2_sign_16 : decode cX2_sign 16 = .ok (.ireturn, 1) := by decide +kernel
theorem dX2_hasTurnsLeft_0 : decode cX2_hasTurnsLeft 0 = .ok (.aload_n 0, 1) := by decide +kernel
theorem dX2_hasTurnsLeft_1 : decode cX2_hasTurnsLeft 1 = .ok (.getfield 34, 3) := by decide +kernel
theorem dX2_hasTurnsLeft_4 : decode cX2_hasTurnsLeft 4 = .ok (.iload_n 1, 1) := by decide +kernel
theorem dX2_hasTurnsLeft_5 : decode cX2_hasTurnsLeft 5 = .ok (.iadd, 1) := by decide +kernel
theorem dX2_hasTurnsLeft_6 : decode cX2_hasTurnsLeft 6 = .ok (.ldc 83, 2) := by decide +kernel
theorem dX2_hasTurnsLeft_8 : decode cX2_hasTurnsLeft 8 = .ok (.if_icmp .gt 7, 3) := by decide +kernel
theorem dX2_hasTurnsLeft_11 : decode cX2_hasTurnsLeft 11 = .ok (.iconst 1, 1) := by decide +kernel
theorem dX2_hasTurnsLeft_12 : decode cX2_hasTurnsLeft 12 = .ok (.goto 4, 3) := by decide +kernel
theorem dX2_hasTurnsLeft_15 : decode cX2_hasTurnsLeft 15 = .ok (.iconst 0, 1) := by decide +kernel
theorem dX2_hasTurnsLeft_16 : decode cX2_hasTurnsLeft 16 = .ok (.ireturn, 1) := by decide +kernel
theorem dX2_putCharge_0 : decode cX2_putCharge 0 = .ok (.iload_n 1, 1) := by decide +kernel
theorem dX2_putCharge_1 : decode cX2_putCharge 1 = .ok (.iload_n 2, 1) := by decide +kernel
theorem dX2_putCharge_2 : decode cX2_putCharge 2 = .ok (.aload_n 0, 1) := by decide +kernel
theorem dX2_putCharge_3 : decode cX2_putCharge 3 = .ok (.getfield 34, 3) := by decide +kernel
theorem dX2_putCharge_6 : decode cX2_putCharge 6 = .ok (.invokestatic 84, 3) := by decide +kernel
theorem dX2_putCharge_9 : decode cX2_putCharge 9 = .ok (.istore 4, 2) := by decide +kernel
theorem dX2_putCharge_11 : decode cX2_putCharge 11 = .ok (.aload_n 0, 1) := by decide +kernel
theorem dX2_putCharge_12 : decode cX2_putCharge 12 = .ok (.getfield 15, 3) := by decide +kernel
theorem dX2_putCharge_15 : decode cX2_putCharge 15 = .ok (.iload 4, 2) := by decide +kernel
theorem dX2_putCharge_17 : decode cX2_putCharge 17 = .ok (.iaload, 1) := by decide +kernel
theorem dX2_putCharge_18 : decode cX2_putCharge 18 = .ok (.istore 5, 2) := by decide +kernel
theorem dX2_putCharge_20 : decode cX2_putCharge 20 = .ok (.aload_n 0, 1) := by decide +kernel
theorem dX2_putCharge_21 : decode cX2_putCharge 21 = .ok (.getfield 15, 3) := by decide +kernel
theorem dX2_putCharge_24 : decode cX2_putCharge 24 = .ok (.iload 4, 2) := by decide +kernel
theorem dX2_putCharge_26 : decode cX2_putCharge 26 = .ok (.iload_n 3, 1) := by decide +kernel
theorem dX2_putCharge_27 : decode cX2_putCharge 27 = .ok (.iastore, 1) := by decide +kernel
theorem dX2_putCharge_28 : decode cX2_putCharge 28 = .ok (.aload_n 0, 1) := by decide +kernel
theorem dX2_putCharge_29 : decode cX2_putCharge 29 = .ok (.dup, 1) := by decide +kernel
theorem dX2_putCharge_30 : decode cX2_putCharge 30 = .ok (.getfield 50, 3) := by decide +kernel
theorem dX2_putCharge_33 : decode cX2_putCharge 33 = .ok (.iload_n 3, 1) := by decide +kernel
theorem dX2_putCharge_34 : decode cX2_putCharge 34 = .ok (.iload 5, 2) := by decide +kernel
theorem dX2_putCharge_36 : decode cX2_putCharge 36 = .ok (.isub, 1) := by decide +kernel
theorem dX2_putCharge_37 : decode cX2_putCharge 37 = .ok (.iadd, 1) := by decide +kernel
theorem dX2_putCharge_38 : decode cX2_putCharge 38 = .ok (.putfield 50, 3) := by decide +kernel
theorem dX2_putCharge_41 : decode cX2_putCharge 41 = .ok (.iload 5, 2) := by decide +kernel
theorem dX2_putCharge_43 : decode cX2_putCharge 43 = .ok (.ireturn, 1) := by decide +kernel
theorem dX2_emptyJars_0 : decode cX2_emptyJars 0 = .ok (.aload_n 0, 1) := by decide +kernel
theorem dX2_emptyJars_1 : decode cX2_emptyJars 1 = .ok (.invokevirtual 88, 3) := by decide +kernel
theorem dX2_emptyJars_4 : decode cX2_emptyJars 4 = .ok (.istore_n 1, 1) := by decide +kernel
theorem dX2_emptyJars_5 : decode cX2_emptyJars 5 = .ok (.aload_n 0, 1) := by decide +kernel
theorem dX2_emptyJars_6 : decode cX2_emptyJars 6 = .ok (.dup, 1) := by decide +kernel
theorem dX2_emptyJars_7 : decode cX2_emptyJars 7 = .ok (.getfield 53, 3) := by decide +kernel
theorem dX2_emptyJars_10 : decode cX2_emptyJars 10 = .ok (.aload_n 0, 1) := by decide +kernel
theorem dX2_emptyJars_11 : decode cX2_emptyJars 11 = .ok (.getfield 18, 3) := by decide +kernel
theorem dX2_emptyJars_14 : decode cX2_emptyJars 14 = .ok (.iconst 0, 1) := by decide +kernel
theorem dX2_emptyJars_15 : decode cX2_emptyJars 15 = .ok (.iaload, 1) := by decide +kernel
theorem dX2_emptyJars_16 : decode cX2_emptyJars 16 = .ok (.aload_n 0, 1) := by decide +kernel
theorem dX2_emptyJars_17 : decode cX2_emptyJars 17 = .ok (.getfield 18, 3) := by decide +kernel
theorem dX2_emptyJars_20 : decode cX2_emptyJars 20 = .ok (.iconst 1, 1) := by decide +kernel
theorem dX2_emptyJars_21 : decode cX2_emptyJars 21 = .ok (.iaload, 1) := by decide +kernel
theorem dX2_emptyJars_22 : decode cX2_emptyJars 22 = .ok (.iadd, 1) := by decide +kernel
theorem dX2_emptyJars_23 : decode cX2_emptyJars 23 = .ok (.iadd, 1) := by decide +kernel
theorem dX2_emptyJars_24 : decode cX2_emptyJars 24 = .ok (.putfield 53, 3) := by decide +kernel
theorem dX2_emptyJars_27 : decode cX2_emptyJars 27 = .ok (.aload_n 0, 1) := by decide +kernel
theorem dX2_emptyJars_28 : decode cX2_emptyJars 28 = .ok (.getfield 18, 3) := by decide +kernel
theorem dX2_emptyJars_31 : decode cX2_emptyJars 31 = .ok (.iconst 0, 1) := by decide +kernel
theorem dX2_emptyJars_32 : decode cX2_emptyJars 32 = .ok (.iconst 0, 1) := by decide +kernel
theorem dX2_emptyJars_33 : decode cX2_emptyJars 33 = .ok (.iastore, 1) := by decide +kernel
theorem dX2_emptyJars_34 : decode cX2_emptyJars 34 = .ok (.aload_n 0, 1) := by decide +kernel
theorem dX2_emptyJars_35 : decode cX2_emptyJars 35 = .ok (.getfield 18, 3) := by decide +kernel
theorem dX2_emptyJars_38 : decode cX2_emptyJars 38 = .ok (.iconst 1, 1) := by decide +kernel
theorem dX2_emptyJars_39 : decode cX2_emptyJars 39 = .ok (.iconst 0, 1) := by decide +kernel
theorem dX2_emptyJars_40 : decode cX2_emptyJars 40 = .ok (.iastore, 1) := by decide +kernel
theorem dX2_emptyJars_41 : decode cX2_emptyJars 41 = .ok (.iload_n 1, 1) := by decide +kernel
theorem dX2_emptyJars_42 : decode cX2_emptyJars 42 = .ok (.ireturn, 1) := by decide +kernel
theorem dX2_emptySectors_0 : decode cX2_emptySectors 0 = .ok (.aload_n 0, 1) := by decide +kernel
theorem dX2_emptySectors_1 : decode cX2_emptySectors 1 = .ok (.iload_n 1, 1) := by decide +kernel
theorem dX2_emptySectors_2 : decode cX2_emptySectors 2 = .ok (.iconst 1, 1) := by decide +kernel
theorem dX2_emptySectors_3 : decode cX2_emptySectors 3 = .ok (.invokevirtual 92, 3) := by decide +kernel
theorem dX2_emptySectors_6 : decode cX2_emptySectors 6 = .ok (.aload_n 0, 1) := by decide +kernel
theorem dX2_emptySectors_7 : decode cX2_emptySectors 7 = .ok (.iload_n 1, 1) := by decide +kernel
theorem dX2_emptySectors_8 : decode cX2_emptySectors 8 = .ok (.iconst (-1), 1) := by decide +kernel
theorem dX2_emptySectors_9 : decode cX2_emptySectors 9 = .ok (.invokevirtual 92, 3) := by decide +kernel
theorem dX2_emptySectors_12 : decode cX2_emptySectors 12 = .ok (.iadd, 1) := by decide +kernel
theorem dX2_emptySectors_13 : decode cX2_emptySectors 13 = .ok (.istore_n 2, 1) := by decide +kernel
theorem dX2_emptySectors_14 : decode cX2_emptySectors 14 = .ok (.aload_n 0, 1) := by decide +kernel
theorem dX2_emptySectors_15 : decode cX2_emptySectors 15 = .ok (.dup, 1) := by decide +kernel
theorem dX2_emptySectors_16 : decode cX2_emptySectors 16 = .ok (.getfield 53, 3) := by decide +kernel
theorem dX2_emptySectors_19 : decode cX2_emptySectors 19 = .ok (.aload_n 0, 1) := by decide +kernel
theorem dX2_emptySectors_20 : decode cX2_emptySectors 20 = .ok (.iload_n 1, 1) := by decide +kernel
theorem dX2_emptySectors_21 : decode cX2_emptySectors 21 = .ok (.invokevirtual 77, 3) := by decide +kernel
theorem dX2_emptySectors_24 : decode cX2_emptySectors 24 = .ok (.iadd, 1) := by decide +kernel
theorem dX2_emptySectors_25 : decode cX2_emptySectors 25 = .ok (.putfield 53, 3) := by decide +kernel
theorem dX2_emptySectors_28 : decode cX2_emptySectors 28 = .ok (.iload_n 1, 1) := by decide +kernel
theorem dX2_emptySectors_29 : decode cX2_emptySectors 29 = .ok (.invokestatic 62, 3) := by decide +kernel
theorem dX2_emptySectors_32 : decode cX2_emptySectors 32 = .ok (.istore_n 3, 1) := by decide +kernel
theorem dX2_emptySectors_33 : decode cX2_emptySectors 33 = .ok (.iload_n 3, 1) := by decide +kernel
theorem dX2_emptySectors_34 : decode cX2_emptySectors 34 = .ok (.istore 4, 2) := by decide +kernel
theorem dX2_emptySectors_36 : decode cX2_emptySectors 36 = .ok (.iload 4, 2) := by decide +kernel
theorem dX2_emptySectors_38 : decode cX2_emptySectors 38 = .ok (.iload_n 3, 1) := by decide +kernel
theorem dX2_emptySectors_39 : decode cX2_emptySectors 39 = .ok (.bipush 12, 2) := by decide +kernel
theorem dX2_emptySectors_41 : decode cX2_emptySectors 41 = .ok (.iadd, 1) := by decide +kernel
theorem dX2_emptySectors_42 : decode cX2_emptySectors 42 = .ok (.if_icmp .ge 17, 3) := by decide +kernel
theorem dX2_emptySectors_45 : decode cX2_emptySectors 45 = .ok (.aload_n 0, 1) := by decide +kernel
theorem dX2_emptySectors_46 : decode cX2_emptySectors 46 = .ok (.getfield 15, 3) := by decide +kernel
theorem dX2_emptySectors_49 : decode cX2_emptySectors 49 = .ok (.iload 4, 2) := by decide +kernel
theorem dX2_emptySectors_51 : decode cX2_emptySectors 51 = .ok (.iconst 0, 1) := by decide +kernel
theorem dX2_emptySectors_52 : decode cX2_emptySectors 52 = .ok (.iastore, 1) := by decide +kernel
theorem dX2_emptySectors_53 : decode cX2_emptySectors 53 = .ok (.iinc 4 1, 3) := by decide +kernel
theorem dX2_emptySectors_56 : decode cX2_emptySectors 56 = .ok (.goto (-20), 3) := by decide +kernel
theorem dX2_emptySectors_59 : decode cX2_emptySectors 59 = .ok (.iload_n 2, 1) := by decide +kernel
theorem dX2_emptySectors_60 : decode cX2_emptySectors 60 = .ok (.ireturn, 1) := by decide +kernel
theorem dX2_turnHandle_0 : decode cX2_turnHandle 0 = .ok (.aload_n 0, 1) := by decide +kernel
theorem dX2_turnHandle_1 : decode cX2_turnHandle 1 = .ok (.getfield 38, 3) := by decide +kernel
theorem dX2_turnHandle_4 : decode cX2_turnHandle 4 = .ok (.istore_n 2, 1) := by decide +kernel
theorem dX2_turnHandle_5 : decode cX2_turnHandle 5 = .ok (.iconst 0, 1) := by decide +kernel
theorem dX2_turnHandle_6 : decode cX2_turnHandle 6 = .ok (.istore_n 3, 1) := by decide +kernel
theorem dX2_turnHandle_7 : decode cX2_turnHandle 7 = .ok (.iload_n 3, 1) := by decide +kernel
theorem dX2_turnHandle_8 : decode cX2_turnHandle 8 = .ok (.iload_n 1, 1) := by decide +kernel
theorem dX2_turnHandle_9 : decode cX2_turnHandle 9 = .ok (.if_icmp .ge 13, 3) := by decide +kernel
theorem dX2_turnHandle_12 : decode cX2_turnHandle 12 = .ok (.aload_n 0, 1) := by decide +kernel
theorem dX2_turnHandle_13 : decode cX2_turnHandle 13 = .ok (.invokevirtual 95, 3) := by decide +kernel
theorem dX2_turnHandle_16 : decode cX2_turnHandle 16 = .ok (.iinc 3 1, 3) := by decide +kernel
theorem dX2_turnHandle_19 : decode cX2_turnHandle 19 = .ok (.goto (-12), 3) := by decide +kernel
theorem dX2_turnHandle_22 : decode cX2_turnHandle 22 = .ok (.aload_n 0, 1) := by decide +kernel
theorem dX2_turnHandle_23 : decode cX2_turnHandle 23 = .ok (.getfield 38, 3) := by decide +kernel
theorem dX2_turnHandle_26 : decode cX2_turnHandle 26 = .ok (.iload_n 2, 1) := by decide +kernel
theorem dX2_turnHandle_27 : decode cX2_turnHandle 27 = .ok (.isub, 1) := by decide +kernel
theorem dX2_turnHandle_28 : decode cX2_turnHandle 28 = .ok (.ireturn, 1) := by decide +kernel
theorem dX2_turnToGreatestDifference_0 : decode cX2_turnToGreatestDifference 0 = .ok (.iconst 0, 1) := by decide +kernel
theorem dX2_turnToGreatestDifference_1 : decode cX2_turnToGreatestDifference 1 = .ok (.istore_n 2, 1) := by decide +kernel
theorem dX2_turnToGreatestDifference_2 : decode cX2_turnToGreatestDifference 2 = .ok (.iconst 0, 1) := by decide +kernel
theorem dX2_turnToGreatestDifference_3 : decode cX2_turnToGreatestDifference 3 = .ok (.istore_n 3, 1) := by decide +kernel
theorem dX2_turnToGreatestDifference_4 : decode cX2_turnToGreatestDifference 4 = .ok (.iload_n 3, 1) := by decide +kernel
theorem dX2_turnToGreatestDifference_5 : decode cX2_turnToGreatestDifference 5 = .ok (.iload_n 1, 1) := by decide +kernel
theorem dX2_turnToGreatestDifference_6 : decode cX2_turnToGreatestDifference 6 = .ok (.if_icmp .ge 22, 3) := by decide +kernel
theorem dX2_turnToGreatestDifference_9 : decode cX2_turnToGreatestDifference 9 = .ok (.aload_n 0, 1) := by decide +kernel
theorem dX2_turnToGreatestDifference_10 : decode cX2_turnToGreatestDifference 10 = .ok (.invokevirtual 95, 3) := by decide +kernel
theorem dX2_turnToGreatestDifference_13 : decode cX2_turnToGreatestDifference 13 = .ok (.iload_n 2, 1) := by decide +kernel
theorem dX2_turnToGreatestDifference_14 : decode cX2_turnToGreatestDifference 14 = .ok (.aload_n 0, 1) := by decide +kernel
theorem dX2_turnToGreatestDifference_15 : decode cX2_turnToGreatestDifference 15 = .ok (.invokevirtual 88, 3) := by decide +kernel
theorem dX2_turnToGreatestDifference_18 : decode cX2_turnToGreatestDifference 18 = .ok (.invokestatic 71, 3) := by decide +kernel
theorem dX2_turnToGreatestDifference_21 : decode cX2_turnToGreatestDifference 21 = .ok (.istore_n 2, 1) := by decide +kernel
theorem dX2_turnToGreatestDifference_22 : decode cX2_turnToGreatestDifference 22 = .ok (.iinc 3 1, 3) := by decide +kernel
theorem dX2_turnToGreatestDifference_25 : decode cX2_turnToGreatestDifference 25 = .ok (.goto (-21), 3) := by decide +kernel
theorem dX2_turnToGreatestDifference_28 : decode cX2_turnToGreatestDifference 28 = .ok (.iload_n 2, 1) := by decide +kernel
theorem dX2_turnToGreatestDifference_29 : decode cX2_turnToGreatestDifference 29 = .ok (.ireturn, 1) := by decide +kernel
theorem dX2_turnToSpark_0 : decode cX2_turnToSpark 0 = .ok (.iconst 1, 1) := by decide +kernel
theorem dX2_turnToSpark_1 : decode cX2_turnToSpark 1 = .ok (.istore_n 2, 1) := by decide +kernel
theorem dX2_turnToSpark_2 : decode cX2_turnToSpark 2 = .ok (.iload_n 2, 1) := by decide +kernel
theorem dX2_turnToSpark_3 : decode cX2_turnToSpark 3 = .ok (.iload_n 1, 1) := by decide +kernel
theorem dX2_turnToSpark_4 : decode cX2_turnToSpark 4 = .ok (.if_icmp .gt 22, 3) := by decide +kernel
theorem dX2_turnToSpark_7 : decode cX2_turnToSpark 7 = .ok (.aload_n 0, 1) := by decide +kernel
theorem dX2_turnToSpark_8 : decode cX2_turnToSpark 8 = .ok (.invokevirtual 98, 3) := by decide +kernel
theorem dX2_turnToSpark_11 : decode cX2_turnToSpark 11 = .ok (.aload_n 0, 1) := by decide +kernel
theorem dX2_turnToSpark_12 : decode cX2_turnToSpark 12 = .ok (.invokevirtual 101, 3) := by decide +kernel
theorem dX2_turnToSpark_15 : decode cX2_turnToSpark 15 = .ok (.ifCond .eq 5, 3) := by decide +kernel
theorem dX2_turnToSpark_18 : decode cX2_turnToSpark 18 = .ok (.iload_n 2, 1) := by decide +kernel
theorem dX2_turnToSpark_19 : decode cX2_turnToSpark 19 = .ok (.ireturn, 1) := by decide +kernel
theorem dX2_turnToSpark_20 : decode cX2_turnToSpark 20 = .ok (.iinc 2 1, 3) := by decide +kernel
theorem dX2_turnToSpark_23 : decode cX2_turnToSpark 23 = .ok (.goto (-21), 3) := by decide +kernel
theorem dX2_turnToSpark_26 : decode cX2_turnToSpark 26 = .ok (.ldc 105, 2) := by decide +kernel
theorem dX2_turnToSpark_28 : decode cX2_turnToSpark 28 = .ok (.ireturn, 1) := by decide +kernel
theorem dX2_turnOnce_0 : decode cX2_turnOnce 0 = .ok (.aload_n 0, 1) := by decide +kernel
theorem dX2_turnOnce_1 : decode cX2_turnOnce 1 = .ok (.invokevirtual 98, 3) := by decide +kernel
theorem dX2_turnOnce_4 : decode cX2_turnOnce 4 = .ok (.aload_n 0, 1) := by decide +kernel
theorem dX2_turnOnce_5 : decode cX2_turnOnce 5 = .ok (.invokevirtual 101, 3) := by decide +kernel
theorem dX2_turnOnce_8 : decode cX2_turnOnce 8 = .ok (.ifCond .eq 7, 3) := by decide +kernel
theorem dX2_turnOnce_11 : decode cX2_turnOnce 11 = .ok (.aload_n 0, 1) := by decide +kernel
theorem dX2_turnOnce_12 : decode cX2_turnOnce 12 = .ok (.invokevirtual 106, 3) := by decide +kernel
theorem dX2_turnOnce_15 : decode cX2_turnOnce 15 = .ok (.aload_n 0, 1) := by decide +kernel
theorem dX2_turnOnce_16 : decode cX2_turnOnce 16 = .ok (.invokevirtual 109, 3) := by decide +kernel
theorem dX2_turnOnce_19 : decode cX2_turnOnce 19 = .ok (.return_, 1) := by decide +kernel
theorem dX2_turnAheadOfSpark_0 : decode cX2_turnAheadOfSpark 0 = .ok (.aload_n 0, 1) := by decide +kernel
theorem dX2_turnAheadOfSpark_1 : decode cX2_turnAheadOfSpark 1 = .ok (.dup, 1) := by decide +kernel
theorem dX2_turnAheadOfSpark_2 : decode cX2_turnAheadOfSpark 2 = .ok (.getfield 34, 3) := by decide +kernel
theorem dX2_turnAheadOfSpark_5 : decode cX2_turnAheadOfSpark 5 = .ok (.iconst 1, 1) := by decide +kernel
theorem dX2_turnAheadOfSpark_6 : decode cX2_turnAheadOfSpark 6 = .ok (.iadd, 1) := by decide +kernel
theorem dX2_turnAheadOfSpark_7 : decode cX2_turnAheadOfSpark 7 = .ok (.putfield 34, 3) := by decide +kernel
theorem dX2_turnAheadOfSpark_10 : decode cX2_turnAheadOfSpark 10 = .ok (.aload_n 0, 1) := by decide +kernel
theorem dX2_turnAheadOfSpark_11 : decode cX2_turnAheadOfSpark 11 = .ok (.iconst 0, 1) := by decide +kernel
theorem dX2_turnAheadOfSpark_12 : decode cX2_turnAheadOfSpark 12 = .ok (.iconst 2, 1) := by decide +kernel
theorem dX2_turnAheadOfSpark_13 : decode cX2_turnAheadOfSpark 13 = .ok (.bipush 8, 2) := by decide +kernel
theorem dX2_turnAheadOfSpark_15 : decode cX2_turnAheadOfSpark 15 = .ok (.invokevirtual 112, 3) := by decide +kernel
theorem dX2_turnAheadOfSpark_18 : decode cX2_turnAheadOfSpark 18 = .ok (.aload_n 0, 1) := by decide +kernel
theorem dX2_turnAheadOfSpark_19 : decode cX2_turnAheadOfSpark 19 = .ok (.iconst 1, 1) := by decide +kernel
theorem dX2_turnAheadOfSpark_20 : decode cX2_turnAheadOfSpark 20 = .ok (.iconst 4, 1) := by decide +kernel
theorem dX2_turnAheadOfSpark_21 : decode cX2_turnAheadOfSpark 21 = .ok (.bipush 10, 2) := by decide +kernel
theorem dX2_turnAheadOfSpark_23 : decode cX2_turnAheadOfSpark 23 = .ok (.invokevirtual 112, 3) := by decide +kernel
theorem dX2_turnAheadOfSpark_26 : decode cX2_turnAheadOfSpark 26 = .ok (.aload_n 0, 1) := by decide +kernel
theorem dX2_turnAheadOfSpark_27 : decode cX2_turnAheadOfSpark 27 = .ok (.iconst 0, 1) := by decide +kernel
theorem dX2_turnAheadOfSpark_28 : decode cX2_turnAheadOfSpark 28 = .ok (.iconst 0, 1) := by decide +kernel
theorem dX2_turnAheadOfSpark_29 : decode cX2_turnAheadOfSpark 29 = .ok (.invokevirtual 116, 3) := by decide +kernel
theorem dX2_turnAheadOfSpark_32 : decode cX2_turnAheadOfSpark 32 = .ok (.aload_n 0, 1) := by decide +kernel
theorem dX2_turnAheadOfSpark_33 : decode cX2_turnAheadOfSpark 33 = .ok (.iconst 1, 1) := by decide +kernel
theorem dX2_turnAheadOfSpark_34 : decode cX2_turnAheadOfSpark 34 = .ok (.bipush 6, 2) := by decide +kernel
theorem dX2_turnAheadOfSpark_36 : decode cX2_turnAheadOfSpark 36 = .ok (.invokevirtual 116, 3) := by decide +kernel
theorem dX2_turnAheadOfSpark_39 : decode cX2_turnAheadOfSpark 39 = .ok (.aload_n 0, 1) := by decide +kernel
theorem dX2_turnAheadOfSpark_40 : decode cX2_turnAheadOfSpark 40 = .ok (.invokevirtual 120, 3) := by decide +kernel
theorem dX2_turnAheadOfSpark_43 : decode cX2_turnAheadOfSpark 43 = .ok (.aload_n 0, 1) := by decide +kernel
theorem dX2_turnAheadOfSpark_44 : decode cX2_turnAheadOfSpark 44 = .ok (.iconst 0, 1) := by decide +kernel
theorem dX2_turnAheadOfSpark_45 : decode cX2_turnAheadOfSpark 45 = .ok (.invokevirtual 123, 3) := by decide +kernel
theorem dX2_turnAheadOfSpark_48 : decode cX2_turnAheadOfSpark 48 = .ok (.aload_n 0, 1) := by decide +kernel
theorem dX2_turnAheadOfSpark_49 : decode cX2_turnAheadOfSpark 49 = .ok (.iconst 1, 1) := by decide +kernel
theorem dX2_turnAheadOfSpark_50 : decode cX2_turnAheadOfSpark 50 = .ok (.invokevirtual 123, 3) := by decide +kernel
theorem dX2_turnAheadOfSpark_53 : decode cX2_turnAheadOfSpark 53 = .ok (.return_, 1) := by decide +kernel
theorem dX2_join_0 : decode cX2_join 0 = .ok (.iload_n 1, 1) := by decide +kernel
theorem dX2_join_1 : decode cX2_join 1 = .ok (.iload_n 2, 1) := by decide +kernel
theorem dX2_join_2 : decode cX2_join 2 = .ok (.aload_n 0, 1) := by decide +kernel
theorem dX2_join_3 : decode cX2_join 3 = .ok (.getfield 34, 3) := by decide +kernel
theorem dX2_join_6 : decode cX2_join 6 = .ok (.invokestatic 84, 3) := by decide +kernel
theorem dX2_join_9 : decode cX2_join 9 = .ok (.istore 4, 2) := by decide +kernel
theorem dX2_join_11 : decode cX2_join 11 = .ok (.iload_n 1, 1) := by decide +kernel
theorem dX2_join_12 : decode cX2_join 12 = .ok (.iload_n 3, 1) := by decide +kernel
theorem dX2_join_13 : decode cX2_join 13 = .ok (.aload_n 0, 1) := by decide +kernel
theorem dX2_join_14 : decode cX2_join 14 = .ok (.getfield 34, 3) := by decide +kernel
theorem dX2_join_17 : decode cX2_join 17 = .ok (.invokestatic 84, 3) := by decide +kernel
theorem dX2_join_20 : decode cX2_join 20 = .ok (.istore 5, 2) := by decide +kernel
theorem dX2_join_22 : decode cX2_join 22 = .ok (.aload_n 0, 1) := by decide +kernel
theorem dX2_join_23 : decode cX2_join 23 = .ok (.getfield 15, 3) := by decide +kernel
theorem dX2_join_26 : decode cX2_join 26 = .ok (.iload 4, 2) := by decide +kernel
theorem dX2_join_28 : decode cX2_join 28 = .ok (.iaload, 1) := by decide +kernel
theorem dX2_join_29 : decode cX2_join 29 = .ok (.istore 6, 2) := by decide +kernel
theorem dX2_join_31 : decode cX2_join 31 = .ok (.aload_n 0, 1) := by decide +kernel
theorem dX2_join_32 : decode cX2_join 32 = .ok (.getfield 15, 3) := by decide +kernel
theorem dX2_join_35 : decode cX2_join 35 = .ok (.iload 5, 2) := by decide +kernel
theorem dX2_join_37 : decode cX2_join 37 = .ok (.iaload, 1) := by decide +kernel
theorem dX2_join_38 : decode cX2_join 38 = .ok (.istore 7, 2) := by decide +kernel
theorem dX2_join_40 : decode cX2_join 40 = .ok (.aload_n 0, 1) := by decide +kernel
theorem dX2_join_41 : decode cX2_join 41 = .ok (.getfield 15, 3) := by decide +kernel
theorem dX2_join_44 : decode cX2_join 44 = .ok (.iconst 1, 1) := by decide +kernel
theorem dX2_join_45 : decode cX2_join 45 = .ok (.iload_n 1, 1) := by decide +kernel
theorem dX2_join_46 : decode cX2_join 46 = .ok (.isub, 1) := by decide +kernel
theorem dX2_join_47 : decode cX2_join 47 = .ok (.iload_n 2, 1) := by decide +kernel
theorem dX2_join_48 : decode cX2_join 48 = .ok (.aload_n 0, 1) := by decide +kernel
theorem dX2_join_49 : decode cX2_join 49 = .ok (.getfield 34, 3) := by decide +kernel
theorem dX2_join_52 : decode cX2_join 52 = .ok (.invokestatic 84, 3) := by decide +kernel
theorem dX2_join_55 : decode cX2_join 55 = .ok (.iaload, 1) := by decide +kernel
theorem dX2_join_56 : decode cX2_join 56 = .ok (.istore 8, 2) := by decide +kernel
theorem dX2_join_58 : decode cX2_join 58 = .ok (.aload_n 0, 1) := by decide +kernel
theorem dX2_join_59 : decode cX2_join 59 = .ok (.getfield 15, 3) := by decide +kernel
theorem dX2_join_62 : decode cX2_join 62 = .ok (.iconst 1, 1) := by decide +kernel
theorem dX2_join_63 : decode cX2_join 63 = .ok (.iload_n 1, 1) := by decide +kernel
theorem dX2_join_64 : decode cX2_join 64 = .ok (.isub, 1) := by decide +kernel
theorem dX2_join_65 : decode cX2_join 65 = .ok (.iload_n 3, 1) := by decide +kernel
theorem dX2_join_66 : decode cX2_join 66 = .ok (.aload_n 0, 1) := by decide +kernel
theorem dX2_join_67 : decode cX2_join 67 = .ok (.getfield 34, 3) := by decide +kernel
theorem dX2_join_70 : decode cX2_join 70 = .ok (.invokestatic 84, 3) := by decide +kernel
theorem dX2_join_73 : decode cX2_join 73 = .ok (.iaload, 1) := by decide +kernel
theorem dX2_join_74 : decode cX2_join 74 = .ok (.istore 9, 2) := by decide +kernel
theorem dX2_join_76 : decode cX2_join 76 = .ok (.iload 6, 2) := by decide +kernel
theorem dX2_join_78 : decode cX2_join 78 = .ok (.iload 7, 2) := by decide +kernel
theorem dX2_join_80 : decode cX2_join 80 = .ok (.iadd, 1) := by decide +kernel
theorem dX2_join_81 : decode cX2_join 81 = .ok (.iconst 2, 1) := by decide +kernel
theorem dX2_join_82 : decode cX2_join 82 = .ok (.idiv, 1) := by decide +kernel
theorem dX2_join_83 : decode cX2_join 83 = .ok (.iload 9, 2) := by decide +kernel
theorem dX2_join_85 : decode cX2_join 85 = .ok (.iload 8, 2) := by decide +kernel
theorem dX2_join_87 : decode cX2_join 87 = .ok (.isub, 1) := by decide +kernel
theorem dX2_join_88 : decode cX2_join 88 = .ok (.aload_n 0, 1) := by decide +kernel
theorem dX2_join_89 : decode cX2_join 89 = .ok (.getfield 9, 3) := by decide +kernel
theorem dX2_join_92 : decode cX2_join 92 = .ok (.iconst 0, 1) := by decide +kernel
theorem dX2_join_93 : decode cX2_join 93 = .ok (.iaload, 1) := by decide +kernel
theorem dX2_join_94 : decode cX2_join 94 = .ok (.imul, 1) := by decide +kernel
theorem dX2_join_95 : decode cX2_join 95 = .ok (.bipush 32, 2) := by decide +kernel
theorem dX2_join_97 : decode cX2_join 97 = .ok (.idiv, 1) := by decide +kernel
theorem dX2_join_98 : decode cX2_join 98 = .ok (.iadd, 1) := by decide +kernel
theorem dX2_join_99 : decode cX2_join 99 = .ok (.istore 10, 2) := by decide +kernel
theorem dX2_join_101 : decode cX2_join 101 = .ok (.bipush (-99), 2) := by decide +kernel
theorem dX2_join_103 : decode cX2_join 103 = .ok (.iload 6, 2) := by decide +kernel
theorem dX2_join_105 : decode cX2_join 105 = .ok (.isub, 1) := by decide +kernel
theorem dX2_join_106 : decode cX2_join 106 = .ok (.iload 7, 2) := by decide +kernel
theorem dX2_join_108 : decode cX2_join 108 = .ok (.bipush 99, 2) := by decide +kernel
theorem dX2_join_110 : decode cX2_join 110 = .ok (.isub, 1) := by decide +kernel
theorem dX2_join_111 : decode cX2_join 111 = .ok (.invokestatic 71, 3) := by decide +kernel
theorem dX2_join_114 : decode cX2_join 114 = .ok (.istore 11, 2) := by decide +kernel
theorem dX2_join_116 : decode cX2_join 116 = .ok (.bipush 99, 2) := by decide +kernel
theorem dX2_join_118 : decode cX2_join 118 = .ok (.iload 6, 2) := by decide +kernel
theorem dX2_join_120 : decode cX2_join 120 = .ok (.isub, 1) := by decide +kernel
theorem dX2_join_121 : decode cX2_join 121 = .ok (.iload 7, 2) := by decide +kernel
theorem dX2_join_123 : decode cX2_join 123 = .ok (.bipush 99, 2) := by decide +kernel
theorem dX2_join_125 : decode cX2_join 125 = .ok (.iadd, 1) := by decide +kernel
theorem dX2_join_126 : decode cX2_join 126 = .ok (.invokestatic 74, 3) := by decide +kernel
theorem dX2_join_129 : decode cX2_join 129 = .ok (.istore 12, 2) := by decide +kernel
theorem dX2_join_131 : decode cX2_join 131 = .ok (.iload 10, 2) := by decide +kernel
theorem dX2_join_133 : decode cX2_join 133 = .ok (.iload 6, 2) := by decide +kernel
theorem dX2_join_135 : decode cX2_join 135 = .ok (.isub, 1) := by decide +kernel
theorem dX2_join_136 : decode cX2_join 136 = .ok (.iload 11, 2) := by decide +kernel
theorem dX2_join_138 : decode cX2_join 138 = .ok (.iload 12, 2) := by decide +kernel
theorem dX2_join_140 : decode cX2_join 140 = .ok (.invokestatic 127, 3) := by decide +kernel
theorem dX2_join_143 : decode cX2_join 143 = .ok (.istore 13, 2) := by decide +kernel
theorem dX2_join_145 : decode cX2_join 145 = .ok (.aload_n 0, 1) := by decide +kernel
theorem dX2_join_146 : decode cX2_join 146 = .ok (.getfield 15, 3) := by decide +kernel
theorem dX2_join_149 : decode cX2_join 149 = .ok (.iload 4, 2) := by decide +kernel
theorem dX2_join_151 : decode cX2_join 151 = .ok (.iload 6, 2) := by decide +kernel
theorem dX2_join_153 : decode cX2_join 153 = .ok (.iload 13, 2) := by decide +kernel
theorem dX2_join_155 : decode cX2_join 155 = .ok (.iadd, 1) := by decide +kernel
theorem dX2_join_156 : decode cX2_join 156 = .ok (.iastore, 1) := by decide +kernel
theorem dX2_join_157 : decode cX2_join 157 = .ok (.aload_n 0, 1) := by decide +kernel
theorem dX2_join_158 : decode cX2_join 158 = .ok (.getfield 15, 3) := by decide +kernel
theorem dX2_join_161 : decode cX2_join 161 = .ok (.iload 5, 2) := by decide +kernel
theorem dX2_join_163 : decode cX2_join 163 = .ok (.iload 7, 2) := by decide +kernel
theorem dX2_join_165 : decode cX2_join 165 = .ok (.iload 13, 2) := by decide +kernel
theorem dX2_join_167 : decode cX2_join 167 = .ok (.isub, 1) := by decide +kernel
theorem dX2_join_168 : decode cX2_join 168 = .ok (.iastore, 1) := by decide +kernel
theorem dX2_join_169 : decode cX2_join 169 = .ok (.return_, 1) := by decide +kernel
theorem dX2_gather_0 : decode cX2_gather 0 = .ok (.iconst 0, 1) := by decide +kernel
theorem dX2_gather_1 : decode cX2_gather 1 = .ok (.istore_n 3, 1) := by decide +kernel
theorem dX2_gather_2 : decode cX2_gather 2 = .ok (.iload_n 3, 1) := by decide +kernel
theorem dX2_gather_3 : decode cX2_gather 3 = .ok (.iconst 2, 1) := by decide +kernel
theorem dX2_gather_4 : decode cX2_gather 4 = .ok (.if_icmp .ge 93, 3) := by decide +kernel
theorem dX2_gather_7 : decode cX2_gather 7 = .ok (.iload_n 3, 1) := by decide +kernel
theorem dX2_gather_8 : decode cX2_gather 8 = .ok (.iload_n 2, 1) := by decide +kernel
theorem dX2_gather_9 : decode cX2_gather 9 = .ok (.aload_n 0, 1) := by decide +kernel
theorem dX2_gather_10 : decode cX2_gather 10 = .ok (.getfield 34, 3) := by decide +kernel
theorem dX2_gather_13 : decode cX2_gather 13 = .ok (.invokestatic 84, 3) := by decide +kernel
theorem dX2_gather_16 : decode cX2_gather 16 = .ok (.istore 4, 2) := by decide +kernel
theorem dX2_gather_18 : decode cX2_gather 18 = .ok (.aload_n 0, 1) := by decide +kernel
theorem dX2_gather_19 : decode cX2_gather 19 = .ok (.getfield 9, 3) := by decide +kernel
theorem dX2_gather_22 : decode cX2_gather 22 = .ok (.iconst 4, 1) := by decide +kernel
theorem dX2_gather_23 : decode cX2_gather 23 = .ok (.iaload, 1) := by decide +kernel
theorem dX2_gather_24 : decode cX2_gather 24 = .ok (.istore 5, 2) := by decide +kernel
theorem dX2_gather_26 : decode cX2_gather 26 = .ok (.aload_n 0, 1) := by decide +kernel
theorem dX2_gather_27 : decode cX2_gather 27 = .ok (.getfield 15, 3) := by decide +kernel
theorem dX2_gather_30 : decode cX2_gather 30 = .ok (.iload 4, 2) := by decide +kernel
theorem dX2_gather_32 : decode cX2_gather 32 = .ok (.iaload, 1) := by decide +kernel
theorem dX2_gather_33 : decode cX2_gather 33 = .ok (.iload 5, 2) := by decide +kernel
theorem dX2_gather_35 : decode cX2_gather 35 = .ok (.ineg, 1) := by decide +kernel
theorem dX2_gather_36 : decode cX2_gather 36 = .ok (.aload_n 0, 1) := by decide +kernel
theorem dX2_gather_37 : decode cX2_gather 37 = .ok (.getfield 18, 3) := by decide +kernel
theorem dX2_gather_40 : decode cX2_gather 40 = .ok (.iload_n 1, 1) := by decide +kernel
theorem dX2_gather_41 : decode cX2_gather 41 = .ok (.iaload, 1) := by decide +kernel
theorem dX2_gather_42 : decode cX2_gather 42 = .ok (.isub, 1) := by decide +kernel
theorem dX2_gather_43 : decode cX2_gather 43 = .ok (.iload 5, 2) := by decide +kernel
theorem dX2_gather_45 : decode cX2_gather 45 = .ok (.aload_n 0, 1) := by decide +kernel
theorem dX2_gather_46 : decode cX2_gather 46 = .ok (.getfield 18, 3) := by decide +kernel
theorem dX2_gather_49 : decode cX2_gather 49 = .ok (.iload_n 1, 1) := by decide +kernel
theorem dX2_gather_50 : decode cX2_gather 50 = .ok (.iaload, 1) := by decide +kernel
theorem dX2_gather_51 : decode cX2_gather 51 = .ok (.isub, 1) := by decide +kernel
theorem dX2_gather_52 : decode cX2_gather 52 = .ok (.invokestatic 127, 3) := by decide +kernel
theorem dX2_gather_55 : decode cX2_gather 55 = .ok (.istore 6, 2) := by decide +kernel
theorem dX2_gather_57 : decode cX2_gather 57 = .ok (.aload_n 0, 1) := by decide +kernel
theorem dX2_gather_58 : decode cX2_gather 58 = .ok (.getfield 15, 3) := by decide +kernel
theorem dX2_gather_61 : decode cX2_gather 61 = .ok (.iload 4, 2) := by decide +kernel
theorem dX2_gather_63 : decode cX2_gather 63 = .ok (.dup2, 1) := by decide +kernel
theorem dX2_gather_64 : decode cX2_gather 64 = .ok (.iaload, 1) := by decide +kernel
theorem dX2_gather_65 : decode cX2_gather 65 = .ok (.iload 6, 2) := by decide +kernel
theorem dX2_gather_67 : decode cX2_gather 67 = .ok (.isub, 1) := by decide +kernel
theorem dX2_gather_68 : decode cX2_gather 68 = .ok (.iastore, 1) := by decide +kernel
theorem dX2_gather_69 : decode cX2_gather 69 = .ok (.aload_n 0, 1) := by decide +kernel
theorem dX2_gather_70 : decode cX2_gather 70 = .ok (.getfield 18, 3) := by decide +kernel
theorem dX2_gather_73 : decode cX2_gather 73 = .ok (.iload_n 1, 1) := by decide +kernel
theorem dX2_gather_74 : decode cX2_gather 74 = .ok (.dup2, 1) := by decide +kernel
theorem dX2_gather_75 : decode cX2_gather 75 = .ok (.iaload, 1) := by decide +kernel
theorem dX2_gather_76 : decode cX2_gather 76 = .ok (.iload 6, 2) := by decide +kernel
theorem dX2_gather_78 : decode cX2_gather 78 = .ok (.iadd, 1) := by decide +kernel
theorem dX2_gather_79 : decode cX2_gather 79 = .ok (.iastore, 1) := by decide +kernel
theorem dX2_gather_80 : decode cX2_gather 80 = .ok (.aload_n 0, 1) := by decide +kernel
theorem dX2_gather_81 : decode cX2_gather 81 = .ok (.getfield 21, 3) := by decide +kernel
theorem dX2_gather_84 : decode cX2_gather 84 = .ok (.iload_n 1, 1) := by decide +kernel
theorem dX2_gather_85 : decode cX2_gather 85 = .ok (.dup2, 1) := by decide +kernel
theorem dX2_gather_86 : decode cX2_gather 86 = .ok (.iaload, 1) := by decide +kernel
theorem dX2_gather_87 : decode cX2_gather 87 = .ok (.iload 6, 2) := by decide +kernel
theorem dX2_gather_89 : decode cX2_gather 89 = .ok (.iadd, 1) := by decide +kernel
theorem dX2_gather_90 : decode cX2_gather 90 = .ok (.iastore, 1) := by decide +kernel
theorem dX2_gather_91 : decode cX2_gather 91 = .ok (.iinc 3 1, 3) := by decide +kernel
theorem dX2_gather_94 : decode cX2_gather 94 = .ok (.goto (-92), 3) := by decide +kernel
theorem dX2_gather_97 : decode cX2_gather 97 = .ok (.return_, 1) := by decide +kernel
theorem dX2_leakFromSectors_0 : decode cX2_leakFromSectors 0 = .ok (.iconst 0, 1) := by decide +kernel
theorem dX2_leakFromSectors_1 : decode cX2_leakFromSectors 1 = .ok (.istore_n 1, 1) := by decide +kernel
theorem dX2_leakFromSectors_2 : decode cX2_leakFromSectors 2 = .ok (.iload_n 1, 1) := by decide +kernel
theorem dX2_leakFromSectors_3 : decode cX2_leakFromSectors 3 = .ok (.aload_n 0, 1) := by decide +kernel
theorem dX2_leakFromSectors_4 : decode cX2_leakFromSectors 4 = .ok (.getfield 15, 3) := by decide +kernel
theorem dX2_leakFromSectors_7 : decode cX2_leakFromSectors 7 = .ok (.arraylength, 1) := by decide +kernel
theorem dX2_leakFromSectors_8 : decode cX2_leakFromSectors 8 = .ok (.if_icmp .ge 46, 3) := by decide +kernel
theorem dX2_leakFromSectors_11 : decode cX2_leakFromSectors 11 = .ok (.aload_n 0, 1) := by decide +kernel
theorem dX2_leakFromSectors_12 : decode cX2_leakFromSectors 12 = .ok (.getfield 15, 3) := by decide +kernel
theorem dX2_leakFromSectors_15 : decode cX2_leakFromSectors 15 = .ok (.iload_n 1, 1) := by decide +kernel
theorem dX2_leakFromSectors_16 : decode cX2_leakFromSectors 16 = .ok (.iaload, 1) := by decide +kernel
theorem dX2_leakFromSectors_17 : decode cX2_leakFromSectors 17 = .ok (.aload_n 0, 1) := by decide +kernel
theorem dX2_leakFromSectors_18 : decode cX2_leakFromSectors 18 = .ok (.getfield 9, 3) := by decide +kernel
theorem dX2_leakFromSectors_21 : decode cX2_leakFromSectors 21 = .ok (.iconst 1, 1) := by decide +kernel
theorem dX2_leakFromSectors_22 : decode cX2_leakFromSectors 22 = .ok (.iaload, 1) := by decide +kernel
theorem dX2_leakFromSectors_23 : decode cX2_leakFromSectors 23 = .ok (.imul, 1) := by decide +kernel
theorem dX2_leakFromSectors_24 : decode cX2_leakFromSectors 24 = .ok (.bipush 100, 2) := by decide +kernel
theorem dX2_leakFromSectors_26 : decode cX2_leakFromSectors 26 = .ok (.idiv, 1) := by decide +kernel
theorem dX2_leakFromSectors_27 : decode cX2_leakFromSectors 27 = .ok (.istore_n 2, 1) := by decide +kernel
theorem dX2_leakFromSectors_28 : decode cX2_leakFromSectors 28 = .ok (.aload_n 0, 1) := by decide +kernel
theorem dX2_leakFromSectors_29 : decode cX2_leakFromSectors 29 = .ok (.getfield 15, 3) := by decide +kernel
theorem dX2_leakFromSectors_32 : decode cX2_leakFromSectors 32 = .ok (.iload_n 1, 1) := by decide +kernel
theorem dX2_leakFromSectors_33 : decode cX2_leakFromSectors 33 = .ok (.dup2, 1) := by decide +kernel
theorem dX2_leakFromSectors_34 : decode cX2_leakFromSectors 34 = .ok (.iaload, 1) := by decide +kernel
theorem dX2_leakFromSectors_35 : decode cX2_leakFromSectors 35 = .ok (.iload_n 2, 1) := by decide +kernel
theorem dX2_leakFromSectors_36 : decode cX2_leakFromSectors 36 = .ok (.isub, 1) := by decide +kernel
theorem dX2_leakFromSectors_37 : decode cX2_leakFromSectors 37 = .ok (.iastore, 1) := by decide +kernel
theorem dX2_leakFromSectors_38 : decode cX2_leakFromSectors 38 = .ok (.aload_n 0, 1) := by decide +kernel
theorem dX2_leakFromSectors_39 : decode cX2_leakFromSectors 39 = .ok (.dup, 1) := by decide +kernel
theorem dX2_leakFromSectors_40 : decode cX2_leakFromSectors 40 = .ok (.getfield 47, 3) := by decide +kernel
theorem dX2_leakFromSectors_43 : decode cX2_leakFromSectors 43 = .ok (.iload_n 2, 1) := by decide +kernel
theorem dX2_leakFromSectors_44 : decode cX2_leakFromSectors 44 = .ok (.iadd, 1) := by decide +kernel
theorem dX2_leakFromSectors_45 : decode cX2_leakFromSectors 45 = .ok (.putfield 47, 3) := by decide +kernel
theorem dX2_leakFromSectors_48 : decode cX2_leakFromSectors 48 = .ok (.iinc 1 1, 3) := by decide +kernel
theorem dX2_leakFromSectors_51 : decode cX2_leakFromSectors 51 = .ok (.goto (-49), 3) := by decide +kernel
theorem dX2_leakFromSectors_54 : decode cX2_leakFromSectors 54 = .ok (.return_, 1) := by decide +kernel
theorem dX2_leakFromJar_0 : decode cX2_leakFromJar 0 = .ok (.aload_n 0, 1) := by decide +kernel
theorem dX2_leakFromJar_1 : decode cX2_leakFromJar 1 = .ok (.getfield 18, 3) := by decide +kernel
theorem dX2_leakFromJar_4 : decode cX2_leakFromJar 4 = .ok (.iload_n 1, 1) := by decide +kernel
theorem dX2_leakFromJar_5 : decode cX2_leakFromJar 5 = .ok (.iaload, 1) := by decide +kernel
theorem dX2_leakFromJar_6 : decode cX2_leakFromJar 6 = .ok (.aload_n 0, 1) := by decide +kernel
theorem dX2_leakFromJar_7 : decode cX2_leakFromJar 7 = .ok (.getfield 9, 3) := by decide +kernel
theorem dX2_leakFromJar_10 : decode cX2_leakFromJar 10 = .ok (.iconst 1, 1) := by decide +kernel
theorem dX2_leakFromJar_11 : decode cX2_leakFromJar 11 = .ok (.iaload, 1) := by decide +kernel
theorem dX2_leakFromJar_12 : decode cX2_leakFromJar 12 = .ok (.imul, 1) := by decide +kernel
theorem dX2_leakFromJar_13 : decode cX2_leakFromJar 13 = .ok (.sipush 200, 3) := by decide +kernel
theorem dX2_leakFromJar_16 : decode cX2_leakFromJar 16 = .ok (.idiv, 1) := by decide +kernel
theorem dX2_leakFromJar_17 : decode cX2_leakFromJar 17 = .ok (.istore_n 2, 1) := by decide +kernel
theorem dX2_leakFromJar_18 : decode cX2_leakFromJar 18 = .ok (.aload_n 0, 1) := by decide +kernel
theorem dX2_leakFromJar_19 : decode cX2_leakFromJar 19 = .ok (.getfield 18, 3) := by decide +kernel
theorem dX2_leakFromJar_22 : decode cX2_leakFromJar 22 = .ok (.iload_n 1, 1) := by decide +kernel
theorem dX2_leakFromJar_23 : decode cX2_leakFromJar 23 = .ok (.dup2, 1) := by decide +kernel
theorem dX2_leakFromJar_24 : decode cX2_leakFromJar 24 = .ok (.iaload, 1) := by decide +kernel
theorem dX2_leakFromJar_25 : decode cX2_leakFromJar 25 = .ok (.iload_n 2, 1) := by decide +kernel
theorem dX2_leakFromJar_26 : decode cX2_leakFromJar 26 = .ok (.isub, 1) := by decide +kernel
theorem dX2_leakFromJar_27 : decode cX2_leakFromJar 27 = .ok (.iastore, 1) := by decide +kernel
theorem dX2_leakFromJar_28 : decode cX2_leakFromJar 28 = .ok (.aload_n 0, 1) := by decide +kernel
theorem dX2_leakFromJar_29 : decode cX2_leakFromJar 29 = .ok (.getfield 24, 3) := by decide +kernel
theorem dX2_leakFromJar_32 : decode cX2_leakFromJar 32 = .ok (.iload_n 1, 1) := by decide +kernel
theorem dX2_leakFromJar_33 : decode cX2_leakFromJar 33 = .ok (.dup2, 1) := by decide +kernel
theorem dX2_leakFromJar_34 : decode cX2_leakFromJar 34 = .ok (.iaload, 1) := by decide +kernel
theorem dX2_leakFromJar_35 : decode cX2_leakFromJar 35 = .ok (.iload_n 2, 1) := by decide +kernel
theorem dX2_leakFromJar_36 : decode cX2_leakFromJar 36 = .ok (.iadd, 1) := by decide +kernel
theorem dX2_leakFromJar_37 : decode cX2_leakFromJar 37 = .ok (.iastore, 1) := by decide +kernel
theorem dX2_leakFromJar_38 : decode cX2_leakFromJar 38 = .ok (.aload_n 0, 1) := by decide +kernel
theorem dX2_leakFromJar_39 : decode cX2_leakFromJar 39 = .ok (.dup, 1) := by decide +kernel
theorem dX2_leakFromJar_40 : decode cX2_leakFromJar 40 = .ok (.getfield 47, 3) := by decide +kernel
theorem dX2_leakFromJar_43 : decode cX2_leakFromJar 43 = .ok (.iload_n 2, 1) := by decide +kernel
theorem dX2_leakFromJar_44 : decode cX2_leakFromJar 44 = .ok (.iadd, 1) := by decide +kernel
theorem dX2_leakFromJar_45 : decode cX2_leakFromJar 45 = .ok (.putfield 47, 3) := by decide +kernel
theorem dX2_leakFromJar_48 : decode cX2_leakFromJar 48 = .ok (.return_, 1) := by decide +kernel
theorem dX2_isSparkDue_0 : decode cX2_isSparkDue 0 = .ok (.aload_n 0, 1) := by decide +kernel
theorem dX2_isSparkDue_1 : decode cX2_isSparkDue 1 = .ok (.invokevirtual 88, 3) := by decide +kernel
theorem dX2_isSparkDue_4 : decode cX2_isSparkDue 4 = .ok (.bipush 10, 2) := by decide +kernel
theorem dX2_isSparkDue_6 : decode cX2_isSparkDue 6 = .ok (.aload_n 0, 1) := by decide +kernel
theorem dX2_isSparkDue_7 : decode cX2_isSparkDue 7 = .ok (.getfield 9, 3) := by decide +kernel
theorem dX2_isSparkDue_10 : decode cX2_isSparkDue 10 = .ok (.iconst 2, 1) := by decide +kernel
theorem dX2_isSparkDue_11 : decode cX2_isSparkDue 11 = .ok (.iaload, 1) := by decide +kernel
theorem dX2_isSparkDue_12 : decode cX2_isSparkDue 12 = .ok (.imul, 1) := by decide +kernel
theorem dX2_isSparkDue_13 : decode cX2_isSparkDue 13 = .ok (.if_icmp .lt 7, 3) := by decide +kernel
theorem dX2_isSparkDue_16 : decode cX2_isSparkDue 16 = .ok (.iconst 1, 1) := by decide +kernel
theorem dX2_isSparkDue_17 : decode cX2_isSparkDue 17 = .ok (.goto 4, 3) := by decide +kernel
theorem dX2_isSparkDue_20 : decode cX2_isSparkDue 20 = .ok (.iconst 0, 1) := by decide +kernel
theorem dX2_isSparkDue_21 : decode cX2_isSparkDue 21 = .ok (.ireturn, 1) := by decide +kernel
theorem dX2_letJump_0 : decode cX2_letJump 0 = .ok (.aload_n 0, 1) := by decide +kernel
theorem dX2_letJump_1 : decode cX2_letJump 1 = .ok (.getfield 38, 3) := by decide +kernel
theorem dX2_letJump_4 : decode cX2_letJump 4 = .ok (.invokestatic 130, 3) := by decide +kernel
theorem dX2_letJump_7 : decode cX2_letJump 7 = .ok (.istore_n 1, 1) := by decide +kernel
theorem dX2_letJump_8 : decode cX2_letJump 8 = .ok (.aload_n 0, 1) := by decide +kernel
theorem dX2_letJump_9 : decode cX2_letJump 9 = .ok (.getfield 27, 3) := by decide +kernel
theorem dX2_letJump_12 : decode cX2_letJump 12 = .ok (.iload_n 1, 1) := by decide +kernel
theorem dX2_letJump_13 : decode cX2_letJump 13 = .ok (.aload_n 0, 1) := by decide +kernel
theorem dX2_letJump_14 : decode cX2_letJump 14 = .ok (.getfield 34, 3) := by decide +kernel
theorem dX2_letJump_17 : decode cX2_letJump 17 = .ok (.iastore, 1) := by decide +kernel
theorem dX2_letJump_18 : decode cX2_letJump 18 = .ok (.aload_n 0, 1) := by decide +kernel
theorem dX2_letJump_19 : decode cX2_letJump 19 = .ok (.getfield 27, 3) := by decide +kernel
theorem dX2_letJump_22 : decode cX2_letJump 22 = .ok (.iload_n 1, 1) := by decide +kernel
theorem dX2_letJump_23 : decode cX2_letJump 23 = .ok (.iconst 1, 1) := by decide +kernel
theorem dX2_letJump_24 : decode cX2_letJump 24 = .ok (.iadd, 1) := by decide +kernel
theorem dX2_letJump_25 : decode cX2_letJump 25 = .ok (.aload_n 0, 1) := by decide +kernel
theorem dX2_letJump_26 : decode cX2_letJump 26 = .ok (.getfield 18, 3) := by decide +kernel
theorem dX2_letJump_29 : decode cX2_letJump 29 = .ok (.iconst 0, 1) := by decide +kernel
theorem dX2_letJump_30 : decode cX2_letJump 30 = .ok (.iaload, 1) := by decide +kernel
theorem dX2_letJump_31 : decode cX2_letJump 31 = .ok (.iastore, 1) := by decide +kernel
theorem dX2_letJump_32 : decode cX2_letJump 32 = .ok (.aload_n 0, 1) := by decide +kernel
theorem dX2_letJump_33 : decode cX2_letJump 33 = .ok (.getfield 27, 3) := by decide +kernel
theorem dX2_letJump_36 : decode cX2_letJump 36 = .ok (.iload_n 1, 1) := by decide +kernel
theorem dX2_letJump_37 : decode cX2_letJump 37 = .ok (.iconst 2, 1) := by decide +kernel
theorem dX2_letJump_38 : decode cX2_letJump 38 = .ok (.iadd, 1) := by decide +kernel
theorem dX2_letJump_39 : decode cX2_letJump 39 = .ok (.aload_n 0, 1) := by decide +kernel
theorem dX2_letJump_40 : decode cX2_letJump 40 = .ok (.getfield 18, 3) := by decide +kernel
theorem dX2_letJump_43 : decode cX2_letJump 43 = .ok (.iconst 1, 1) := by decide +kernel
theorem dX2_letJump_44 : decode cX2_letJump 44 = .ok (.iaload, 1) := by decide +kernel
theorem dX2_letJump_45 : decode cX2_letJump 45 = .ok (.iastore, 1) := by decide +kernel
theorem dX2_letJump_46 : decode cX2_letJump 46 = .ok (.aload_n 0, 1) := by decide +kernel
theorem dX2_letJump_47 : decode cX2_letJump 47 = .ok (.dup, 1) := by decide +kernel
theorem dX2_letJump_48 : decode cX2_letJump 48 = .ok (.getfield 38, 3) := by decide +kernel
theorem dX2_letJump_51 : decode cX2_letJump 51 = .ok (.iconst 1, 1) := by decide +kernel
theorem dX2_letJump_52 : decode cX2_letJump 52 = .ok (.iadd, 1) := by decide +kernel
theorem dX2_letJump_53 : decode cX2_letJump 53 = .ok (.putfield 38, 3) := by decide +kernel
theorem dX2_letJump_56 : decode cX2_letJump 56 = .ok (.aload_n 0, 1) := by decide +kernel
theorem dX2_letJump_57 : decode cX2_letJump 57 = .ok (.getfield 18, 3) := by decide +kernel
theorem dX2_letJump_60 : decode cX2_letJump 60 = .ok (.iconst 0, 1) := by decide +kernel
theorem dX2_letJump_61 : decode cX2_letJump 61 = .ok (.iaload, 1) := by decide +kernel
theorem dX2_letJump_62 : decode cX2_letJump 62 = .ok (.aload_n 0, 1) := by decide +kernel
theorem dX2_letJump_63 : decode cX2_letJump 63 = .ok (.getfield 18, 3) := by decide +kernel
theorem dX2_letJump_66 : decode cX2_letJump 66 = .ok (.iconst 1, 1) := by decide +kernel
theorem dX2_letJump_67 : decode cX2_letJump 67 = .ok (.iaload, 1) := by decide +kernel
theorem dX2_letJump_68 : decode cX2_letJump 68 = .ok (.iadd, 1) := by decide +kernel
theorem dX2_letJump_69 : decode cX2_letJump 69 = .ok (.istore_n 2, 1) := by decide +kernel
theorem dX2_letJump_70 : decode cX2_letJump 70 = .ok (.iload_n 2, 1) := by decide +kernel
theorem dX2_letJump_71 : decode cX2_letJump 71 = .ok (.iconst 2, 1) := by decide +kernel
theorem dX2_letJump_72 : decode cX2_letJump 72 = .ok (.idiv, 1) := by decide +kernel
theorem dX2_letJump_73 : decode cX2_letJump 73 = .ok (.istore_n 3, 1) := by decide +kernel
theorem dX2_letJump_74 : decode cX2_letJump 74 = .ok (.aload_n 0, 1) := by decide +kernel
theorem dX2_letJump_75 : decode cX2_letJump 75 = .ok (.getfield 18, 3) := by decide +kernel
theorem dX2_letJump_78 : decode cX2_letJump 78 = .ok (.iconst 0, 1) := by decide +kernel
theorem dX2_letJump_79 : decode cX2_letJump 79 = .ok (.iload_n 3, 1) := by decide +kernel
theorem dX2_letJump_80 : decode cX2_letJump 80 = .ok (.aload_n 0, 1) := by decide +kernel
theorem dX2_letJump_81 : decode cX2_letJump 81 = .ok (.getfield 18, 3) := by decide +kernel
theorem dX2_letJump_84 : decode cX2_letJump 84 = .ok (.iconst 0, 1) := by decide +kernel
theorem dX2_letJump_85 : decode cX2_letJump 85 = .ok (.iaload, 1) := by decide +kernel
theorem dX2_letJump_86 : decode cX2_letJump 86 = .ok (.iload_n 3, 1) := by decide +kernel
theorem dX2_letJump_87 : decode cX2_letJump 87 = .ok (.isub, 1) := by decide +kernel
theorem dX2_letJump_88 : decode cX2_letJump 88 = .ok (.aload_n 0, 1) := by decide +kernel
theorem dX2_letJump_89 : decode cX2_letJump 89 = .ok (.getfield 9, 3) := by decide +kernel
theorem dX2_letJump_92 : decode cX2_letJump 92 = .ok (.iconst 3, 1) := by decide +kernel
theorem dX2_letJump_93 : decode cX2_letJump 93 = .ok (.iaload, 1) := by decide +kernel
theorem dX2_letJump_94 : decode cX2_letJump 94 = .ok (.imul, 1) := by decide +kernel
theorem dX2_letJump_95 : decode cX2_letJump 95 = .ok (.bipush 100, 2) := by decide +kernel
theorem dX2_letJump_97 : decode cX2_letJump 97 = .ok (.idiv, 1) := by decide +kernel
theorem dX2_letJump_98 : decode cX2_letJump 98 = .ok (.isub, 1) := by decide +kernel
theorem dX2_letJump_99 : decode cX2_letJump 99 = .ok (.iastore, 1) := by decide +kernel
theorem dX2_letJump_100 : decode cX2_letJump 100 = .ok (.aload_n 0, 1) := by decide +kernel
theorem dX2_letJump_101 : decode cX2_letJump 101 = .ok (.getfield 18, 3) := by decide +kernel
theorem dX2_letJump_104 : decode cX2_letJump 104 = .ok (.iconst 1, 1) := by decide +kernel
theorem dX2_letJump_105 : decode cX2_letJump 105 = .ok (.iload_n 2, 1) := by decide +kernel
theorem dX2_letJump_106 : decode cX2_letJump 106 = .ok (.aload_n 0, 1) := by decide +kernel
theorem dX2_letJump_107 : decode cX2_letJump 107 = .ok (.getfield 18, 3) := by decide +kernel
theorem dX2_letJump_110 : decode cX2_letJump 110 = .ok (.iconst 0, 1) := by decide +kernel
theorem dX2_letJump_111 : decode cX2_letJump 111 = .ok (.iaload, 1) := by decide +kernel
theorem dX2_letJump_112 : decode cX2_letJump 112 = .ok (.isub, 1) := by decide +kernel
theorem dX2_letJump_113 : decode cX2_letJump 113 = .ok (.iastore, 1) := by decide +kernel
theorem dX2_letJump_114 : decode cX2_letJump 114 = .ok (.return_, 1) := by decide +kernel
theorem dX2_noteSign_0 : decode cX2_noteSign 0 = .ok (.aload_n 0, 1) := by decide +kernel
theorem dX2_noteSign_1 : decode cX2_noteSign 1 = .ok (.invokevirtual 133, 3) := by decide +kernel
theorem dX2_noteSign_4 : decode cX2_noteSign 4 = .ok (.istore_n 1, 1) := by decide +kernel
theorem dX2_noteSign_5 : decode cX2_noteSign 5 = .ok (.iload_n 1, 1) := by decide +kernel
theorem dX2_noteSign_6 : decode cX2_noteSign 6 = .ok (.ifCond .ne 4, 3) := by decide +kernel
theorem dX2_noteSign_9 : decode cX2_noteSign 9 = .ok (.return_, 1) := by decide +kernel
theorem dX2_noteSign_10 : decode cX2_noteSign 10 = .ok (.iload_n 1, 1) := by decide +kernel
theorem dX2_noteSign_11 : decode cX2_noteSign 11 = .ok (.aload_n 0, 1) := by decide +kernel
theorem dX2_noteSign_12 : decode cX2_noteSign 12 = .ok (.getfield 44, 3) := by decide +kernel
theorem dX2_noteSign_15 : decode cX2_noteSign 15 = .ok (.ineg, 1) := by decide +kernel
theorem dX2_noteSign_16 : decode cX2_noteSign 16 = .ok (.if_icmp .ne 13, 3) := by decide +kernel
theorem dX2_noteSign_19 : decode cX2_noteSign 19 = .ok (.aload_n 0, 1) := by decide +kernel
theorem dX2_noteSign_20 : decode cX2_noteSign 20 = .ok (.dup, 1) := by decide +kernel
theorem dX2_noteSign_21 : decode cX2_noteSign 21 = .ok (.getfield 41, 3) := by decide +kernel
theorem dX2_noteSign_24 : decode cX2_noteSign 24 = .ok (.iconst 1, 1) := by decide +kernel
theorem dX2_noteSign_25 : decode cX2_noteSign 25 = .ok (.iadd, 1) := by decide +kernel
theorem dX2_noteSign_26 : decode cX2_noteSign 26 = .ok (.putfield 41, 3) := by decide +kernel
theorem dX2_noteSign_29 : decode cX2_noteSign 29 = .ok (.aload_n 0, 1) := by decide +kernel
theorem dX2_noteSign_30 : decode cX2_noteSign 30 = .ok (.iload_n 1, 1) := by decide +kernel
theorem dX2_noteSign_31 : decode cX2_noteSign 31 = .ok (.putfield 44, 3) := by decide +kernel
theorem dX2_noteSign_34 : decode cX2_noteSign 34 = .ok (.return_, 1) := by decide +kernel
theorem dX3_init_0 : decode cX3_init 0 = .ok (.aload_n 0, 1) := by decide +kernel
theorem dX3_init_1 : decode cX3_init 1 = .ok (.invokespecial 3, 3) := by decide +kernel
theorem dX3_init_4 : decode cX3_init 4 = .ok (.aload_n 0, 1) := by decide +kernel
theorem dX3_init_5 : decode cX3_init 5 = .ok (.bipush 60, 2) := by decide +kernel
theorem dX3_init_7 : decode cX3_init 7 = .ok (.newarray .char, 2) := by decide +kernel
theorem dX3_init_9 : decode cX3_init 9 = .ok (.putfield 9, 3) := by decide +kernel
theorem dX3_init_12 : decode cX3_init 12 = .ok (.return_, 1) := by decide +kernel
theorem dX3_clear_0 : decode cX3_clear 0 = .ok (.aload_n 0, 1) := by decide +kernel
theorem dX3_clear_1 : decode cX3_clear 1 = .ok (.iconst 0, 1) := by decide +kernel
theorem dX3_clear_2 : decode cX3_clear 2 = .ok (.putfield 15, 3) := by decide +kernel
theorem dX3_clear_5 : decode cX3_clear 5 = .ok (.return_, 1) := by decide +kernel
theorem dX3_append_0 : decode cX3_append 0 = .ok (.iload_n 3, 1) := by decide +kernel
theorem dX3_append_1 : decode cX3_append 1 = .ok (.iconst 1, 1) := by decide +kernel
theorem dX3_append_2 : decode cX3_append 2 = .ok (.isub, 1) := by decide +kernel
theorem dX3_append_3 : decode cX3_append 3 = .ok (.istore 4, 2) := by decide +kernel
theorem dX3_append_5 : decode cX3_append 5 = .ok (.iload 4, 2) := by decide +kernel
theorem dX3_append_7 : decode cX3_append 7 = .ok (.ifCond .lt 53, 3) := by decide +kernel
theorem dX3_append_10 : decode cX3_append 10 = .ok (.aload_n 0, 1) := by decide +kernel
theorem dX3_append_11 : decode cX3_append 11 = .ok (.getfield 15, 3) := by decide +kernel
theorem dX3_append_14 : decode cX3_append 14 = .ok (.aload_n 0, 1) := by decide +kernel
theorem dX3_append_15 : decode cX3_append 15 = .ok (.getfield 9, 3) := by decide +kernel
theorem dX3_append_18 : decode cX3_append 18 = .ok (.arraylength, 1) := by decide +kernel
theorem dX3_append_19 : decode cX3_append 19 = .ok (.if_icmp .ge 41, 3) := by decide +kernel
theorem dX3_append_22 : decode cX3_append 22 = .ok (.aload_n 0, 1) := by decide +kernel
theorem dX3_append_23 : decode cX3_append 23 = .ok (.getfield 9, 3) := by decide +kernel
theorem dX3_append_26 : decode cX3_append 26 = .ok (.aload_n 0, 1) := by decide +kernel
theorem dX3_append_27 : decode cX3_append 27 = .ok (.getfield 15, 3) := by decide +kernel
theorem dX3_append_30 : decode cX3_append 30 = .ok (.lload_n 1, 1) := by decide +kernel
theorem dX3_append_31 : decode cX3_append 31 = .ok (.bipush 8, 2) := by decide +kernel
theorem dX3_append_33 : decode cX3_append 33 = .ok (.iload 4, 2) := by decide +kernel
theorem dX3_append_35 : decode cX3_append 35 = .ok (.imul, 1) := by decide +kernel
theorem dX3_append_36 : decode cX3_append 36 = .ok (.lushr, 1) := by decide +kernel
theorem dX3_append_37 : decode cX3_append 37 = .ok (.ldc2_w 19, 3) := by decide +kernel
theorem dX3_append_40 : decode cX3_append 40 = .ok (.land, 1) := by decide +kernel
theorem dX3_append_41 : decode cX3_append 41 = .ok (.l2i, 1) := by decide +kernel
theorem dX3_append_42 : decode cX3_append 42 = .ok (.i2c, 1) := by decide +kernel
theorem dX3_append_43 : decode cX3_append 43 = .ok (.castore, 1) := by decide +kernel
theorem dX3_append_44 : decode cX3_append 44 = .ok (.aload_n 0, 1) := by decide +kernel
theorem dX3_append_45 : decode cX3_append 45 = .ok (.dup, 1) := by decide +kernel
theorem dX3_append_46 : decode cX3_append 46 = .ok (.getfield 15, 3) := by decide +kernel
theorem dX3_append_49 : decode cX3_append 49 = .ok (.iconst 1, 1) := by decide +kernel
theorem dX3_append_50 : decode cX3_append 50 = .ok (.iadd, 1) := by decide +kernel
theorem dX3_append_51 : decode cX3_append 51 = .ok (.putfield 15, 3) := by decide +kernel
theorem dX3_append_54 : decode cX3_append 54 = .ok (.iinc 4 (-1), 3) := by decide +kernel
theorem dX3_append_57 : decode cX3_append 57 = .ok (.goto (-52), 3) := by decide +kernel
theorem dX3_append_60 : decode cX3_append 60 = .ok (.return_, 1) := by decide +kernel
theorem dX3_signAt_0 : decode cX3_signAt 0 = .ok (.iload_n 1, 1) := by decide +kernel
theorem dX3_signAt_1 : decode cX3_signAt 1 = .ok (.ifCond .lt 20, 3) := by decide +kernel
theorem dX3_signAt_4 : decode cX3_signAt 4 = .ok (.iload_n 1, 1) := by decide +kernel
theorem dX3_signAt_5 : decode cX3_signAt 5 = .ok (.aload_n 0, 1) := by decide +kernel
theorem dX3_signAt_6 : decode cX3_signAt 6 = .ok (.getfield 15, 3) := by decide +kernel
theorem dX3_signAt_9 : decode cX3_signAt 9 = .ok (.if_icmp .ge 12, 3) := by decide +kernel
theorem dX3_signAt_12 : decode cX3_signAt 12 = .ok (.iload_n 1, 1) := by decide +kernel
theorem dX3_signAt_13 : decode cX3_signAt 13 = .ok (.aload_n 0, 1) := by decide +kernel
theorem dX3_signAt_14 : decode cX3_signAt 14 = .ok (.getfield 9, 3) := by decide +kernel
theorem dX3_signAt_17 : decode cX3_signAt 17 = .ok (.arraylength, 1) := by decide +kernel
theorem dX3_signAt_18 : decode cX3_signAt 18 = .ok (.if_icmp .lt 7, 3) := by decide +kernel
theorem dX3_signAt_21 : decode cX3_signAt 21 = .ok (.iconst 0, 1) := by decide +kernel
theorem dX3_signAt_22 : decode cX3_signAt 22 = .ok (.goto 9, 3) := by decide +kernel
theorem dX3_signAt_25 : decode cX3_signAt 25 = .ok (.aload_n 0, 1) := by decide +kernel
theorem dX3_signAt_26 : decode cX3_signAt 26 = .ok (.getfield 9, 3) := by decide +kernel
theorem dX3_signAt_29 : decode cX3_signAt 29 = .ok (.iload_n 1, 1) := by decide +kernel
theorem dX3_signAt_30 : decode cX3_signAt 30 = .ok (.caload, 1) := by decide +kernel
theorem dX3_signAt_31 : decode cX3_signAt 31 = .ok (.ireturn, 1) := by decide +kernel
theorem dX4_init_0 : decode cX4_init 0 = .ok (.aload_n 0, 1) := by decide +kernel
theorem dX4_init_1 : decode cX4_init 1 = .ok (.invokespecial 1, 3) := by decide +kernel
theorem dX4_init_4 : decode cX4_init 4 = .ok (.aload_n 0, 1) := by decide +kernel
theorem dX4_init_5 : decode cX4_init 5 = .ok (.new 7, 3) := by decide +kernel
theorem dX4_init_8 : decode cX4_init 8 = .ok (.dup, 1) := by decide +kernel
theorem dX4_init_9 : decode cX4_init 9 = .ok (.invokespecial 9, 3) := by decide +kernel
theorem dX4_init_12 : decode cX4_init 12 = .ok (.putfield 10, 3) := by decide +kernel
theorem dX4_init_15 : decode cX4_init 15 = .ok (.aload_n 0, 1) := by decide +kernel
theorem dX4_init_16 : decode cX4_init 16 = .ok (.new 7, 3) := by decide +kernel
theorem dX4_init_19 : decode cX4_init 19 = .ok (.dup, 1) := by decide +kernel
theorem dX4_init_20 : decode cX4_init 20 = .ok (.invokespecial 9, 3) := by decide +kernel
theorem dX4_init_23 : decode cX4_init 23 = .ok (.putfield 16, 3) := by decide +kernel
theorem dX4_init_26 : decode cX4_init 26 = .ok (.aload_n 0, 1) := by decide +kernel
theorem dX4_init_27 : decode cX4_init 27 = .ok (.new 19, 3) := by decide +kernel
theorem dX4_init_30 : decode cX4_init 30 = .ok (.dup, 1) := by decide +kernel
theorem dX4_init_31 : decode cX4_init 31 = .ok (.invokespecial 21, 3) := by decide +kernel
theorem dX4_init_34 : decode cX4_init 34 = .ok (.putfield 22, 3) := by decide +kernel
theorem dX4_init_37 : decode cX4_init 37 = .ok (.aload_n 0, 1) := by decide +kernel
theorem dX4_init_38 : decode cX4_init 38 = .ok (.iconst 2, 1) := by decide +kernel
theorem dX4_init_39 : decode cX4_init 39 = .ok (.anewarray 7, 3) := by decide +kernel
theorem dX4_init_42 : decode cX4_init 42 = .ok (.putfield 26, 3) := by decide +kernel
theorem dX4_init_45 : decode cX4_init 45 = .ok (.aload_n 0, 1) := by decide +kernel
theorem dX4_init_46 : decode cX4_init 46 = .ok (.new 30, 3) := by decide +kernel
theorem dX4_init_49 : decode cX4_init 49 = .ok (.dup, 1) := by decide +kernel
theorem dX4_init_50 : decode cX4_init 50 = .ok (.invokespecial 32, 3) := by decide +kernel
theorem dX4_init_53 : decode cX4_init 53 = .ok (.putfield 33, 3) := by decide +kernel
theorem dX4_init_56 : decode cX4_init 56 = .ok (.aload_n 0, 1) := by decide +kernel
theorem dX4_init_57 : decode cX4_init 57 = .ok (.aload_n 0, 1) := by decide +kernel
theorem dX4_init_58 : decode cX4_init 58 = .ok (.getfield 33, 3) := by decide +kernel
theorem dX4_init_61 : decode cX4_init 61 = .ok (.getfield 37, 3) := by decide +kernel
theorem dX4_init_64 : decode cX4_init 64 = .ok (.putfield 41, 3) := by decide +kernel
theorem dX4_init_67 : decode cX4_init 67 = .ok (.return_, 1) := by decide +kernel
theorem dX4_set_0 : decode cX4_set 0 = .ok (.iload_n 1, 1) := by decide +kernel
theorem dX4_set_1 : decode cX4_set 1 = .ok (.ifCond .lt 8, 3) := by decide +kernel
theorem dX4_set_4 : decode cX4_set 4 = .ok (.iload_n 1, 1) := by decide +kernel
theorem dX4_set_5 : decode cX4_set 5 = .ok (.iconst 5, 1) := by decide +kernel
theorem dX4_set_6 : decode cX4_set 6 = .ok (.if_icmp .lt 6, 3) := by decide +kernel
theorem dX4_set_9 : decode cX4_set 9 = .ok (.ldc 42, 2) := by decide +kernel
theorem dX4_set_11 : decode cX4_set 11 = .ok (.ireturn, 1) := by decide +kernel
theorem dX4_set_12 : decode cX4_set 12 = .ok (.iload_n 2, 1) := by decide +kernel
theorem dX4_set_13 : decode cX4_set 13 = .ok (.getstatic 43, 3) := by decide +kernel
theorem dX4_set_16 : decode cX4_set 16 = .ok (.iload_n 1, 1) := by decide +kernel
theorem dX4_set_17 : decode cX4_set 17 = .ok (.iaload, 1) := by decide +kernel
theorem dX4_set_18 : decode cX4_set 18 = .ok (.if_icmp .lt 12, 3) := by decide +kernel
theorem dX4_set_21 : decode cX4_set 21 = .ok (.iload_n 2, 1) := by decide +kernel
theorem dX4_set_22 : decode cX4_set 22 = .ok (.getstatic 47, 3) := by decide +kernel
theorem dX4_set_25 : decode cX4_set 25 = .ok (.iload_n 1, 1) := by decide +kernel
theorem dX4_set_26 : decode cX4_set 26 = .ok (.iaload, 1) := by decide +kernel
theorem dX4_set_27 : decode cX4_set 27 = .ok (.if_icmp .le 6, 3) := by decide +kernel
theorem dX4_set_30 : decode cX4_set 30 = .ok (.ldc 42, 2) := by decide +kernel
theorem dX4_set_32 : decode cX4_set 32 = .ok (.ireturn, 1) := by decide +kernel
theorem dX4_set_33 : decode cX4_set 33 = .ok (.iload_n 1, 1) := by decide +kernel
theorem dX4_set_34 : decode cX4_set 34 = .ok (.iconst 4, 1) := by decide +kernel
theorem dX4_set_35 : decode cX4_set 35 = .ok (.if_icmp .ne 17, 3) := by decide +kernel
theorem dX4_set_38 : decode cX4_set 38 = .ok (.aload_n 0, 1) := by decide +kernel
theorem dX4_set_39 : decode cX4_set 39 = .ok (.getfield 10, 3) := by decide +kernel
theorem dX4_set_42 : decode cX4_set 42 = .ok (.invokevirtual 50, 3) := by decide +kernel
theorem dX4_set_45 : decode cX4_set 45 = .ok (.iload_n 2, 1) := by decide +kernel
theorem dX4_set_46 : decode cX4_set 46 = .ok (.if_icmp .le 6, 3) := by decide +kernel
theorem dX4_set_49 : decode cX4_set 49 = .ok (.ldc 54, 2) := by decide +kernel
theorem dX4_set_51 : decode cX4_set 51 = .ok (.ireturn, 1) := by decide +kernel
theorem dX4_set_52 : decode cX4_set 52 = .ok (.aload_n 0, 1) := by decide +kernel
theorem dX4_set_53 : decode cX4_set 53 = .ok (.getfield 22, 3) := by decide +kernel
theorem dX4_set_56 : decode cX4_set 56 = .ok (.aload_n 0, 1) := by decide +kernel
theorem dX4_set_57 : decode cX4_set 57 = .ok (.getfield 10, 3) := by decide +kernel
theorem dX4_set_60 : decode cX4_set 60 = .ok (.invokevirtual 55, 3) := by decide +kernel
theorem dX4_set_63 : decode cX4_set 63 = .ok (.aload_n 0, 1) := by decide +kernel
theorem dX4_set_64 : decode cX4_set 64 = .ok (.getfield 10, 3) := by decide +kernel
theorem dX4_set_67 : decode cX4_set 67 = .ok (.getfield 59, 3) := by decide +kernel
theorem dX4_set_70 : decode cX4_set 70 = .ok (.iload_n 1, 1) := by decide +kernel
theorem dX4_set_71 : decode cX4_set 71 = .ok (.iaload, 1) := by decide +kernel
theorem dX4_set_72 : decode cX4_set 72 = .ok (.istore_n 3, 1) := by decide +kernel
theorem dX4_set_73 : decode cX4_set 73 = .ok (.aload_n 0, 1) := by decide +kernel
theorem dX4_set_74 : decode cX4_set 74 = .ok (.getfield 10, 3) := by decide +kernel
theorem dX4_set_77 : decode cX4_set 77 = .ok (.getfield 59, 3) := by decide +kernel
theorem dX4_set_80 : decode cX4_set 80 = .ok (.iload_n 1, 1) := by decide +kernel
theorem dX4_set_81 : decode cX4_set 81 = .ok (.iload_n 2, 1) := by decide +kernel
theorem dX4_set_82 : decode cX4_set 82 = .ok (.iastore, 1) := by decide +kernel
theorem dX4_set_83 : decode cX4_set 83 = .ok (.iload_n 3, 1) := by decide +kernel
theorem dX4_set_84 : decode cX4_set 84 = .ok (.ireturn, 1) := by decide +kernel
theorem dX4_touch_0 : decode cX4_touch 0 = .ok (.iload_n 1, 1) := by decide +kernel
theorem dX4_touch_1 : decode cX4_touch 1 = .ok (.invokestatic 62, 3) := by decide +kernel
theorem dX4_touch_4 : decode cX4_touch 4 = .ok (.ifCond .ne 10, 3) := by decide +kernel
theorem dX4_touch_7 : decode cX4_touch 7 = .ok (.iload_n 2, 1) := by decide +kernel
theorem dX4_touch_8 : decode cX4_touch 8 = .ok (.invokestatic 66, 3) := by decide +kernel
theorem dX4_touch_11 : decode cX4_touch 11 = .ok (.ifCond .eq 6, 3) := by decide +kernel
theorem dX4_touch_14 : decode cX4_touch 14 = .ok (.ldc 69, 2) := by decide +kernel
theorem dX4_touch_16 : decode cX4_touch 16 = .ok (.ireturn, 1) := by decide +kernel
theorem dX4_touch_17 : decode cX4_touch 17 = .ok (.iload_n 3, 1) := by decide +kernel
theorem dX4_touch_18 : decode cX4_touch 18 = .ok (.bipush (-99), 2) := by decide +kernel
theorem dX4_touch_20 : decode cX4_touch 20 = .ok (.if_icmp .lt 9, 3) := by decide +kernel
theorem dX4_touch_23 : decode cX4_touch 23 = .ok (.iload_n 3, 1) := by decide +kernel
theorem dX4_touch_24 : decode cX4_touch 24 = .ok (.bipush 99, 2) := by decide +kernel
theorem dX4_touch_26 : decode cX4_touch 26 = .ok (.if_icmp .le 6, 3) := by decide +kernel
theorem dX4_touch_29 : decode cX4_touch 29 = .ok (.ldc 42, 2) := by decide +kernel
theorem dX4_touch_31 : decode cX4_touch 31 = .ok (.ireturn, 1) := by decide +kernel
theorem dX4_touch_32 : decode cX4_touch 32 = .ok (.aload_n 0, 1) := by decide +kernel
theorem dX4_touch_33 : decode cX4_touch 33 = .ok (.getfield 22, 3) := by decide +kernel
theorem dX4_touch_36 : decode cX4_touch 36 = .ok (.aload_n 0, 1) := by decide +kernel
theorem dX4_touch_37 : decode cX4_touch 37 = .ok (.getfield 10, 3) := by decide +kernel
theorem dX4_touch_40 : decode cX4_touch 40 = .ok (.invokevirtual 55, 3) := by decide +kernel
theorem dX4_touch_43 : decode cX4_touch 43 = .ok (.aload_n 0, 1) := by decide +kernel
theorem dX4_touch_44 : decode cX4_touch 44 = .ok (.getfield 10, 3) := by decide +kernel
theorem dX4_touch_47 : decode cX4_touch 47 = .ok (.iload_n 1, 1) := by decide +kernel
theorem dX4_touch_48 : decode cX4_touch 48 = .ok (.iload_n 2, 1) := by decide +kernel
theorem dX4_touch_49 : decode cX4_touch 49 = .ok (.iload_n 3, 1) := by decide +kernel
theorem dX4_touch_50 : decode cX4_touch 50 = .ok (.invokevirtual 70, 3) := by decide +kernel
theorem dX4_touch_53 : decode cX4_touch 53 = .ok (.ireturn, 1) := by decide +kernel
theorem dX4_turn_0 : decode cX4_turn 0 = .ok (.iload_n 1, 1) := by decide +kernel
theorem dX4_turn_1 : decode cX4_turn 1 = .ok (.iconst 1, 1) := by decide +kernel
theorem dX4_turn_2 : decode cX4_turn 2 = .ok (.if_icmp .lt 9, 3) := by decide +kernel
theorem dX4_turn_5 : decode cX4_turn 5 = .ok (.iload_n 1, 1) := by decide +kernel
theorem dX4_turn_6 : decode cX4_turn 6 = .ok (.bipush 99, 2) := by decide +kernel
theorem dX4_turn_8 : decode cX4_turn 8 = .ok (.if_icmp .le 6, 3) := by decide +kernel
theorem dX4_turn_11 : decode cX4_turn 11 = .ok (.ldc 42, 2) := by decide +kernel
theorem dX4_turn_13 : decode cX4_turn 13 = .ok (.ireturn, 1) := by decide +kernel
theorem dX4_turn_14 : decode cX4_turn 14 = .ok (.aload_n 0, 1) := by decide +kernel
theorem dX4_turn_15 : decode cX4_turn 15 = .ok (.getfield 10, 3) := by decide +kernel
theorem dX4_turn_18 : decode cX4_turn 18 = .ok (.iload_n 1, 1) := by decide +kernel
theorem dX4_turn_19 : decode cX4_turn 19 = .ok (.invokevirtual 74, 3) := by decide +kernel
theorem dX4_turn_22 : decode cX4_turn 22 = .ok (.ifCond .ne 6, 3) := by decide +kernel
theorem dX4_turn_25 : decode cX4_turn 25 = .ok (.ldc 77, 2) := by decide +kernel
theorem dX4_turn_27 : decode cX4_turn 27 = .ok (.ireturn, 1) := by decide +kernel
theorem dX4_turn_28 : decode cX4_turn 28 = .ok (.aload_n 0, 1) := by decide +kernel
theorem dX4_turn_29 : decode cX4_turn 29 = .ok (.getfield 22, 3) := by decide +kernel
theorem dX4_turn_32 : decode cX4_turn 32 = .ok (.aload_n 0, 1) := by decide +kernel
theorem dX4_turn_33 : decode cX4_turn 33 = .ok (.getfield 10, 3) := by decide +kernel
theorem dX4_turn_36 : decode cX4_turn 36 = .ok (.invokevirtual 55, 3) := by decide +kernel
theorem dX4_turn_39 : decode cX4_turn 39 = .ok (.aload_n 0, 1) := by decide +kernel
theorem dX4_turn_40 : decode cX4_turn 40 = .ok (.getfield 10, 3) := by decide +kernel
theorem dX4_turn_43 : decode cX4_turn 43 = .ok (.iload_n 1, 1) := by decide +kernel
theorem dX4_turn_44 : decode cX4_turn 44 = .ok (.invokevirtual 78, 3) := by decide +kernel
theorem dX4_turn_47 : decode cX4_turn 47 = .ok (.ireturn, 1) := by decide +kernel
theorem dX4_discharge_0 : decode cX4_discharge 0 = .ok (.aload_n 0, 1) := by decide +kernel
theorem dX4_discharge_1 : decode cX4_discharge 1 = .ok (.getfield 22, 3) := by decide +kernel
theorem dX4_discharge_4 : decode cX4_discharge 4 = .ok (.aload_n 0, 1) := by decide +kernel
theorem dX4_discharge_5 : decode cX4_discharge 5 = .ok (.getfield 10, 3) := by decide +kernel
theorem dX4_discharge_8 : decode cX4_discharge 8 = .ok (.invokevirtual 55, 3) := by decide +kernel
theorem dX4_discharge_11 : decode cX4_discharge 11 = .ok (.aload_n 0, 1) := by decide +kernel
theorem dX4_discharge_12 : decode cX4_discharge 12 = .ok (.getfield 10, 3) := by decide +kernel
theorem dX4_discharge_15 : decode cX4_discharge 15 = .ok (.invokevirtual 82, 3) := by decide +kernel
theorem dX4_discharge_18 : decode cX4_discharge 18 = .ok (.ireturn, 1) := by decide +kernel
theorem dX4_wipeDisc_0 : decode cX4_wipeDisc 0 = .ok (.iload_n 1, 1) := by decide +kernel
theorem dX4_wipeDisc_1 : decode cX4_wipeDisc 1 = .ok (.invokestatic 62, 3) := by decide +kernel
theorem dX4_wipeDisc_4 : decode cX4_wipeDisc 4 = .ok (.ifCond .eq 6, 3) := by decide +kernel
theorem dX4_wipeDisc_7 : decode cX4_wipeDisc 7 = .ok (.ldc 69, 2) := by decide +kernel
theorem dX4_wipeDisc_9 : decode cX4_wipeDisc 9 = .ok (.ireturn, 1) := by decide +kernel
theorem dX4_wipeDisc_10 : decode cX4_wipeDisc 10 = .ok (.aload_n 0, 1) := by decide +kernel
theorem dX4_wipeDisc_11 : decode cX4_wipeDisc 11 = .ok (.getfield 22, 3) := by decide +kernel
theorem dX4_wipeDisc_14 : decode cX4_wipeDisc 14 = .ok (.aload_n 0, 1) := by decide +kernel
theorem dX4_wipeDisc_15 : decode cX4_wipeDisc 15 = .ok (.getfield 10, 3) := by decide +kernel
theorem dX4_wipeDisc_18 : decode cX4_wipeDisc 18 = .ok (.invokevirtual 55, 3) := by decide +kernel
theorem dX4_wipeDisc_21 : decode cX4_wipeDisc 21 = .ok (.aload_n 0, 1) := by decide +kernel
theorem dX4_wipeDisc_22 : decode cX4_wipeDisc 22 = .ok (.getfield 10, 3) := by decide +kernel
theorem dX4_wipeDisc_25 : decode cX4_wipeDisc 25 = .ok (.iload_n 1, 1) := by decide +kernel
theorem dX4_wipeDisc_26 : decode cX4_wipeDisc 26 = .ok (.invokevirtual 85, 3) := by decide +kernel
theorem dX4_wipeDisc_29 : decode cX4_wipeDisc 29 = .ok (.ireturn, 1) := by decide +kernel
theorem dX4_run_0 : decode cX4_run 0 = .ok (.aload_n 0, 1) := by decide +kernel
theorem dX4_run_1 : decode cX4_run 1 = .ok (.getfield 33, 3) := by decide +kernel
theorem dX4_run_4 : decode cX4_run 4 = .ok (.invokevirtual 88, 3) := by decide +kernel
theorem dX4_run_7 : decode cX4_run 7 = .ok (.ldc 91, 2) := by decide +kernel
theorem dX4_run_9 : decode cX4_run 9 = .ok (.if_icmp .eq 6, 3) := by decide +kernel
theorem dX4_run_12 : decode cX4_run 12 = .ok (.ldc 92, 2) := by decide +kernel
theorem dX4_run_14 : decode cX4_run 14 = .ok (.ireturn, 1) := by decide +kernel
theorem dX4_run_15 : decode cX4_run 15 = .ok (.aload_n 0, 1) := by decide +kernel
theorem dX4_run_16 : decode cX4_run 16 = .ok (.getfield 22, 3) := by decide +kernel
theorem dX4_run_19 : decode cX4_run 19 = .ok (.aload_n 0, 1) := by decide +kernel
theorem dX4_run_20 : decode cX4_run 20 = .ok (.getfield 10, 3) := by decide +kernel
theorem dX4_run_23 : decode cX4_run 23 = .ok (.invokevirtual 55, 3) := by decide +kernel
theorem dX4_run_26 : decode cX4_run 26 = .ok (.aload_n 0, 1) := by decide +kernel
theorem dX4_run_27 : decode cX4_run 27 = .ok (.getfield 10, 3) := by decide +kernel
theorem dX4_run_30 : decode cX4_run 30 = .ok (.getfield 93, 3) := by decide +kernel
theorem dX4_run_33 : decode cX4_run 33 = .ok (.istore_n 1, 1) := by decide +kernel
theorem dX4_run_34 : decode cX4_run 34 = .ok (.aload_n 0, 1) := by decide +kernel
theorem dX4_run_35 : decode cX4_run 35 = .ok (.getfield 33, 3) := by decide +kernel
theorem dX4_run_38 : decode cX4_run 38 = .ok (.invokevirtual 97, 3) := by decide +kernel
theorem dX4_run_41 : decode cX4_run 41 = .ok (.iconst 0, 1) := by decide +kernel
theorem dX4_run_42 : decode cX4_run 42 = .ok (.istore_n 2, 1) := by decide +kernel
theorem dX4_run_43 : decode cX4_run 43 = .ok (.iload_n 2, 1) := by decide +kernel
theorem dX4_run_44 : decode cX4_run 44 = .ok (.bipush 60, 2) := by decide +kernel
theorem dX4_run_46 : decode cX4_run 46 = .ok (.if_icmp .ge 33, 3) := by decide +kernel
theorem dX4_run_49 : decode cX4_run 49 = .ok (.aload_n 0, 1) := by decide +kernel
theorem dX4_run_50 : decode cX4_run 50 = .ok (.getfield 33, 3) := by decide +kernel
theorem dX4_run_53 : decode cX4_run 53 = .ok (.invokevirtual 100, 3) := by decide +kernel
theorem dX4_run_56 : decode cX4_run 56 = .ok (.ifCond .eq 23, 3) := by decide +kernel
theorem dX4_run_59 : decode cX4_run 59 = .ok (.aload_n 0, 1) := by decide +kernel
theorem dX4_run_60 : decode cX4_run 60 = .ok (.invokevirtual 104, 3) := by decide +kernel
theorem dX4_run_63 : decode cX4_run 63 = .ok (.aload_n 0, 1) := by decide +kernel
theorem dX4_run_64 : decode cX4_run 64 = .ok (.getfield 33, 3) := by decide +kernel
theorem dX4_run_67 : decode cX4_run 67 = .ok (.bipush 59, 2) := by decide +kernel
theorem dX4_run_69 : decode cX4_run 69 = .ok (.invokevirtual 107, 3) := by decide +kernel
theorem dX4_run_72 : decode cX4_run 72 = .ok (.pop, 1) := by decide +kernel
theorem dX4_run_73 : decode cX4_run 73 = .ok (.iinc 2 1, 3) := by decide +kernel
theorem dX4_run_76 : decode cX4_run 76 = .ok (.goto (-33), 3) := by decide +kernel
theorem dX4_run_79 : decode cX4_run 79 = .ok (.aload_n 0, 1) := by decide +kernel
theorem dX4_run_80 : decode cX4_run 80 = .ok (.getfield 41, 3) := by decide +kernel
theorem dX4_run_83 : decode cX4_run 83 = .ok (.invokevirtual 111, 3) := by decide +kernel
theorem dX4_run_86 : decode cX4_run 86 = .ok (.aload_n 0, 1) := by decide +kernel
theorem dX4_run_87 : decode cX4_run 87 = .ok (.getfield 10, 3) := by decide +kernel
theorem dX4_run_90 : decode cX4_run 90 = .ok (.getfield 93, 3) := by decide +kernel
theorem dX4_run_93 : decode cX4_run 93 = .ok (.iload_n 1, 1) := by decide +kernel
theorem dX4_run_94 : decode cX4_run 94 = .ok (.isub, 1) := by decide +kernel
theorem dX4_run_95 : decode cX4_run 95 = .ok (.ireturn, 1) := by decide +kernel
theorem dX4_doReadDeed_0 : decode cX4_doReadDeed 0 = .ok (.aload_n 0, 1) := by decide +kernel
theorem dX4_doReadDeed_1 : decode cX4_doReadDeed 1 = .ok (.getfield 33, 3) := by decide +kernel
theorem dX4_doReadDeed_4 : decode cX4_doReadDeed 4 = .ok (.getfield 116, 3) := by decide +kernel
theorem dX4_doReadDeed_7 : decode cX4_doReadDeed 7 = .ok (.ifCond .ne 35, 3) := by decide +kernel
theorem dX4_doReadDeed_10 : decode cX4_doReadDeed 10 = .ok (.aload_n 0, 1) := by decide +kernel
theorem dX4_doReadDeed_11 : decode cX4_doReadDeed 11 = .ok (.getfield 10, 3) := by decide +kernel
theorem dX4_doReadDeed_14 : decode cX4_doReadDeed 14 = .ok (.aload_n 0, 1) := by decide +kernel
theorem dX4_doReadDeed_15 : decode cX4_doReadDeed 15 = .ok (.getfield 33, 3) := by decide +kernel
theorem dX4_doReadDeed_18 : decode cX4_doReadDeed 18 = .ok (.getfield 119, 3) := by decide +kernel
theorem dX4_doReadDeed_21 : decode cX4_doReadDeed 21 = .ok (.aload_n 0, 1) := by decide +kernel
theorem dX4_doReadDeed_22 : decode cX4_doReadDeed 22 = .ok (.getfield 33, 3) := by decide +kernel
theorem dX4_doReadDeed_25 : decode cX4_doReadDeed 25 = .ok (.getfield 122, 3) := by decide +kernel
theorem dX4_doReadDeed_28 : decode cX4_doReadDeed 28 = .ok (.aload_n 0, 1) := by decide +kernel
theorem dX4_doReadDeed_29 : decode cX4_doReadDeed 29 = .ok (.getfield 33, 3) := by decide +kernel
theorem dX4_doReadDeed_32 : decode cX4_doReadDeed 32 = .ok (.getfield 125, 3) := by decide +kernel
theorem dX4_doReadDeed_35 : decode cX4_doReadDeed 35 = .ok (.invokevirtual 70, 3) := by decide +kernel
theorem dX4_doReadDeed_38 : decode cX4_doReadDeed 38 = .ok (.pop, 1) := by decide +kernel
theorem dX4_doReadDeed_39 : decode cX4_doReadDeed 39 = .ok (.goto 57, 3) := by decide +kernel
theorem dX4_doReadDeed_42 : decode cX4_doReadDeed 42 = .ok (.aload_n 0, 1) := by decide +kernel
theorem dX4_doReadDeed_43 : decode cX4_doReadDeed 43 = .ok (.getfield 33, 3) := by decide +kernel
theorem dX4_doReadDeed_46 : decode cX4_doReadDeed 46 = .ok (.getfield 116, 3) := by decide +kernel
theorem dX4_doReadDeed_49 : decode cX4_doReadDeed 49 = .ok (.iconst 2, 1) := by decide +kernel
theorem dX4_doReadDeed_50 : decode cX4_doReadDeed 50 = .ok (.if_icmp .ne 14, 3) := by decide +kernel
theorem dX4_doReadDeed_53 : decode cX4_doReadDeed 53 = .ok (.aload_n 0, 1) := by decide +kernel
theorem dX4_doReadDeed_54 : decode cX4_doReadDeed 54 = .ok (.getfield 10, 3) := by decide +kernel
theorem dX4_doReadDeed_57 : decode cX4_doReadDeed 57 = .ok (.invokevirtual 82, 3) := by decide +kernel
theorem dX4_doReadDeed_60 : decode cX4_doReadDeed 60 = .ok (.pop, 1) := by decide +kernel
theorem dX4_doReadDeed_61 : decode cX4_doReadDeed 61 = .ok (.goto 35, 3) := by decide +kernel
theorem dX4_doReadDeed_64 : decode cX4_doReadDeed 64 = .ok (.aload_n 0, 1) := by decide +kernel
theorem dX4_doReadDeed_65 : decode cX4_doReadDeed 65 = .ok (.getfield 10, 3) := by decide +kernel
theorem dX4_doReadDeed_68 : decode cX4_doReadDeed 68 = .ok (.aload_n 0, 1) := by decide +kernel
theorem dX4_doReadDeed_69 : decode cX4_doReadDeed 69 = .ok (.getfield 33, 3) := by decide +kernel
theorem dX4_doReadDeed_72 : decode cX4_doReadDeed 72 = .ok (.getfield 125, 3) := by decide +kernel
theorem dX4_doReadDeed_75 : decode cX4_doReadDeed 75 = .ok (.invokevirtual 74, 3) := by decide +kernel
theorem dX4_doReadDeed_78 : decode cX4_doReadDeed 78 = .ok (.ifCond .eq 18, 3) := by decide +kernel
theorem dX4_doReadDeed_81 : decode cX4_doReadDeed 81 = .ok (.aload_n 0, 1) := by decide +kernel
theorem dX4_doReadDeed_82 : decode cX4_doReadDeed 82 = .ok (.getfield 10, 3) := by decide +kernel
theorem dX4_doReadDeed_85 : decode cX4_doReadDeed 85 = .ok (.aload_n 0, 1) := by decide +kernel
theorem dX4_doReadDeed_86 : decode cX4_doReadDeed 86 = .ok (.getfield 33, 3) := by decide +kernel
theorem dX4_doReadDeed_89 : decode cX4_doReadDeed 89 = .ok (.getfield 125, 3) := by decide +kernel
theorem dX4_doReadDeed_92 : decode cX4_doReadDeed 92 = .ok (.invokevirtual 78, 3) := by decide +kernel
theorem dX4_doReadDeed_95 : decode cX4_doReadDeed 95 = .ok (.pop, 1) := by decide +kernel
theorem dX4_doReadDeed_96 : decode cX4_doReadDeed 96 = .ok (.return_, 1) := by decide +kernel
theorem dX4_sector_0 : decode cX4_sector 0 = .ok (.iload_n 1, 1) := by decide +kernel
theorem dX4_sector_1 : decode cX4_sector 1 = .ok (.invokestatic 62, 3) := by decide +kernel
theorem dX4_sector_4 : decode cX4_sector 4 = .ok (.ifCond .ne 10, 3) := by decide +kernel
theorem dX4_sector_7 : decode cX4_sector 7 = .ok (.iload_n 2, 1) := by decide +kernel
theorem dX4_sector_8 : decode cX4_sector 8 = .ok (.invokestatic 66, 3) := by decide +kernel
theorem dX4_sector_11 : decode cX4_sector 11 = .ok (.ifCond .eq 6, 3) := by decide +kernel
theorem dX4_sector_14 : decode cX4_sector 14 = .ok (.ldc 69, 2) := by decide +kernel
theorem dX4_sector_16 : decode cX4_sector 16 = .ok (.ireturn, 1) := by decide +kernel
theorem dX4_sector_17 : decode cX4_sector 17 = .ok (.aload_n 0, 1) := by decide +kernel
theorem dX4_sector_18 : decode cX4_sector 18 = .ok (.getfield 10, 3) := by decide +kernel
theorem dX4_sector_21 : decode cX4_sector 21 = .ok (.getfield 128, 3) := by decide +kernel
theorem dX4_sector_24 : decode cX4_sector 24 = .ok (.iload_n 1, 1) := by decide +kernel
theorem dX4_sector_25 : decode cX4_sector 25 = .ok (.iload_n 2, 1) := by decide +kernel
theorem dX4_sector_26 : decode cX4_sector 26 = .ok (.aload_n 0, 1) := by decide +kernel
theorem dX4_sector_27 : decode cX4_sector 27 = .ok (.getfield 10, 3) := by decide +kernel
theorem dX4_sector_30 : decode cX4_sector 30 = .ok (.getfield 131, 3) := by decide +kernel
theorem dX4_sector_33 : decode cX4_sector 33 = .ok (.invokestatic 134, 3) := by decide +kernel
theorem dX4_sector_36 : decode cX4_sector 36 = .ok (.iaload, 1) := by decide +kernel
theorem dX4_sector_37 : decode cX4_sector 37 = .ok (.ireturn, 1) := by decide +kernel
theorem dX4_disc_0 : decode cX4_disc 0 = .ok (.iload_n 1, 1) := by decide +kernel
theorem dX4_disc_1 : decode cX4_disc 1 = .ok (.invokestatic 62, 3) := by decide +kernel
theorem dX4_disc_4 : decode cX4_disc 4 = .ok (.ifCond .eq 6, 3) := by decide +kernel
theorem dX4_disc_7 : decode cX4_disc 7 = .ok (.ldc 69, 2) := by decide +kernel
theorem dX4_disc_9 : decode cX4_disc 9 = .ok (.ireturn, 1) := by decide +kernel
theorem dX4_disc_10 : decode cX4_disc 10 = .ok (.iload_n 2, 1) := by decide +kernel
theorem dX4_disc_11 : decode cX4_disc 11 = .ok (.tableswitch 80 0 4 #[33, 42, 52, 62, 71], 33) := by decide +kernel
theorem dX4_disc_44 : decode cX4_disc 44 = .ok (.aload_n 0, 1) := by decide +kernel
theorem dX4_disc_45 : decode cX4_disc 45 = .ok (.getfield 10, 3) := by decide +kernel
theorem dX4_disc_48 : decode cX4_disc 48 = .ok (.iload_n 1, 1) := by decide +kernel
theorem dX4_disc_49 : decode cX4_disc 49 = .ok (.invokevirtual 137, 3) := by decide +kernel
theorem dX4_disc_52 : decode cX4_disc 52 = .ok (.ireturn, 1) := by decide +kernel
theorem dX4_disc_53 : decode cX4_disc 53 = .ok (.aload_n 0, 1) := by decide +kernel
theorem dX4_disc_54 : decode cX4_disc 54 = .ok (.getfield 10, 3) := by decide +kernel
theorem dX4_disc_57 : decode cX4_disc 57 = .ok (.iload_n 1, 1) := by decide +kernel
theorem dX4_disc_58 : decode cX4_disc 58 = .ok (.iconst 1, 1) := by decide +kernel
theorem dX4_disc_59 : decode cX4_disc 59 = .ok (.invokevirtual 140, 3) := by decide +kernel
theorem dX4_disc_62 : decode cX4_disc 62 = .ok (.ireturn, 1) := by decide +kernel
theorem dX4_disc_63 : decode cX4_disc 63 = .ok (.aload_n 0, 1) := by decide +kernel
theorem dX4_disc_64 : decode cX4_disc 64 = .ok (.getfield 10, 3) := by decide +kernel
theorem dX4_disc_67 : decode cX4_disc 67 = .ok (.iload_n 1, 1) := by decide +kernel
theorem dX4_disc_68 : decode cX4_disc 68 = .ok (.iconst (-1), 1) := by decide +kernel
theorem dX4_disc_69 : decode cX4_disc 69 = .ok (.invokevirtual 140, 3) := by decide +kernel
theorem dX4_disc_72 : decode cX4_disc 72 = .ok (.ireturn, 1) := by decide +kernel
theorem dX4_disc_73 : decode cX4_disc 73 = .ok (.aload_n 0, 1) := by decide +kernel
theorem dX4_disc_74 : decode cX4_disc 74 = .ok (.getfield 10, 3) := by decide +kernel
theorem dX4_disc_77 : decode cX4_disc 77 = .ok (.iload_n 1, 1) := by decide +kernel
theorem dX4_disc_78 : decode cX4_disc 78 = .ok (.invokevirtual 144, 3) := by decide +kernel
theorem dX4_disc_81 : decode cX4_disc 81 = .ok (.ireturn, 1) := by decide +kernel
theorem dX4_disc_82 : decode cX4_disc 82 = .ok (.aload_n 0, 1) := by decide +kernel
theorem dX4_disc_83 : decode cX4_disc 83 = .ok (.getfield 10, 3) := by decide +kernel
theorem dX4_disc_86 : decode cX4_disc 86 = .ok (.iload_n 1, 1) := by decide +kernel
theorem dX4_disc_87 : decode cX4_disc 87 = .ok (.invokevirtual 147, 3) := by decide +kernel
theorem dX4_disc_90 : decode cX4_disc 90 = .ok (.ireturn, 1) := by decide +kernel
theorem dX4_disc_91 : decode cX4_disc 91 = .ok (.ldc 42, 2) := by decide +kernel
theorem dX4_disc_93 : decode cX4_disc 93 = .ok (.ireturn, 1) := by decide +kernel
theorem dX4_jar_0 : decode cX4_jar 0 = .ok (.iload_n 1, 1) := by decide +kernel
theorem dX4_jar_1 : decode cX4_jar 1 = .ok (.ifCond .lt 8, 3) := by decide +kernel
theorem dX4_jar_4 : decode cX4_jar 4 = .ok (.iload_n 1, 1) := by decide +kernel
theorem dX4_jar_5 : decode cX4_jar 5 = .ok (.iconst 2, 1) := by decide +kernel
theorem dX4_jar_6 : decode cX4_jar 6 = .ok (.if_icmp .lt 6, 3) := by decide +kernel
theorem dX4_jar_9 : decode cX4_jar 9 = .ok (.ldc 69, 2) := by decide +kernel
theorem dX4_jar_11 : decode cX4_jar 11 = .ok (.ireturn, 1) := by decide +kernel
theorem dX4_jar_12 : decode cX4_jar 12 = .ok (.iload_n 2, 1) := by decide +kernel
theorem dX4_jar_13 : decode cX4_jar 13 = .ok (.tableswitch 57 0 2 #[27, 37, 47], 27) := by decide +kernel
theorem dX4_jar_40 : decode cX4_jar 40 = .ok (.aload_n 0, 1) := by decide +kernel
theorem dX4_jar_41 : decode cX4_jar 41 = .ok (.getfield 10, 3) := by decide +kernel
theorem dX4_jar_44 : decode cX4_jar 44 = .ok (.getfield 150, 3) := by decide +kernel
theorem dX4_jar_47 : decode cX4_jar 47 = .ok (.iload_n 1, 1) := by decide +kernel
theorem dX4_jar_48 : decode cX4_jar 48 = .ok (.iaload, 1) := by decide +kernel
theorem dX4_jar_49 : decode cX4_jar 49 = .ok (.ireturn, 1) := by decide +kernel
theorem dX4_jar_50 : decode cX4_jar 50 = .ok (.aload_n 0, 1) := by decide +kernel
theorem dX4_jar_51 : decode cX4_jar 51 = .ok (.getfield 10, 3) := by decide +kernel
theorem dX4_jar_54 : decode cX4_jar 54 = .ok (.getfield 153, 3) := by decide +kernel
theorem dX4_jar_57 : decode cX4_jar 57 = .ok (.iload_n 1, 1) := by decide +kernel
theorem dX4_jar_58 : decode cX4_jar 58 = .ok (.iaload, 1) := by decide +kernel
theorem dX4_jar_59 : decode cX4_jar 59 = .ok (.ireturn, 1) := by decide +kernel
theorem dX4_jar_60 : decode cX4_jar 60 = .ok (.aload_n 0, 1) := by decide +kernel
theorem dX4_jar_61 : decode cX4_jar 61 = .ok (.getfield 10, 3) := by decide +kernel
theorem dX4_jar_64 : decode cX4_jar 64 = .ok (.getfield 156, 3) := by decide +kernel
theorem dX4_jar_67 : decode cX4_jar 67 = .ok (.iload_n 1, 1) := by decide +kernel
theorem dX4_jar_68 : decode cX4_jar 68 = .ok (.iaload, 1) := by decide +kernel
theorem dX4_jar_69 : decode cX4_jar 69 = .ok (.ireturn, 1) := by decide +kernel
theorem dX4_jar_70 : decode cX4_jar 70 = .ok (.ldc 42, 2) := by decide +kernel
theorem dX4_jar_72 : decode cX4_jar 72 = .ok (.ireturn, 1) := by decide +kernel
theorem dX4_spark_0 : decode cX4_spark 0 = .ok (.iload_n 1, 1) := by decide +kernel
theorem dX4_spark_1 : decode cX4_spark 1 = .ok (.ifCond .lt 12, 3) := by decide +kernel
theorem dX4_spark_4 : decode cX4_spark 4 = .ok (.iload_n 2, 1) := by decide +kernel
theorem dX4_spark_5 : decode cX4_spark 5 = .ok (.ifCond .lt 8, 3) := by decide +kernel
theorem dX4_spark_8 : decode cX4_spark 8 = .ok (.iload_n 2, 1) := by decide +kernel
theorem dX4_spark_9 : decode cX4_spark 9 = .ok (.iconst 3, 1) := by decide +kernel
theorem dX4_spark_10 : decode cX4_spark 10 = .ok (.if_icmp .lt 6, 3) := by decide +kernel
theorem dX4_spark_13 : decode cX4_spark 13 = .ok (.ldc 42, 2) := by decide +kernel
theorem dX4_spark_15 : decode cX4_spark 15 = .ok (.ireturn, 1) := by decide +kernel
theorem dX4_spark_16 : decode cX4_spark 16 = .ok (.iload_n 1, 1) := by decide +kernel
theorem dX4_spark_17 : decode cX4_spark 17 = .ok (.bipush 8, 2) := by decide +kernel
theorem dX4_spark_19 : decode cX4_spark 19 = .ok (.if_icmp .ge 14, 3) := by decide +kernel
theorem dX4_spark_22 : decode cX4_spark 22 = .ok (.iload_n 1, 1) := by decide +kernel
theorem dX4_spark_23 : decode cX4_spark 23 = .ok (.aload_n 0, 1) := by decide +kernel
theorem dX4_spark_24 : decode cX4_spark 24 = .ok (.getfield 10, 3) := by decide +kernel
theorem dX4_spark_27 : decode cX4_spark 27 = .ok (.getfield 93, 3) := by decide +kernel
theorem dX4_spark_30 : decode cX4_spark 30 = .ok (.if_icmp .lt 6, 3) := by decide +kernel
theorem dX4_spark_33 : decode cX4_spark 33 = .ok (.ldc 91, 2) := by decide +kernel
theorem dX4_spark_35 : decode cX4_spark 35 = .ok (.ireturn, 1) := by decide +kernel
theorem dX4_spark_36 : decode cX4_spark 36 = .ok (.aload_n 0, 1) := by decide +kernel
theorem dX4_spark_37 : decode cX4_spark 37 = .ok (.getfield 10, 3) := by decide +kernel
theorem dX4_spark_40 : decode cX4_spark 40 = .ok (.getfield 159, 3) := by decide +kernel
theorem dX4_spark_43 : decode cX4_spark 43 = .ok (.aload_n 0, 1) := by decide +kernel
theorem dX4_spark_44 : decode cX4_spark 44 = .ok (.getfield 10, 3) := by decide +kernel
theorem dX4_spark_47 : decode cX4_spark 47 = .ok (.getfield 93, 3) := by decide +kernel
theorem dX4_spark_50 : decode cX4_spark 50 = .ok (.iconst 1, 1) := by decide +kernel
theorem dX4_spark_51 : decode cX4_spark 51 = .ok (.isub, 1) := by decide +kernel
theorem dX4_spark_52 : decode cX4_spark 52 = .ok (.iload_n 1, 1) := by decide +kernel
theorem dX4_spark_53 : decode cX4_spark 53 = .ok (.isub, 1) := by decide +kernel
theorem dX4_spark_54 : decode cX4_spark 54 = .ok (.invokestatic 162, 3) := by decide +kernel
theorem dX4_spark_57 : decode cX4_spark 57 = .ok (.iload_n 2, 1) := by decide +kernel
theorem dX4_spark_58 : decode cX4_spark 58 = .ok (.iadd, 1) := by decide +kernel
theorem dX4_spark_59 : decode cX4_spark 59 = .ok (.iaload, 1) := by decide +kernel
theorem dX4_spark_60 : decode cX4_spark 60 = .ok (.ireturn, 1) := by decide +kernel
theorem dX4_count_0 : decode cX4_count 0 = .ok (.iload_n 1, 1) := by decide +kernel
theorem dX4_count_1 : decode cX4_count 1 = .ok (.ifCond .lt 18, 3) := by decide +kernel
theorem dX4_count_4 : decode cX4_count 4 = .ok (.iload_n 1, 1) := by decide +kernel
theorem dX4_count_5 : decode cX4_count 5 = .ok (.iconst 5, 1) := by decide +kernel
theorem dX4_count_6 : decode cX4_count 6 = .ok (.if_icmp .ge 13, 3) := by decide +kernel
theorem dX4_count_9 : decode cX4_count 9 = .ok (.aload_n 0, 1) := by decide +kernel
theorem dX4_count_10 : decode cX4_count 10 = .ok (.getfield 10, 3) := by decide +kernel
theorem dX4_count_13 : decode cX4_count 13 = .ok (.getfield 59, 3) := by decide +kernel
theorem dX4_count_16 : decode cX4_count 16 = .ok (.iload_n 1, 1) := by decide +kernel
theorem dX4_count_17 : decode cX4_count 17 = .ok (.iaload, 1) := by decide +kernel
theorem dX4_count_18 : decode cX4_count 18 = .ok (.ireturn, 1) := by decide +kernel
theorem dX4_count_19 : decode cX4_count 19 = .ok (.iload_n 1, 1) := by decide +kernel
theorem dX4_count_20 : decode cX4_count 20 = .ok (.tableswitch 136 5 14 #[56, 64, 72, 80, 88, 96, 104, 112, 120, 128], 56) := by decide +kernel
theorem dX4_count_76 : decode cX4_count 76 = .ok (.aload_n 0, 1) := by decide +kernel
theorem dX4_count_77 : decode cX4_count 77 = .ok (.getfield 10, 3) := by decide +kernel
theorem dX4_count_80 : decode cX4_count 80 = .ok (.getfield 131, 3) := by decide +kernel
theorem dX4_count_83 : decode cX4_count 83 = .ok (.ireturn, 1) := by decide +kernel
theorem dX4_count_84 : decode cX4_count 84 = .ok (.aload_n 0, 1) := by decide +kernel
theorem dX4_count_85 : decode cX4_count 85 = .ok (.getfield 10, 3) := by decide +kernel
theorem dX4_count_88 : decode cX4_count 88 = .ok (.getfield 93, 3) := by decide +kernel
theorem dX4_count_91 : decode cX4_count 91 = .ok (.ireturn, 1) := by decide +kernel
theorem dX4_count_92 : decode cX4_count 92 = .ok (.aload_n 0, 1) := by decide +kernel
theorem dX4_count_93 : decode cX4_count 93 = .ok (.getfield 10, 3) := by decide +kernel
theorem dX4_count_96 : decode cX4_count 96 = .ok (.getfield 165, 3) := by decide +kernel
theorem dX4_count_99 : decode cX4_count 99 = .ok (.ireturn, 1) := by decide +kernel
theorem dX4_count_100 : decode cX4_count 100 = .ok (.aload_n 0, 1) := by decide +kernel
theorem dX4_count_101 : decode cX4_count 101 = .ok (.getfield 10, 3) := by decide +kernel
theorem dX4_count_104 : decode cX4_count 104 = .ok (.invokevirtual 168, 3) := by decide +kernel
theorem dX4_count_107 : decode cX4_count 107 = .ok (.ireturn, 1) := by decide +kernel
theorem dX4_count_108 : decode cX4_count 108 = .ok (.aload_n 0, 1) := by decide +kernel
theorem dX4_count_109 : decode cX4_count 109 = .ok (.getfield 10, 3) := by decide +kernel
theorem dX4_count_112 : decode cX4_count 112 = .ok (.invokevirtual 171, 3) := by decide +kernel
theorem dX4_count_115 : decode cX4_count 115 = .ok (.ireturn, 1) := by decide +kernel
theorem dX4_count_116 : decode cX4_count 116 = .ok (.aload_n 0, 1) := by decide +kernel
theorem dX4_count_117 : decode cX4_count 117 = .ok (.getfield 10, 3) := by decide +kernel
theorem dX4_count_120 : decode cX4_count 120 = .ok (.getfield 174, 3) := by decide +kernel
theorem dX4_count_123 : decode cX4_count 123 = .ok (.ireturn, 1) := by decide +kernel
theorem dX4_count_124 : decode cX4_count 124 = .ok (.aload_n 0, 1) := by decide +kernel
theorem dX4_count_125 : decode cX4_count 125 = .ok (.getfield 10, 3) := by decide +kernel
theorem dX4_count_128 : decode cX4_count 128 = .ok (.getfield 177, 3) := by decide +kernel
theorem dX4_count_131 : decode cX4_count 131 = .ok (.ireturn, 1) := by decide +kernel
theorem dX4_count_132 : decode cX4_count 132 = .ok (.aload_n 0, 1) := by decide +kernel
theorem dX4_count_133 : decode cX4_count 133 = .ok (.getfield 10, 3) := by decide +kernel
theorem dX4_count_136 : decode cX4_count 136 = .ok (.getfield 180, 3) := by decide +kernel
theorem dX4_count_139 : decode cX4_count 139 = .ok (.ireturn, 1) := by decide +kernel
theorem dX4_count_140 : decode cX4_count 140 = .ok (.aload_n 0, 1) := by decide +kernel
theorem dX4_count_141 : decode cX4_count 141 = .ok (.getfield 41, 3) := by decide +kernel
theorem dX4_count_144 : decode cX4_count 144 = .ok (.getfield 183, 3) := by decide +kernel
theorem dX4_count_147 : decode cX4_count 147 = .ok (.ireturn, 1) := by decide +kernel
theorem dX4_count_148 : decode cX4_count 148 = .ok (.aload_n 0, 1) := by decide +kernel
theorem dX4_count_149 : decode cX4_count 149 = .ok (.getfield 22, 3) := by decide +kernel
theorem dX4_count_152 : decode cX4_count 152 = .ok (.getfield 186, 3) := by decide +kernel
theorem dX4_count_155 : decode cX4_count 155 = .ok (.ireturn, 1) := by decide +kernel
theorem dX4_count_156 : decode cX4_count 156 = .ok (.ldc 42, 2) := by decide +kernel
theorem dX4_count_158 : decode cX4_count 158 = .ok (.ireturn, 1) := by decide +kernel
theorem dX4_untilSpark_0 : decode cX4_untilSpark 0 = .ok (.aload_n 0, 1) := by decide +kernel
theorem dX4_untilSpark_1 : decode cX4_untilSpark 1 = .ok (.getfield 16, 3) := by decide +kernel
theorem dX4_untilSpark_4 : decode cX4_untilSpark 4 = .ok (.aload_n 0, 1) := by decide +kernel
theorem dX4_untilSpark_5 : decode cX4_untilSpark 5 = .ok (.getfield 10, 3) := by decide +kernel
theorem dX4_untilSpark_8 : decode cX4_untilSpark 8 = .ok (.invokevirtual 189, 3) := by decide +kernel
theorem dX4_untilSpark_11 : decode cX4_untilSpark 11 = .ok (.aload_n 0, 1) := by decide +kernel
theorem dX4_untilSpark_12 : decode cX4_untilSpark 12 = .ok (.getfield 16, 3) := by decide +kernel
theorem dX4_untilSpark_15 : decode cX4_untilSpark 15 = .ok (.sipush 400, 3) := by decide +kernel
theorem dX4_untilSpark_18 : decode cX4_untilSpark 18 = .ok (.invokevirtual 192, 3) := by decide +kernel
theorem dX4_untilSpark_21 : decode cX4_untilSpark 21 = .ok (.ireturn, 1) := by decide +kernel
theorem dX4_ifTurned_0 : decode cX4_ifTurned 0 = .ok (.iload_n 1, 1) := by decide +kernel
theorem dX4_ifTurned_1 : decode cX4_ifTurned 1 = .ok (.iconst 1, 1) := by decide +kernel
theorem dX4_ifTurned_2 : decode cX4_ifTurned 2 = .ok (.if_icmp .lt 19, 3) := by decide +kernel
theorem dX4_ifTurned_5 : decode cX4_ifTurned 5 = .ok (.iload_n 1, 1) := by decide +kernel
theorem dX4_ifTurned_6 : decode cX4_ifTurned 6 = .ok (.sipush 400, 3) := by decide +kernel
theorem dX4_ifTurned_9 : decode cX4_ifTurned 9 = .ok (.if_icmp .gt 12, 3) := by decide +kernel
theorem dX4_ifTurned_12 : decode cX4_ifTurned 12 = .ok (.iload_n 2, 1) := by decide +kernel
theorem dX4_ifTurned_13 : decode cX4_ifTurned 13 = .ok (.ifCond .lt 8, 3) := by decide +kernel
theorem dX4_ifTurned_16 : decode cX4_ifTurned 16 = .ok (.iload_n 2, 1) := by decide +kernel
theorem dX4_ifTurned_17 : decode cX4_ifTurned 17 = .ok (.iconst 5, 1) := by decide +kernel
theorem dX4_ifTurned_18 : decode cX4_ifTurned 18 = .ok (.if_icmp .le 6, 3) := by decide +kernel
theorem dX4_ifTurned_21 : decode cX4_ifTurned 21 = .ok (.ldc 42, 2) := by decide +kernel
theorem dX4_ifTurned_23 : decode cX4_ifTurned 23 = .ok (.ireturn, 1) := by decide +kernel
theorem dX4_ifTurned_24 : decode cX4_ifTurned 24 = .ok (.aload_n 0, 1) := by decide +kernel
theorem dX4_ifTurned_25 : decode cX4_ifTurned 25 = .ok (.getfield 16, 3) := by decide +kernel
theorem dX4_ifTurned_28 : decode cX4_ifTurned 28 = .ok (.aload_n 0, 1) := by decide +kernel
theorem dX4_ifTurned_29 : decode cX4_ifTurned 29 = .ok (.getfield 10, 3) := by decide +kernel
theorem dX4_ifTurned_32 : decode cX4_ifTurned 32 = .ok (.invokevirtual 189, 3) := by decide +kernel
theorem dX4_ifTurned_35 : decode cX4_ifTurned 35 = .ok (.aload_n 0, 1) := by decide +kernel
theorem dX4_ifTurned_36 : decode cX4_ifTurned 36 = .ok (.getfield 16, 3) := by decide +kernel
theorem dX4_ifTurned_39 : decode cX4_ifTurned 39 = .ok (.iload_n 1, 1) := by decide +kernel
theorem dX4_ifTurned_40 : decode cX4_ifTurned 40 = .ok (.invokevirtual 195, 3) := by decide +kernel
theorem dX4_ifTurned_43 : decode cX4_ifTurned 43 = .ok (.istore_n 3, 1) := by decide +kernel
theorem dX4_ifTurned_44 : decode cX4_ifTurned 44 = .ok (.iload_n 2, 1) := by decide +kernel
theorem dX4_ifTurned_45 : decode cX4_ifTurned 45 = .ok (.tableswitch 89 0 4 #[35, 51, 67, 77, 87], 35) := by decide +kernel
theorem dX4_ifTurned_80 : decode cX4_ifTurned 80 = .ok (.aload_n 0, 1) := by decide +kernel
theorem dX4_ifTurned_81 : decode cX4_ifTurned 81 = .ok (.getfield 16, 3) := by decide +kernel
theorem dX4_ifTurned_84 : decode cX4_ifTurned 84 = .ok (.getfield 93, 3) := by decide +kernel
theorem dX4_ifTurned_87 : decode cX4_ifTurned 87 = .ok (.aload_n 0, 1) := by decide +kernel
theorem dX4_ifTurned_88 : decode cX4_ifTurned 88 = .ok (.getfield 10, 3) := by decide +kernel
theorem dX4_ifTurned_91 : decode cX4_ifTurned 91 = .ok (.getfield 93, 3) := by decide +kernel
theorem dX4_ifTurned_94 : decode cX4_ifTurned 94 = .ok (.isub, 1) := by decide +kernel
theorem dX4_ifTurned_95 : decode cX4_ifTurned 95 = .ok (.ireturn, 1) := by decide +kernel
theorem dX4_ifTurned_96 : decode cX4_ifTurned 96 = .ok (.aload_n 0, 1) := by decide +kernel
theorem dX4_ifTurned_97 : decode cX4_ifTurned 97 = .ok (.getfield 16, 3) := by decide +kernel
theorem dX4_ifTurned_100 : decode cX4_ifTurned 100 = .ok (.getfield 165, 3) := by decide +kernel
theorem dX4_ifTurned_103 : decode cX4_ifTurned 103 = .ok (.aload_n 0, 1) := by decide +kernel
theorem dX4_ifTurned_104 : decode cX4_ifTurned 104 = .ok (.getfield 10, 3) := by decide +kernel
theorem dX4_ifTurned_107 : decode cX4_ifTurned 107 = .ok (.getfield 165, 3) := by decide +kernel
theorem dX4_ifTurned_110 : decode cX4_ifTurned 110 = .ok (.isub, 1) := by decide +kernel
theorem dX4_ifTurned_111 : decode cX4_ifTurned 111 = .ok (.ireturn, 1) := by decide +kernel
theorem dX4_ifTurned_112 : decode cX4_ifTurned 112 = .ok (.aload_n 0, 1) := by decide +kernel
theorem dX4_ifTurned_113 : decode cX4_ifTurned 113 = .ok (.getfield 16, 3) := by decide +kernel
theorem dX4_ifTurned_116 : decode cX4_ifTurned 116 = .ok (.getfield 150, 3) := by decide +kernel
theorem dX4_ifTurned_119 : decode cX4_ifTurned 119 = .ok (.iconst 0, 1) := by decide +kernel
theorem dX4_ifTurned_120 : decode cX4_ifTurned 120 = .ok (.iaload, 1) := by decide +kernel
theorem dX4_ifTurned_121 : decode cX4_ifTurned 121 = .ok (.ireturn, 1) := by decide +kernel
theorem dX4_ifTurned_122 : decode cX4_ifTurned 122 = .ok (.aload_n 0, 1) := by decide +kernel
theorem dX4_ifTurned_123 : decode cX4_ifTurned 123 = .ok (.getfield 16, 3) := by decide +kernel
theorem dX4_ifTurned_126 : decode cX4_ifTurned 126 = .ok (.getfield 150, 3) := by decide +kernel
theorem dX4_ifTurned_129 : decode cX4_ifTurned 129 = .ok (.iconst 1, 1) := by decide +kernel
theorem dX4_ifTurned_130 : decode cX4_ifTurned 130 = .ok (.iaload, 1) := by decide +kernel
theorem dX4_ifTurned_131 : decode cX4_ifTurned 131 = .ok (.ireturn, 1) := by decide +kernel
theorem dX4_ifTurned_132 : decode cX4_ifTurned 132 = .ok (.iload_n 3, 1) := by decide +kernel
theorem dX4_ifTurned_133 : decode cX4_ifTurned 133 = .ok (.ireturn, 1) := by decide +kernel
theorem dX4_ifTurned_134 : decode cX4_ifTurned 134 = .ok (.aload_n 0, 1) := by decide +kernel
theorem dX4_ifTurned_135 : decode cX4_ifTurned 135 = .ok (.getfield 16, 3) := by decide +kernel
theorem dX4_ifTurned_138 : decode cX4_ifTurned 138 = .ok (.invokevirtual 171, 3) := by decide +kernel
theorem dX4_ifTurned_141 : decode cX4_ifTurned 141 = .ok (.ireturn, 1) := by decide +kernel
theorem dX4_widestGap_0 : decode cX4_widestGap 0 = .ok (.aload_n 0, 1) := by decide +kernel
theorem dX4_widestGap_1 : decode cX4_widestGap 1 = .ok (.getfield 16, 3) := by decide +kernel
theorem dX4_widestGap_4 : decode cX4_widestGap 4 = .ok (.aload_n 0, 1) := by decide +kernel
theorem dX4_widestGap_5 : decode cX4_widestGap 5 = .ok (.getfield 10, 3) := by decide +kernel
theorem dX4_widestGap_8 : decode cX4_widestGap 8 = .ok (.invokevirtual 189, 3) := by decide +kernel
theorem dX4_widestGap_11 : decode cX4_widestGap 11 = .ok (.iconst 0, 1) := by decide +kernel
theorem dX4_widestGap_12 : decode cX4_widestGap 12 = .ok (.istore_n 1, 1) := by decide +kernel
theorem dX4_widestGap_13 : decode cX4_widestGap 13 = .ok (.iconst 0, 1) := by decide +kernel
theorem dX4_widestGap_14 : decode cX4_widestGap 14 = .ok (.istore_n 2, 1) := by decide +kernel
theorem dX4_widestGap_15 : decode cX4_widestGap 15 = .ok (.iload_n 2, 1) := by decide +kernel
theorem dX4_widestGap_16 : decode cX4_widestGap 16 = .ok (.sipush 200, 3) := by decide +kernel
theorem dX4_widestGap_19 : decode cX4_widestGap 19 = .ok (.if_icmp .ge 28, 3) := by decide +kernel
theorem dX4_widestGap_22 : decode cX4_widestGap 22 = .ok (.aload_n 0, 1) := by decide +kernel
theorem dX4_widestGap_23 : decode cX4_widestGap 23 = .ok (.getfield 16, 3) := by decide +kernel
theorem dX4_widestGap_26 : decode cX4_widestGap 26 = .ok (.invokevirtual 198, 3) := by decide +kernel
theorem dX4_widestGap_29 : decode cX4_widestGap 29 = .ok (.iload_n 1, 1) := by decide +kernel
theorem dX4_widestGap_30 : decode cX4_widestGap 30 = .ok (.aload_n 0, 1) := by decide +kernel
theorem dX4_widestGap_31 : decode cX4_widestGap 31 = .ok (.getfield 16, 3) := by decide +kernel
theorem dX4_widestGap_34 : decode cX4_widestGap 34 = .ok (.invokevirtual 201, 3) := by decide +kernel
theorem dX4_widestGap_37 : decode cX4_widestGap 37 = .ok (.invokestatic 204, 3) := by decide +kernel
theorem dX4_widestGap_40 : decode cX4_widestGap 40 = .ok (.istore_n 1, 1) := by decide +kernel
theorem dX4_widestGap_41 : decode cX4_widestGap 41 = .ok (.iinc 2 1, 3) := by decide +kernel
theorem dX4_widestGap_44 : decode cX4_widestGap 44 = .ok (.goto (-29), 3) := by decide +kernel
theorem dX4_widestGap_47 : decode cX4_widestGap 47 = .ok (.iload_n 1, 1) := by decide +kernel
theorem dX4_widestGap_48 : decode cX4_widestGap 48 = .ok (.bipush 10, 2) := by decide +kernel
theorem dX4_widestGap_50 : decode cX4_widestGap 50 = .ok (.idiv, 1) := by decide +kernel
theorem dX4_widestGap_51 : decode cX4_widestGap 51 = .ok (.getstatic 47, 3) := by decide +kernel
theorem dX4_widestGap_54 : decode cX4_widestGap 54 = .ok (.iconst 2, 1) := by decide +kernel
theorem dX4_widestGap_55 : decode cX4_widestGap 55 = .ok (.iaload, 1) := by decide +kernel
theorem dX4_widestGap_56 : decode cX4_widestGap 56 = .ok (.invokestatic 209, 3) := by decide +kernel
theorem dX4_widestGap_59 : decode cX4_widestGap 59 = .ok (.istore_n 2, 1) := by decide +kernel
theorem dX4_widestGap_60 : decode cX4_widestGap 60 = .ok (.iload_n 2, 1) := by decide +kernel
theorem dX4_widestGap_61 : decode cX4_widestGap 61 = .ok (.getstatic 43, 3) := by decide +kernel
theorem dX4_widestGap_64 : decode cX4_widestGap 64 = .ok (.iconst 2, 1) := by decide +kernel
theorem dX4_widestGap_65 : decode cX4_widestGap 65 = .ok (.iaload, 1) := by decide +kernel
theorem dX4_widestGap_66 : decode cX4_widestGap 66 = .ok (.if_icmp .ge 8, 3) := by decide +kernel
theorem dX4_widestGap_69 : decode cX4_widestGap 69 = .ok (.ldc 91, 2) := by decide +kernel
theorem dX4_widestGap_71 : decode cX4_widestGap 71 = .ok (.goto 4, 3) := by decide +kernel
theorem dX4_widestGap_74 : decode cX4_widestGap 74 = .ok (.iload_n 2, 1) := by decide +kernel
theorem dX4_widestGap_75 : decode cX4_widestGap 75 = .ok (.ireturn, 1) := by decide +kernel
theorem dX4_mostDamp_0 : decode cX4_mostDamp 0 = .ok (.getstatic 47, 3) := by decide +kernel
theorem dX4_mostDamp_3 : decode cX4_mostDamp 3 = .ok (.iconst 1, 1) := by decide +kernel
theorem dX4_mostDamp_4 : decode cX4_mostDamp 4 = .ok (.iaload, 1) := by decide +kernel
theorem dX4_mostDamp_5 : decode cX4_mostDamp 5 = .ok (.istore_n 1, 1) := by decide +kernel
theorem dX4_mostDamp_6 : decode cX4_mostDamp 6 = .ok (.iload_n 1, 1) := by decide +kernel
theorem dX4_mostDamp_7 : decode cX4_mostDamp 7 = .ok (.getstatic 43, 3) := by decide +kernel
theorem dX4_mostDamp_10 : decode cX4_mostDamp 10 = .ok (.iconst 1, 1) := by decide +kernel
theorem dX4_mostDamp_11 : decode cX4_mostDamp 11 = .ok (.iaload, 1) := by decide +kernel
theorem dX4_mostDamp_12 : decode cX4_mostDamp 12 = .ok (.if_icmp .lt 47, 3) := by decide +kernel
theorem dX4_mostDamp_15 : decode cX4_mostDamp 15 = .ok (.aload_n 0, 1) := by decide +kernel
theorem dX4_mostDamp_16 : decode cX4_mostDamp 16 = .ok (.getfield 16, 3) := by decide +kernel
theorem dX4_mostDamp_19 : decode cX4_mostDamp 19 = .ok (.aload_n 0, 1) := by decide +kernel
theorem dX4_mostDamp_20 : decode cX4_mostDamp 20 = .ok (.getfield 10, 3) := by decide +kernel
theorem dX4_mostDamp_23 : decode cX4_mostDamp 23 = .ok (.invokevirtual 189, 3) := by decide +kernel
theorem dX4_mostDamp_26 : decode cX4_mostDamp 26 = .ok (.aload_n 0, 1) := by decide +kernel
theorem dX4_mostDamp_27 : decode cX4_mostDamp 27 = .ok (.getfield 16, 3) := by decide +kernel
theorem dX4_mostDamp_30 : decode cX4_mostDamp 30 = .ok (.getfield 59, 3) := by decide +kernel
theorem dX4_mostDamp_33 : decode cX4_mostDamp 33 = .ok (.iconst 1, 1) := by decide +kernel
theorem dX4_mostDamp_34 : decode cX4_mostDamp 34 = .ok (.iload_n 1, 1) := by decide +kernel
theorem dX4_mostDamp_35 : decode cX4_mostDamp 35 = .ok (.iastore, 1) := by decide +kernel
theorem dX4_mostDamp_36 : decode cX4_mostDamp 36 = .ok (.aload_n 0, 1) := by decide +kernel
theorem dX4_mostDamp_37 : decode cX4_mostDamp 37 = .ok (.getfield 16, 3) := by decide +kernel
theorem dX4_mostDamp_40 : decode cX4_mostDamp 40 = .ok (.sipush 200, 3) := by decide +kernel
theorem dX4_mostDamp_43 : decode cX4_mostDamp 43 = .ok (.invokevirtual 192, 3) := by decide +kernel
theorem dX4_mostDamp_46 : decode cX4_mostDamp 46 = .ok (.ldc 91, 2) := by decide +kernel
theorem dX4_mostDamp_48 : decode cX4_mostDamp 48 = .ok (.if_icmp .eq 5, 3) := by decide +kernel
theorem dX4_mostDamp_51 : decode cX4_mostDamp 51 = .ok (.iload_n 1, 1) := by decide +kernel
theorem dX4_mostDamp_52 : decode cX4_mostDamp 52 = .ok (.ireturn, 1) := by decide +kernel
theorem dX4_mostDamp_53 : decode cX4_mostDamp 53 = .ok (.iinc 1 (-1), 3) := by decide +kernel
theorem dX4_mostDamp_56 : decode cX4_mostDamp 56 = .ok (.goto (-50), 3) := by decide +kernel
theorem dX4_mostDamp_59 : decode cX4_mostDamp 59 = .ok (.ldc 91, 2) := by decide +kernel
theorem dX4_mostDamp_61 : decode cX4_mostDamp 61 = .ok (.ireturn, 1) := by decide +kernel
theorem dX4_put_0 : decode cX4_put 0 = .ok (.lload_n 1, 1) := by decide +kernel
theorem dX4_put_1 : decode cX4_put 1 = .ok (.invokestatic 212, 3) := by decide +kernel
theorem dX4_put_4 : decode cX4_put 4 = .ok (.istore_n 3, 1) := by decide +kernel
theorem dX4_put_5 : decode cX4_put 5 = .ok (.iload_n 3, 1) := by decide +kernel
theorem dX4_put_6 : decode cX4_put 6 = .ok (.ifCond .ne 6, 3) := by decide +kernel
theorem dX4_put_9 : decode cX4_put 9 = .ok (.ldc 42, 2) := by decide +kernel
theorem dX4_put_11 : decode cX4_put 11 = .ok (.ireturn, 1) := by decide +kernel
theorem dX4_put_12 : decode cX4_put 12 = .ok (.aload_n 0, 1) := by decide +kernel
theorem dX4_put_13 : decode cX4_put 13 = .ok (.getfield 41, 3) := by decide +kernel
theorem dX4_put_16 : decode cX4_put 16 = .ok (.getfield 183, 3) := by decide +kernel
theorem dX4_put_19 : decode cX4_put 19 = .ok (.iload_n 3, 1) := by decide +kernel
theorem dX4_put_20 : decode cX4_put 20 = .ok (.iadd, 1) := by decide +kernel
theorem dX4_put_21 : decode cX4_put 21 = .ok (.bipush 60, 2) := by decide +kernel
theorem dX4_put_23 : decode cX4_put 23 = .ok (.if_icmp .le 6, 3) := by decide +kernel
theorem dX4_put_26 : decode cX4_put 26 = .ok (.ldc 77, 2) := by decide +kernel
theorem dX4_put_28 : decode cX4_put 28 = .ok (.ireturn, 1) := by decide +kernel
theorem dX4_put_29 : decode cX4_put 29 = .ok (.aload_n 0, 1) := by decide +kernel
theorem dX4_put_30 : decode cX4_put 30 = .ok (.getfield 41, 3) := by decide +kernel
theorem dX4_put_33 : decode cX4_put 33 = .ok (.lload_n 1, 1) := by decide +kernel
theorem dX4_put_34 : decode cX4_put 34 = .ok (.iload_n 3, 1) := by decide +kernel
theorem dX4_put_35 : decode cX4_put 35 = .ok (.invokevirtual 216, 3) := by decide +kernel
theorem dX4_put_38 : decode cX4_put 38 = .ok (.aload_n 0, 1) := by decide +kernel
theorem dX4_put_39 : decode cX4_put 39 = .ok (.getfield 41, 3) := by decide +kernel
theorem dX4_put_42 : decode cX4_put 42 = .ok (.getfield 183, 3) := by decide +kernel
theorem dX4_put_45 : decode cX4_put 45 = .ok (.ireturn, 1) := by decide +kernel
theorem dX4_wipe_0 : decode cX4_wipe 0 = .ok (.aload_n 0, 1) := by decide +kernel
theorem dX4_wipe_1 : decode cX4_wipe 1 = .ok (.getfield 41, 3) := by decide +kernel
theorem dX4_wipe_4 : decode cX4_wipe 4 = .ok (.getfield 183, 3) := by decide +kernel
theorem dX4_wipe_7 : decode cX4_wipe 7 = .ok (.istore_n 1, 1) := by decide +kernel
theorem dX4_wipe_8 : decode cX4_wipe 8 = .ok (.aload_n 0, 1) := by decide +kernel
theorem dX4_wipe_9 : decode cX4_wipe 9 = .ok (.getfield 41, 3) := by decide +kernel
theorem dX4_wipe_12 : decode cX4_wipe 12 = .ok (.invokevirtual 111, 3) := by decide +kernel
theorem dX4_wipe_15 : decode cX4_wipe 15 = .ok (.iload_n 1, 1) := by decide +kernel
theorem dX4_wipe_16 : decode cX4_wipe 16 = .ok (.ireturn, 1) := by decide +kernel
theorem dX4_undo_0 : decode cX4_undo 0 = .ok (.aload_n 0, 1) := by decide +kernel
theorem dX4_undo_1 : decode cX4_undo 1 = .ok (.getfield 22, 3) := by decide +kernel
theorem dX4_undo_4 : decode cX4_undo 4 = .ok (.aload_n 0, 1) := by decide +kernel
theorem dX4_undo_5 : decode cX4_undo 5 = .ok (.getfield 10, 3) := by decide +kernel
theorem dX4_undo_8 : decode cX4_undo 8 = .ok (.invokevirtual 220, 3) := by decide +kernel
theorem dX4_undo_11 : decode cX4_undo 11 = .ok (.ifCond .ne 6, 3) := by decide +kernel
theorem dX4_undo_14 : decode cX4_undo 14 = .ok (.ldc 54, 2) := by decide +kernel
theorem dX4_undo_16 : decode cX4_undo 16 = .ok (.ireturn, 1) := by decide +kernel
theorem dX4_undo_17 : decode cX4_undo 17 = .ok (.aload_n 0, 1) := by decide +kernel
theorem dX4_undo_18 : decode cX4_undo 18 = .ok (.getfield 22, 3) := by decide +kernel
theorem dX4_undo_21 : decode cX4_undo 21 = .ok (.getfield 186, 3) := by decide +kernel
theorem dX4_undo_24 : decode cX4_undo 24 = .ok (.ireturn, 1) := by decide +kernel
theorem dX4_save_0 : decode cX4_save 0 = .ok (.iload_n 1, 1) := by decide +kernel
theorem dX4_save_1 : decode cX4_save 1 = .ok (.ifCond .lt 8, 3) := by decide +kernel
theorem dX4_save_4 : decode cX4_save 4 = .ok (.iload_n 1, 1) := by decide +kernel
theorem dX4_save_5 : decode cX4_save 5 = .ok (.iconst 2, 1) := by decide +kernel
theorem dX4_save_6 : decode cX4_save 6 = .ok (.if_icmp .lt 6, 3) := by decide +kernel
theorem dX4_save_9 : decode cX4_save 9 = .ok (.ldc 42, 2) := by decide +kernel
theorem dX4_save_11 : decode cX4_save 11 = .ok (.ireturn, 1) := by decide +kernel
theorem dX4_save_12 : decode cX4_save 12 = .ok (.aload_n 0, 1) := by decide +kernel
theorem dX4_save_13 : decode cX4_save 13 = .ok (.getfield 26, 3) := by decide +kernel
theorem dX4_save_16 : decode cX4_save 16 = .ok (.iload_n 1, 1) := by decide +kernel
theorem dX4_save_17 : decode cX4_save 17 = .ok (.aaload, 1) := by decide +kernel
theorem dX4_save_18 : decode cX4_save 18 = .ok (.astore_n 2, 1) := by decide +kernel
theorem dX4_save_19 : decode cX4_save 19 = .ok (.aload_n 2, 1) := by decide +kernel
theorem dX4_save_20 : decode cX4_save 20 = .ok (.ifnonnull 18, 3) := by decide +kernel
theorem dX4_save_23 : decode cX4_save 23 = .ok (.new 7, 3) := by decide +kernel
theorem dX4_save_26 : decode cX4_save 26 = .ok (.dup, 1) := by decide +kernel
theorem dX4_save_27 : decode cX4_save 27 = .ok (.invokespecial 9, 3) := by decide +kernel
theorem dX4_save_30 : decode cX4_save 30 = .ok (.astore_n 2, 1) := by decide +kernel
theorem dX4_save_31 : decode cX4_save 31 = .ok (.aload_n 0, 1) := by decide +kernel
theorem dX4_save_32 : decode cX4_save 32 = .ok (.getfield 26, 3) := by decide +kernel
theorem dX4_save_35 : decode cX4_save 35 = .ok (.iload_n 1, 1) := by decide +kernel
theorem dX4_save_36 : decode cX4_save 36 = .ok (.aload_n 2, 1) := by decide +kernel
theorem dX4_save_37 : decode cX4_save 37 = .ok (.aastore, 1) := by decide +kernel
theorem dX4_save_38 : decode cX4_save 38 = .ok (.aload_n 2, 1) := by decide +kernel
theorem dX4_save_39 : decode cX4_save 39 = .ok (.aload_n 0, 1) := by decide +kernel
theorem dX4_save_40 : decode cX4_save 40 = .ok (.getfield 10, 3) := by decide +kernel
theorem dX4_save_43 : decode cX4_save 43 = .ok (.invokevirtual 189, 3) := by decide +kernel
theorem dX4_save_46 : decode cX4_save 46 = .ok (.aload_n 0, 1) := by decide +kernel
theorem dX4_save_47 : decode cX4_save 47 = .ok (.getfield 10, 3) := by decide +kernel
theorem dX4_save_50 : decode cX4_save 50 = .ok (.getfield 131, 3) := by decide +kernel
theorem dX4_save_53 : decode cX4_save 53 = .ok (.ireturn, 1) := by decide +kernel
theorem dX4_restore_0 : decode cX4_restore 0 = .ok (.iload_n 1, 1) := by decide +kernel
theorem dX4_restore_1 : decode cX4_restore 1 = .ok (.ifCond .lt 8, 3) := by decide +kernel
theorem dX4_restore_4 : decode cX4_restore 4 = .ok (.iload_n 1, 1) := by decide +kernel
theorem dX4_restore_5 : decode cX4_restore 5 = .ok (.iconst 2, 1) := by decide +kernel
theorem dX4_restore_6 : decode cX4_restore 6 = .ok (.if_icmp .lt 6, 3) := by decide +kernel
theorem dX4_restore_9 : decode cX4_restore 9 = .ok (.ldc 42, 2) := by decide +kernel
theorem dX4_restore_11 : decode cX4_restore 11 = .ok (.ireturn, 1) := by decide +kernel
theorem dX4_restore_12 : decode cX4_restore 12 = .ok (.aload_n 0, 1) := by decide +kernel
theorem dX4_restore_13 : decode cX4_restore 13 = .ok (.getfield 26, 3) := by decide +kernel
theorem dX4_restore_16 : decode cX4_restore 16 = .ok (.iload_n 1, 1) := by decide +kernel
theorem dX4_restore_17 : decode cX4_restore 17 = .ok (.aaload, 1) := by decide +kernel
theorem dX4_restore_18 : decode cX4_restore 18 = .ok (.astore_n 2, 1) := by decide +kernel
theorem dX4_restore_19 : decode cX4_restore 19 = .ok (.aload_n 2, 1) := by decide +kernel
theorem dX4_restore_20 : decode cX4_restore 20 = .ok (.ifnonnull 6, 3) := by decide +kernel
theorem dX4_restore_23 : decode cX4_restore 23 = .ok (.ldc 54, 2) := by decide +kernel
theorem dX4_restore_25 : decode cX4_restore 25 = .ok (.ireturn, 1) := by decide +kernel
theorem dX4_restore_26 : decode cX4_restore 26 = .ok (.aload_n 0, 1) := by decide +kernel
theorem dX4_restore_27 : decode cX4_restore 27 = .ok (.getfield 22, 3) := by decide +kernel
theorem dX4_restore_30 : decode cX4_restore 30 = .ok (.aload_n 0, 1) := by decide +kernel
theorem dX4_restore_31 : decode cX4_restore 31 = .ok (.getfield 10, 3) := by decide +kernel
theorem dX4_restore_34 : decode cX4_restore 34 = .ok (.invokevirtual 55, 3) := by decide +kernel
theorem dX4_restore_37 : decode cX4_restore 37 = .ok (.aload_n 0, 1) := by decide +kernel
theorem dX4_restore_38 : decode cX4_restore 38 = .ok (.getfield 10, 3) := by decide +kernel
theorem dX4_restore_41 : decode cX4_restore 41 = .ok (.aload_n 2, 1) := by decide +kernel
theorem dX4_restore_42 : decode cX4_restore 42 = .ok (.invokevirtual 189, 3) := by decide +kernel
theorem dX4_restore_45 : decode cX4_restore 45 = .ok (.aload_n 0, 1) := by decide +kernel
theorem dX4_restore_46 : decode cX4_restore 46 = .ok (.getfield 10, 3) := by decide +kernel
theorem dX4_restore_49 : decode cX4_restore 49 = .ok (.getfield 131, 3) := by decide +kernel
theorem dX4_restore_52 : decode cX4_restore 52 = .ok (.ireturn, 1) := by decide +kernel
theorem dX4_isNoDisc_0 : decode cX4_isNoDisc 0 = .ok (.iload_n 0, 1) := by decide +kernel
theorem dX4_isNoDisc_1 : decode cX4_isNoDisc 1 = .ok (.ifCond .lt 8, 3) := by decide +kernel
theorem dX4_isNoDisc_4 : decode cX4_isNoDisc 4 = .ok (.iload_n 0, 1) := by decide +kernel
theorem dX4_isNoDisc_5 : decode cX4_isNoDisc 5 = .ok (.iconst 2, 1) := by decide +kernel
theorem dX4_isNoDisc_6 : decode cX4_isNoDisc 6 = .ok (.if_icmp .lt 7, 3) := by decide +kernel
theorem dX4_isNoDisc_9 : decode cX4_isNoDisc 9 = .ok (.iconst 1, 1) := by decide +kernel
theorem dX4_isNoDisc_10 : decode cX4_isNoDisc 10 = .ok (.goto 4, 3) := by decide +kernel
theorem dX4_isNoDisc_13 : decode cX4_isNoDisc 13 = .ok (.iconst 0, 1) := by decide +kernel
theorem dX4_isNoDisc_14 : decode cX4_isNoDisc 14 = .ok (.ireturn, 1) := by decide +kernel
theorem dX4_isNoPlace_0 : decode cX4_isNoPlace 0 = .ok (.iload_n 0, 1) := by decide +kernel
theorem dX4_isNoPlace_1 : decode cX4_isNoPlace 1 = .ok (.ifCond .lt 9, 3) := by decide +kernel
theorem dX4_isNoPlace_4 : decode cX4_isNoPlace 4 = .ok (.iload_n 0, 1) := by decide +kernel
theorem dX4_isNoPlace_5 : decode cX4_isNoPlace 5 = .ok (.bipush 12, 2) := by decide +kernel
theorem dX4_isNoPlace_7 : decode cX4_isNoPlace 7 = .ok (.if_icmp .lt 7, 3) := by decide +kernel
theorem dX4_isNoPlace_10 : decode cX4_isNoPlace 10 = .ok (.iconst 1, 1) := by decide +kernel
theorem dX4_isNoPlace_11 : decode cX4_isNoPlace 11 = .ok (.goto 4, 3) := by decide +kernel
theorem dX4_isNoPlace_14 : decode cX4_isNoPlace 14 = .ok (.iconst 0, 1) := by decide +kernel
theorem dX4_isNoPlace_15 : decode cX4_isNoPlace 15 = .ok (.ireturn, 1) := by decide +kernel
theorem dX4_charactersIn_0 : decode cX4_charactersIn 0 = .ok (.iconst 0, 1) := by decide +kernel
theorem dX4_charactersIn_1 : decode cX4_charactersIn 1 = .ok (.istore_n 2, 1) := by decide +kernel
theorem dX4_charactersIn_2 : decode cX4_charactersIn 2 = .ok (.lload_n 0, 1) := by decide +kernel
theorem dX4_charactersIn_3 : decode cX4_charactersIn 3 = .ok (.lstore_n 3, 1) := by decide +kernel
theorem dX4_charactersIn_4 : decode cX4_charactersIn 4 = .ok (.iconst 0, 1) := by decide +kernel
theorem dX4_charactersIn_5 : decode cX4_charactersIn 5 = .ok (.istore 5, 2) := by decide +kernel
theorem dX4_charactersIn_7 : decode cX4_charactersIn 7 = .ok (.iload 5, 2) := by decide +kernel
theorem dX4_charactersIn_9 : decode cX4_charactersIn 9 = .ok (.bipush 8, 2) := by decide +kernel
theorem dX4_charactersIn_11 : decode cX4_charactersIn 11 = .ok (.if_icmp .ge 47, 3) := by decide +kernel
theorem dX4_charactersIn_14 : decode cX4_charactersIn 14 = .ok (.lload_n 3, 1) := by decide +kernel
theorem dX4_charactersIn_15 : decode cX4_charactersIn 15 = .ok (.lconst 0, 1) := by decide +kernel
theorem dX4_charactersIn_16 : decode cX4_charactersIn 16 = .ok (.lcmp, 1) := by decide +kernel
theorem dX4_charactersIn_17 : decode cX4_charactersIn 17 = .ok (.ifCond .eq 41, 3) := by decide +kernel
theorem dX4_charactersIn_20 : decode cX4_charactersIn 20 = .ok (.lload_n 3, 1) := by decide +kernel
theorem dX4_charactersIn_21 : decode cX4_charactersIn 21 = .ok (.ldc2_w 224, 3) := by decide +kernel
theorem dX4_charactersIn_24 : decode cX4_charactersIn 24 = .ok (.land, 1) := by decide +kernel
theorem dX4_charactersIn_25 : decode cX4_charactersIn 25 = .ok (.l2i, 1) := by decide +kernel
theorem dX4_charactersIn_26 : decode cX4_charactersIn 26 = .ok (.istore 6, 2) := by decide +kernel
theorem dX4_charactersIn_28 : decode cX4_charactersIn 28 = .ok (.iload 6, 2) := by decide +kernel
theorem dX4_charactersIn_30 : decode cX4_charactersIn 30 = .ok (.bipush 33, 2) := by decide +kernel
theorem dX4_charactersIn_32 : decode cX4_charactersIn 32 = .ok (.if_icmp .lt 10, 3) := by decide +kernel
theorem dX4_charactersIn_35 : decode cX4_charactersIn 35 = .ok (.iload 6, 2) := by decide +kernel
theorem dX4_charactersIn_37 : decode cX4_charactersIn 37 = .ok (.bipush 126, 2) := by decide +kernel
theorem dX4_charactersIn_39 : decode cX4_charactersIn 39 = .ok (.if_icmp .le 5, 3) := by decide +kernel
theorem dX4_charactersIn_42 : decode cX4_charactersIn 42 = .ok (.iconst 0, 1) := by decide +kernel
theorem dX4_charactersIn_43 : decode cX4_charactersIn 43 = .ok (.ireturn, 1) := by decide +kernel
theorem dX4_charactersIn_44 : decode cX4_charactersIn 44 = .ok (.iinc 2 1, 3) := by decide +kernel
theorem dX4_charactersIn_47 : decode cX4_charactersIn 47 = .ok (.lload_n 3, 1) := by decide +kernel
theorem dX4_charactersIn_48 : decode cX4_charactersIn 48 = .ok (.bipush 8, 2) := by decide +kernel
theorem dX4_charactersIn_50 : decode cX4_charactersIn 50 = .ok (.lushr, 1) := by decide +kernel
theorem dX4_charactersIn_51 : decode cX4_charactersIn 51 = .ok (.lstore_n 3, 1) := by decide +kernel
theorem dX4_charactersIn_52 : decode cX4_charactersIn 52 = .ok (.iinc 5 1, 3) := by decide +kernel
theorem dX4_charactersIn_55 : decode cX4_charactersIn 55 = .ok (.goto (-48), 3) := by decide +kernel
theorem dX4_charactersIn_58 : decode cX4_charactersIn 58 = .ok (.iload_n 2, 1) := by decide +kernel
theorem dX4_charactersIn_59 : decode cX4_charactersIn 59 = .ok (.ireturn, 1) := by decide +kernel
theorem dX4_limited_0 : decode cX4_limited 0 = .ok (.iload_n 1, 1) := by decide +kernel
theorem dX4_limited_1 : decode cX4_limited 1 = .ok (.iload_n 2, 1) := by decide +kernel
theorem dX4_limited_2 : decode cX4_limited 2 = .ok (.iload_n 0, 1) := by decide +kernel
theorem dX4_limited_3 : decode cX4_limited 3 = .ok (.invokestatic 209, 3) := by decide +kernel
theorem dX4_limited_6 : decode cX4_limited 6 = .ok (.invokestatic 204, 3) := by decide +kernel
theorem dX4_limited_9 : decode cX4_limited 9 = .ok (.ireturn, 1) := by decide +kernel
theorem dX4_copyNumbers_0 : decode cX4_copyNumbers 0 = .ok (.aload_n 0, 1) := by decide +kernel
theorem dX4_copyNumbers_1 : decode cX4_copyNumbers 1 = .ok (.iconst 0, 1) := by decide +kernel
theorem dX4_copyNumbers_2 : decode cX4_copyNumbers 2 = .ok (.aload_n 1, 1) := by decide +kernel
theorem dX4_copyNumbers_3 : decode cX4_copyNumbers 3 = .ok (.iconst 0, 1) := by decide +kernel
theorem dX4_copyNumbers_4 : decode cX4_copyNumbers 4 = .ok (.aload_n 0, 1) := by decide +kernel
theorem dX4_copyNumbers_5 : decode cX4_copyNumbers 5 = .ok (.arraylength, 1) := by decide +kernel
theorem dX4_copyNumbers_6 : decode cX4_copyNumbers 6 = .ok (.aload_n 1, 1) := by decide +kernel
theorem dX4_copyNumbers_7 : decode cX4_copyNumbers 7 = .ok (.arraylength, 1) := by decide +kernel
theorem dX4_copyNumbers_8 : decode cX4_copyNumbers 8 = .ok (.invokestatic 209, 3) := by decide +kernel
theorem dX4_copyNumbers_11 : decode cX4_copyNumbers 11 = .ok (.invokestatic 226, 3) := by decide +kernel
theorem dX4_copyNumbers_14 : decode cX4_copyNumbers 14 = .ok (.return_, 1) := by decide +kernel
theorem dJ6_signum_0f7a4_0 : decode cJ6_signum_0f7a4 0 = .ok (.iload_n 0, 1) := by decide +kernel
theorem dJ6_signum_0f7a4_1 : decode cJ6_signum_0f7a4 1 = .ok (.bipush 31, 2) := by decide +kernel
theorem dJ6_signum_0f7a4_3 : decode cJ6_signum_0f7a4 3 = .ok (.ishr, 1) := by decide +kernel
theorem dJ6_signum_0f7a4_4 : decode cJ6_signum_0f7a4 4 = .ok (.iload_n 0, 1) := by decide +kernel
theorem dJ6_signum_0f7a4_5 : decode cJ6_signum_0f7a4 5 = .ok (.ineg, 1) := by decide +kernel
theorem dJ6_signum_0f7a4_6 : decode cJ6_signum_0f7a4 6 = .ok (.bipush 31, 2) := by decide +kernel
theorem dJ6_signum_0f7a4_8 : decode cJ6_signum_0f7a4 8 = .ok (.iushr, 1) := by decide +kernel
theorem dJ6_signum_0f7a4_9 : decode cJ6_signum_0f7a4 9 = .ok (.ior, 1) := by decide +kernel
theorem dJ6_signum_0f7a4_10 : decode cJ6_signum_0f7a4 10 = .ok (.ireturn, 1) := by decide +kernel
theorem dJ9_floorMod_7cf53_0 : decode cJ9_floorMod_7cf53 0 = .ok (.iload_n 0, 1) := by decide +kernel
theorem dJ9_floorMod_7cf53_1 : decode cJ9_floorMod_7cf53 1 = .ok (.iload_n 1, 1) := by decide +kernel
theorem dJ9_floorMod_7cf53_2 : decode cJ9_floorMod_7cf53 2 = .ok (.irem, 1) := by decide +kernel
theorem dJ9_floorMod_7cf53_3 : decode cJ9_floorMod_7cf53 3 = .ok (.istore_n 2, 1) := by decide +kernel
theorem dJ9_floorMod_7cf53_4 : decode cJ9_floorMod_7cf53 4 = .ok (.iload_n 0, 1) := by decide +kernel
theorem dJ9_floorMod_7cf53_5 : decode cJ9_floorMod_7cf53 5 = .ok (.iload_n 1, 1) := by decide +kernel
theorem dJ9_floorMod_7cf53_6 : decode cJ9_floorMod_7cf53 6 = .ok (.ixor, 1) := by decide +kernel
theorem dJ9_floorMod_7cf53_7 : decode cJ9_floorMod_7cf53 7 = .ok (.ifCond .ge 11, 3) := by decide +kernel
theorem dJ9_floorMod_7cf53_10 : decode cJ9_floorMod_7cf53 10 = .ok (.iload_n 2, 1) := by decide +kernel
theorem dJ9_floorMod_7cf53_11 : decode cJ9_floorMod_7cf53 11 = .ok (.ifCond .eq 7, 3) := by decide +kernel
theorem dJ9_floorMod_7cf53_14 : decode cJ9_floorMod_7cf53 14 = .ok (.iload_n 2, 1) := by decide +kernel
theorem dJ9_floorMod_7cf53_15 : decode cJ9_floorMod_7cf53 15 = .ok (.iload_n 1, 1) := by decide +kernel
theorem dJ9_floorMod_7cf53_16 : decode cJ9_floorMod_7cf53 16 = .ok (.iadd, 1) := by decide +kernel
theorem dJ9_floorMod_7cf53_17 : decode cJ9_floorMod_7cf53 17 = .ok (.ireturn, 1) := by decide +kernel
theorem dJ9_floorMod_7cf53_18 : decode cJ9_floorMod_7cf53 18 = .ok (.iload_n 2, 1) := by decide +kernel
theorem dJ9_floorMod_7cf53_19 : decode cJ9_floorMod_7cf53 19 = .ok (.ireturn, 1) := by decide +kernel
theorem dJ9_abs_0f7a4_0 : decode cJ9_abs_0f7a4 0 = .ok (.iload_n 0, 1) := by decide +kernel
theorem dJ9_abs_0f7a4_1 : decode cJ9_abs_0f7a4 1 = .ok (.ifCond .ge 8, 3) := by decide +kernel
theorem dJ9_abs_0f7a4_4 : decode cJ9_abs_0f7a4 4 = .ok (.iload_n 0, 1) := by decide +kernel
theorem dJ9_abs_0f7a4_5 : decode cJ9_abs_0f7a4 5 = .ok (.ineg, 1) := by decide +kernel
theorem dJ9_abs_0f7a4_6 : decode cJ9_abs_0f7a4 6 = .ok (.goto 4, 3) := by decide +kernel
theorem dJ9_abs_0f7a4_9 : decode cJ9_abs_0f7a4 9 = .ok (.iload_n 0, 1) := by decide +kernel
theorem dJ9_abs_0f7a4_10 : decode cJ9_abs_0f7a4 10 = .ok (.ireturn, 1) := by decide +kernel
theorem dJ9_max_7cf53_0 : decode cJ9_max_7cf53 0 = .ok (.iload_n 0, 1) := by decide +kernel
theorem dJ9_max_7cf53_1 : decode cJ9_max_7cf53 1 = .ok (.iload_n 1, 1) := by decide +kernel
theorem dJ9_max_7cf53_2 : decode cJ9_max_7cf53 2 = .ok (.if_icmp .lt 7, 3) := by decide +kernel
theorem dJ9_max_7cf53_5 : decode cJ9_max_7cf53 5 = .ok (.iload_n 0, 1) := by decide +kernel
theorem dJ9_max_7cf53_6 : decode cJ9_max_7cf53 6 = .ok (.goto 4, 3) := by decide +kernel
theorem dJ9_max_7cf53_9 : decode cJ9_max_7cf53 9 = .ok (.iload_n 1, 1) := by decide +kernel
theorem dJ9_max_7cf53_10 : decode cJ9_max_7cf53 10 = .ok (.ireturn, 1) := by decide +kernel
theorem dJ9_min_7cf53_0 : decode cJ9_min_7cf53 0 = .ok (.iload_n 0, 1) := by decide +kernel
theorem dJ9_min_7cf53_1 : decode cJ9_min_7cf53 1 = .ok (.iload_n 1, 1) := by decide +kernel
theorem dJ9_min_7cf53_2 : decode cJ9_min_7cf53 2 = .ok (.if_icmp .gt 7, 3) := by decide +kernel
theorem dJ9_min_7cf53_5 : decode cJ9_min_7cf53 5 = .ok (.iload_n 0, 1) := by decide +kernel
theorem dJ9_min_7cf53_6 : decode cJ9_min_7cf53 6 = .ok (.goto 4, 3) := by decide +kernel
theorem dJ9_min_7cf53_9 : decode cJ9_min_7cf53 9 = .ok (.iload_n 1, 1) := by decide +kernel
theorem dJ9_min_7cf53_10 : decode cJ9_min_7cf53 10 = .ok (.ireturn, 1) := by decide +kernel
theorem dL_cell_0 : decode cL_cell 0 = .ok (.iload_n 1, 1) := by decide +kernel
theorem dL_cell_1 : decode cL_cell 1 = .ok (.aload_n 0, 1) := by decide +kernel
theorem dL_cell_2 : decode cL_cell 2 = .ok (.arraylength, 1) := by decide +kernel
theorem dL_cell_3 : decode cL_cell 3 = .ok (.if_icmp .ge 9, 3) := by decide +kernel
theorem dL_cell_6 : decode cL_cell 6 = .ok (.aload_n 0, 1) := by decide +kernel
theorem dL_cell_7 : decode cL_cell 7 = .ok (.iload_n 1, 1) := by decide +kernel
theorem dL_cell_8 : decode cL_cell 8 = .ok (.iaload, 1) := by decide +kernel
theorem dL_cell_9 : decode cL_cell 9 = .ok (.goto 11, 3) := by decide +kernel
theorem dL_cell_12 : decode cL_cell 12 = .ok (.ldc 7, 2) := by decide +kernel
theorem dL_cell_14 : decode cL_cell 14 = .ok (.iload_n 1, 1) := by decide +kernel
theorem dL_cell_15 : decode cL_cell 15 = .ok (.sipush 1381, 3) := by decide +kernel
theorem dL_cell_18 : decode cL_cell 18 = .ok (.iadd, 1) := by decide +kernel
theorem dL_cell_19 : decode cL_cell 19 = .ok (.imul, 1) := by decide +kernel
theorem dL_cell_20 : decode cL_cell 20 = .ok (.ireturn, 1) := by decide +kernel
theorem dL_up_0 : decode cL_up 0 = .ok (.iload_n 0, 1) := by decide +kernel
theorem dL_up_1 : decode cL_up 1 = .ok (.ldc 8, 2) := by decide +kernel
theorem dL_up_3 : decode cL_up 3 = .ok (.iand, 1) := by decide +kernel
theorem dL_up_4 : decode cL_up 4 = .ok (.iload_n 1, 1) := by decide +kernel
theorem dL_up_5 : decode cL_up 5 = .ok (.irem, 1) := by decide +kernel
theorem dL_up_6 : decode cL_up 6 = .ok (.ireturn, 1) := by decide +kernel
theorem dL_number_0 : decode cL_number 0 = .ok (.iload_n 1, 1) := by decide +kernel
theorem dL_number_1 : decode cL_number 1 = .ok (.bipush 10, 2) := by decide +kernel
theorem dL_number_3 : decode cL_number 3 = .ok (.if_icmp .lt 18, 3) := by decide +kernel
theorem dL_number_6 : decode cL_number 6 = .ok (.aload_n 0, 1) := by decide +kernel
theorem dL_number_7 : decode cL_number 7 = .ok (.bipush 48, 2) := by decide +kernel
theorem dL_number_9 : decode cL_number 9 = .ok (.iload_n 1, 1) := by decide +kernel
theorem dL_number_10 : decode cL_number 10 = .ok (.bipush 10, 2) := by decide +kernel
theorem dL_number_12 : decode cL_number 12 = .ok (.idiv, 1) := by decide +kernel
theorem dL_number_13 : decode cL_number 13 = .ok (.iadd, 1) := by decide +kernel
theorem dL_number_14 : decode cL_number 14 = .ok (.i2l, 1) := by decide +kernel
theorem dL_number_15 : decode cL_number 15 = .ok (.invokevirtual 9, 3) := by decide +kernel
theorem dL_number_18 : decode cL_number 18 = .ok (.ifCond .le 22, 3) := by decide +kernel
theorem dL_number_21 : decode cL_number 21 = .ok (.aload_n 0, 1) := by decide +kernel
theorem dL_number_22 : decode cL_number 22 = .ok (.bipush 48, 2) := by decide +kernel
theorem dL_number_24 : decode cL_number 24 = .ok (.iload_n 1, 1) := by decide +kernel
theorem dL_number_25 : decode cL_number 25 = .ok (.bipush 10, 2) := by decide +kernel
theorem dL_number_27 : decode cL_number 27 = .ok (.irem, 1) := by decide +kernel
theorem dL_number_28 : decode cL_number 28 = .ok (.iadd, 1) := by decide +kernel
theorem dL_number_29 : decode cL_number 29 = .ok (.i2l, 1) := by decide +kernel
theorem dL_number_30 : decode cL_number 30 = .ok (.invokevirtual 9, 3) := by decide +kernel
theorem dL_number_33 : decode cL_number 33 = .ok (.ifCond .le 7, 3) := by decide +kernel
theorem dL_number_36 : decode cL_number 36 = .ok (.iconst 1, 1) := by decide +kernel
theorem dL_number_37 : decode cL_number 37 = .ok (.goto 4, 3) := by decide +kernel
theorem dL_number_40 : decode cL_number 40 = .ok (.iconst 0, 1) := by decide +kernel
theorem dL_number_41 : decode cL_number 41 = .ok (.ireturn, 1) := by decide +kernel
theorem dL_isTouched_0 : decode cL_isTouched 0 = .ok (.aload_n 0, 1) := by decide +kernel
theorem dL_isTouched_1 : decode cL_isTouched 1 = .ok (.invokevirtual 15, 3) := by decide +kernel
theorem dL_isTouched_4 : decode cL_isTouched 4 = .ok (.ifCond .lt 93, 3) := by decide +kernel
theorem dL_isTouched_7 : decode cL_isTouched 7 = .ok (.aload_n 0, 1) := by decide +kernel
theorem dL_isTouched_8 : decode cL_isTouched 8 = .ok (.iload_n 1, 1) := by decide +kernel
theorem dL_isTouched_9 : decode cL_isTouched 9 = .ok (.ifCond .ne 9, 3) := by decide +kernel
theorem dL_isTouched_12 : decode cL_isTouched 12 = .ok (.ldc2_w 19, 3) := by decide +kernel
theorem dL_isTouched_15 : decode cL_isTouched 15 = .ok (.goto 6, 3) := by decide +kernel
theorem dL_isTouched_18 : decode cL_isTouched 18 = .ok (.ldc2_w 21, 3) := by decide +kernel
theorem dL_isTouched_21 : decode cL_isTouched 21 = .ok (.invokevirtual 9, 3) := by decide +kernel
theorem dL_isTouched_24 : decode cL_isTouched 24 = .ok (.ifCond .le 73, 3) := by decide +kernel
theorem dL_isTouched_27 : decode cL_isTouched 27 = .ok (.aload_n 0, 1) := by decide +kernel
theorem dL_isTouched_28 : decode cL_isTouched 28 = .ok (.iload_n 2, 1) := by decide +kernel
theorem dL_isTouched_29 : decode cL_isTouched 29 = .ok (.invokestatic 23, 3) := by decide +kernel
theorem dL_isTouched_32 : decode cL_isTouched 32 = .ok (.ifCond .eq 65, 3) := by decide +kernel
theorem dL_isTouched_35 : decode cL_isTouched 35 = .ok (.aload_n 0, 1) := by decide +kernel
theorem dL_isTouched_36 : decode cL_isTouched 36 = .ok (.ldc2_w 29, 3) := by decide +kernel
theorem dL_isTouched_39 : decode cL_isTouched 39 = .ok (.invokevirtual 9, 3) := by decide +kernel
theorem dL_isTouched_42 : decode cL_isTouched 42 = .ok (.ifCond .le 55, 3) := by decide +kernel
theorem dL_isTouched_45 : decode cL_isTouched 45 = .ok (.iload_n 3, 1) := by decide +kernel
theorem dL_isTouched_46 : decode cL_isTouched 46 = .ok (.ifCond .ge 13, 3) := by decide +kernel
theorem dL_isTouched_49 : decode cL_isTouched 49 = .ok (.aload_n 0, 1) := by decide +kernel
theorem dL_isTouched_50 : decode cL_isTouched 50 = .ok (.ldc2_w 31, 3) := by decide +kernel
theorem dL_isTouched_53 : decode cL_isTouched 53 = .ok (.invokevirtual 9, 3) := by decide +kernel
theorem dL_isTouched_56 : decode cL_isTouched 56 = .ok (.ifCond .le 41, 3) := by decide +kernel
theorem dL_isTouched_59 : decode cL_isTouched 59 = .ok (.aload_n 0, 1) := by decide +kernel
theorem dL_isTouched_60 : decode cL_isTouched 60 = .ok (.iload_n 3, 1) := by decide +kernel
theorem dL_isTouched_61 : decode cL_isTouched 61 = .ok (.ifCond .ge 8, 3) := by decide +kernel
theorem dL_isTouched_64 : decode cL_isTouched 64 = .ok (.iload_n 3, 1) := by decide +kernel
theorem dL_isTouched_65 : decode cL_isTouched 65 = .ok (.ineg, 1) := by decide +kernel
theorem dL_isTouched_66 : decode cL_isTouched 66 = .ok (.goto 4, 3) := by decide +kernel
theorem dL_isTouched_69 : decode cL_isTouched 69 = .ok (.iload_n 3, 1) := by decide +kernel
theorem dL_isTouched_70 : decode cL_isTouched 70 = .ok (.invokestatic 23, 3) := by decide +kernel
theorem dL_isTouched_73 : decode cL_isTouched 73 = .ok (.ifCond .eq 24, 3) := by decide +kernel
theorem dL_isTouched_76 : decode cL_isTouched 76 = .ok (.aload_n 0, 1) := by decide +kernel
theorem dL_isTouched_77 : decode cL_isTouched 77 = .ok (.invokevirtual 33, 3) := by decide +kernel
theorem dL_isTouched_80 : decode cL_isTouched 80 = .ok (.ifCond .ne 17, 3) := by decide +kernel
theorem dL_isTouched_83 : decode cL_isTouched 83 = .ok (.aload_n 0, 1) := by decide +kernel
theorem dL_isTouched_84 : decode cL_isTouched 84 = .ok (.iload_n 1, 1) := by decide +kernel
theorem dL_isTouched_85 : decode cL_isTouched 85 = .ok (.iload_n 2, 1) := by decide +kernel
theorem dL_isTouched_86 : decode cL_isTouched 86 = .ok (.invokevirtual 36, 3) := by decide +kernel
theorem dL_isTouched_89 : decode cL_isTouched 89 = .ok (.iload_n 3, 1) := by decide +kernel
theorem dL_isTouched_90 : decode cL_isTouched 90 = .ok (.if_icmp .ne 7, 3) := by decide +kernel
theorem dL_isTouched_93 : decode cL_isTouched 93 = .ok (.iconst 1, 1) := by decide +kernel
theorem dL_isTouched_94 : decode cL_isTouched 94 = .ok (.goto 4, 3) := by decide +kernel
theorem dL_isTouched_97 : decode cL_isTouched 97 = .ok (.iconst 0, 1) := by decide +kernel
theorem dL_isTouched_98 : decode cL_isTouched 98 = .ok (.ireturn, 1) := by decide +kernel
theorem dL_gap_0 : decode cL_gap 0 = .ok (.aload_n 0, 1) := by decide +kernel
theorem dL_gap_1 : decode cL_gap 1 = .ok (.iconst 0, 1) := by decide +kernel
theorem dL_gap_2 : decode cL_gap 2 = .ok (.iconst 0, 1) := by decide +kernel
theorem dL_gap_3 : decode cL_gap 3 = .ok (.invokevirtual 40, 3) := by decide +kernel
theorem dL_gap_6 : decode cL_gap 6 = .ok (.aload_n 0, 1) := by decide +kernel
theorem dL_gap_7 : decode cL_gap 7 = .ok (.iconst 1, 1) := by decide +kernel
theorem dL_gap_8 : decode cL_gap 8 = .ok (.iconst 0, 1) := by decide +kernel
theorem dL_gap_9 : decode cL_gap 9 = .ok (.invokevirtual 40, 3) := by decide +kernel
theorem dL_gap_12 : decode cL_gap 12 = .ok (.isub, 1) := by decide +kernel
theorem dL_gap_13 : decode cL_gap 13 = .ok (.istore_n 1, 1) := by decide +kernel
theorem dL_gap_14 : decode cL_gap 14 = .ok (.iload_n 1, 1) := by decide +kernel
theorem dL_gap_15 : decode cL_gap 15 = .ok (.ifCond .ge 8, 3) := by decide +kernel
theorem dL_gap_18 : decode cL_gap 18 = .ok (.iload_n 1, 1) := by decide +kernel
theorem dL_gap_19 : decode cL_gap 19 = .ok (.ineg, 1) := by decide +kernel
theorem dL_gap_20 : decode cL_gap 20 = .ok (.goto 4, 3) := by decide +kernel
theorem dL_gap_23 : decode cL_gap 23 = .ok (.iload_n 1, 1) := by decide +kernel
theorem dL_gap_24 : decode cL_gap 24 = .ok (.ireturn, 1) := by decide +kernel
theorem dL_isStep_0 : decode cL_isStep 0 = .ok (.iload_n 2, 1) := by decide +kernel
theorem dL_isStep_1 : decode cL_isStep 1 = .ok (.iconst 4, 1) := by decide +kernel
theorem dL_isStep_2 : decode cL_isStep 2 = .ok (.ishr, 1) := by decide +kernel
theorem dL_isStep_3 : decode cL_isStep 3 = .ok (.istore 4, 2) := by decide +kernel
theorem dL_isStep_5 : decode cL_isStep 5 = .ok (.iload_n 2, 1) := by decide +kernel
theorem dL_isStep_6 : decode cL_isStep 6 = .ok (.bipush 16, 2) := by decide +kernel
theorem dL_isStep_8 : decode cL_isStep 8 = .ok (.invokestatic 43, 3) := by decide +kernel
theorem dL_isStep_11 : decode cL_isStep 11 = .ok (.tableswitch 713 0 9 #[53, 53, 261, 261, 261, 364, 385, 505, 619, 645], 53) := by decide +kernel
theorem dL_isStep_64 : decode cL_isStep 64 = .ok (.iload 4, 2) := by decide +kernel
theorem dL_isStep_66 : decode cL_isStep 66 = .ok (.iconst 5, 1) := by decide +kernel
theorem dL_isStep_67 : decode cL_isStep 67 = .ok (.invokestatic 43, 3) := by decide +kernel
theorem dL_isStep_70 : decode cL_isStep 70 = .ok (.istore 5, 2) := by decide +kernel
theorem dL_isStep_72 : decode cL_isStep 72 = .ok (.iload 5, 2) := by decide +kernel
theorem dL_isStep_74 : decode cL_isStep 74 = .ok (.ifCond .ne 12, 3) := by decide +kernel
theorem dL_isStep_77 : decode cL_isStep 77 = .ok (.iload_n 3, 1) := by decide +kernel
theorem dL_isStep_78 : decode cL_isStep 78 = .ok (.bipush 33, 2) := by decide +kernel
theorem dL_isStep_80 : decode cL_isStep 80 = .ok (.invokestatic 43, 3) := by decide +kernel
theorem dL_isStep_83 : decode cL_isStep 83 = .ok (.goto 74, 3) := by decide +kernel
theorem dL_isStep_86 : decode cL_isStep 86 = .ok (.iload 5, 2) := by decide +kernel
theorem dL_isStep_88 : decode cL_isStep 88 = .ok (.iconst 2, 1) := by decide +kernel
theorem dL_isStep_89 : decode cL_isStep 89 = .ok (.if_icmp .ne 29, 3) := by decide +kernel
theorem dL_isStep_92 : decode cL_isStep 92 = .ok (.iconst 1, 1) := by decide +kernel
theorem dL_isStep_93 : decode cL_isStep 93 = .ok (.iload_n 3, 1) := by decide +kernel
theorem dL_isStep_94 : decode cL_isStep 94 = .ok (.iload 4, 2) := by decide +kernel
theorem dL_isStep_96 : decode cL_isStep 96 = .ok (.iconst 2, 1) := by decide +kernel
theorem dL_isStep_97 : decode cL_isStep 97 = .ok (.invokestatic 43, 3) := by decide +kernel
theorem dL_isStep_100 : decode cL_isStep 100 = .ok (.ifCond .ne 9, 3) := by decide +kernel
theorem dL_isStep_103 : decode cL_isStep 103 = .ok (.sipush 200, 3) := by decide +kernel
theorem dL_isStep_106 : decode cL_isStep 106 = .ok (.goto 5, 3) := by decide +kernel
theorem dL_isStep_109 : decode cL_isStep 109 = .ok (.bipush 15, 2) := by decide +kernel
theorem dL_isStep_111 : decode cL_isStep 111 = .ok (.invokestatic 43, 3) := by decide +kernel
theorem dL_isStep_114 : decode cL_isStep 114 = .ok (.iadd, 1) := by decide +kernel
theorem dL_isStep_115 : decode cL_isStep 115 = .ok (.goto 42, 3) := by decide +kernel
theorem dL_isStep_118 : decode cL_isStep 118 = .ok (.iload 5, 2) := by decide +kernel
theorem dL_isStep_120 : decode cL_isStep 120 = .ok (.iconst 4, 1) := by decide +kernel
theorem dL_isStep_121 : decode cL_isStep 121 = .ok (.if_icmp .ne 30, 3) := by decide +kernel
theorem dL_isStep_124 : decode cL_isStep 124 = .ok (.bipush 100, 2) := by decide +kernel
theorem dL_isStep_126 : decode cL_isStep 126 = .ok (.iload_n 3, 1) := by decide +kernel
theorem dL_isStep_127 : decode cL_isStep 127 = .ok (.iload 4, 2) := by decide +kernel
theorem dL_isStep_129 : decode cL_isStep 129 = .ok (.iconst 2, 1) := by decide +kernel
theorem dL_isStep_130 : decode cL_isStep 130 = .ok (.invokestatic 43, 3) := by decide +kernel
theorem dL_isStep_133 : decode cL_isStep 133 = .ok (.ifCond .ne 9, 3) := by decide +kernel
theorem dL_isStep_136 : decode cL_isStep 136 = .ok (.sipush 1901, 3) := by decide +kernel
theorem dL_isStep_139 : decode cL_isStep 139 = .ok (.goto 5, 3) := by decide +kernel
theorem dL_isStep_142 : decode cL_isStep 142 = .ok (.bipush 60, 2) := by decide +kernel
theorem dL_isStep_144 : decode cL_isStep 144 = .ok (.invokestatic 43, 3) := by decide +kernel
theorem dL_isStep_147 : decode cL_isStep 147 = .ok (.iadd, 1) := by decide +kernel
theorem dL_isStep_148 : decode cL_isStep 148 = .ok (.goto 9, 3) := by decide +kernel
theorem dL_isStep_151 : decode cL_isStep 151 = .ok (.iload_n 3, 1) := by decide +kernel
theorem dL_isStep_152 : decode cL_isStep 152 = .ok (.bipush 61, 2) := by decide +kernel
theorem dL_isStep_154 : decode cL_isStep 154 = .ok (.invokestatic 43, 3) := by decide +kernel
theorem dL_isStep_157 : decode cL_isStep 157 = .ok (.istore 6, 2) := by decide +kernel
theorem dL_isStep_159 : decode cL_isStep 159 = .ok (.aload_n 0, 1) := by decide +kernel
theorem dL_isStep_160 : decode cL_isStep 160 = .ok (.iload 5, 2) := by decide +kernel
theorem dL_isStep_162 : decode cL_isStep 162 = .ok (.invokevirtual 46, 3) := by decide +kernel
theorem dL_isStep_165 : decode cL_isStep 165 = .ok (.istore 7, 2) := by decide +kernel
theorem dL_isStep_167 : decode cL_isStep 167 = .ok (.iload 5, 2) := by decide +kernel
theorem dL_isStep_169 : decode cL_isStep 169 = .ok (.iconst 4, 1) := by decide +kernel
theorem dL_isStep_170 : decode cL_isStep 170 = .ok (.if_icmp .ne 49, 3) := by decide +kernel
theorem dL_isStep_173 : decode cL_isStep 173 = .ok (.aload_n 0, 1) := by decide +kernel
theorem dL_isStep_174 : decode cL_isStep 174 = .ok (.iconst 0, 1) := by decide +kernel
theorem dL_isStep_175 : decode cL_isStep 175 = .ok (.iconst 0, 1) := by decide +kernel
theorem dL_isStep_176 : decode cL_isStep 176 = .ok (.invokevirtual 40, 3) := by decide +kernel
theorem dL_isStep_179 : decode cL_isStep 179 = .ok (.iload 6, 2) := by decide +kernel
theorem dL_isStep_181 : decode cL_isStep 181 = .ok (.if_icmp .gt 42, 3) := by decide +kernel
theorem dL_isStep_184 : decode cL_isStep 184 = .ok (.aload_n 0, 1) := by decide +kernel
theorem dL_isStep_185 : decode cL_isStep 185 = .ok (.iconst 0, 1) := by decide +kernel
theorem dL_isStep_186 : decode cL_isStep 186 = .ok (.iconst 0, 1) := by decide +kernel
theorem dL_isStep_187 : decode cL_isStep 187 = .ok (.invokevirtual 40, 3) := by decide +kernel
theorem dL_isStep_190 : decode cL_isStep 190 = .ok (.iload 6, 2) := by decide +kernel
theorem dL_isStep_192 : decode cL_isStep 192 = .ok (.ineg, 1) := by decide +kernel
theorem dL_isStep_193 : decode cL_isStep 193 = .ok (.if_icmp .lt 30, 3) := by decide +kernel
theorem dL_isStep_196 : decode cL_isStep 196 = .ok (.aload_n 0, 1) := by decide +kernel
theorem dL_isStep_197 : decode cL_isStep 197 = .ok (.iconst 1, 1) := by decide +kernel
theorem dL_isStep_198 : decode cL_isStep 198 = .ok (.iconst 0, 1) := by decide +kernel
theorem dL_isStep_199 : decode cL_isStep 199 = .ok (.invokevirtual 40, 3) := by decide +kernel
theorem dL_isStep_202 : decode cL_isStep 202 = .ok (.iload 6, 2) := by decide +kernel
theorem dL_isStep_204 : decode cL_isStep 204 = .ok (.if_icmp .gt 19, 3) := by decide +kernel
theorem dL_isStep_207 : decode cL_isStep 207 = .ok (.aload_n 0, 1) := by decide +kernel
theorem dL_isStep_208 : decode cL_isStep 208 = .ok (.iconst 1, 1) := by decide +kernel
theorem dL_isStep_209 : decode cL_isStep 209 = .ok (.iconst 0, 1) := by decide +kernel
theorem dL_isStep_210 : decode cL_isStep 210 = .ok (.invokevirtual 40, 3) := by decide +kernel
theorem dL_isStep_213 : decode cL_isStep 213 = .ok (.iload 6, 2) := by decide +kernel
theorem dL_isStep_215 : decode cL_isStep 215 = .ok (.ineg, 1) := by decide +kernel
theorem dL_isStep_216 : decode cL_isStep 216 = .ok (.if_icmp .lt 7, 3) := by decide +kernel
theorem dL_isStep_219 : decode cL_isStep 219 = .ok (.iconst 1, 1) := by decide +kernel
theorem dL_isStep_220 : decode cL_isStep 220 = .ok (.goto 4, 3) := by decide +kernel
theorem dL_isStep_223 : decode cL_isStep 223 = .ok (.iconst 0, 1) := by decide +kernel
theorem dL_isStep_224 : decode cL_isStep 224 = .ok (.istore 8, 2) := by decide +kernel
theorem dL_isStep_226 : decode cL_isStep 226 = .ok (.aload_n 0, 1) := by decide +kernel
theorem dL_isStep_227 : decode cL_isStep 227 = .ok (.iload 5, 2) := by decide +kernel
theorem dL_isStep_229 : decode cL_isStep 229 = .ok (.iload 6, 2) := by decide +kernel
theorem dL_isStep_231 : decode cL_isStep 231 = .ok (.invokevirtual 50, 3) := by decide +kernel
theorem dL_isStep_234 : decode cL_isStep 234 = .ok (.istore 9, 2) := by decide +kernel
theorem dL_isStep_236 : decode cL_isStep 236 = .ok (.iload 9, 2) := by decide +kernel
theorem dL_isStep_238 : decode cL_isStep 238 = .ok (.aload_n 1, 1) := by decide +kernel
theorem dL_isStep_239 : decode cL_isStep 239 = .ok (.iload 5, 2) := by decide +kernel
theorem dL_isStep_241 : decode cL_isStep 241 = .ok (.iload 6, 2) := by decide +kernel
theorem dL_isStep_243 : decode cL_isStep 243 = .ok (.invokevirtual 50, 3) := by decide +kernel
theorem dL_isStep_246 : decode cL_isStep 246 = .ok (.if_icmp .ne 24, 3) := by decide +kernel
theorem dL_isStep_249 : decode cL_isStep 249 = .ok (.iload 9, 2) := by decide +kernel
theorem dL_isStep_251 : decode cL_isStep 251 = .ok (.iload 8, 2) := by decide +kernel
theorem dL_isStep_253 : decode cL_isStep 253 = .ok (.ifCond .eq 8, 3) := by decide +kernel
theorem dL_isStep_256 : decode cL_isStep 256 = .ok (.iload 7, 2) := by decide +kernel
theorem dL_isStep_258 : decode cL_isStep 258 = .ok (.goto 5, 3) := by decide +kernel
theorem dL_isStep_261 : decode cL_isStep 261 = .ok (.ldc 53, 2) := by decide +kernel
theorem dL_isStep_263 : decode cL_isStep 263 = .ok (.if_icmp .ne 7, 3) := by decide +kernel
theorem dL_isStep_266 : decode cL_isStep 266 = .ok (.iconst 1, 1) := by decide +kernel
theorem dL_isStep_267 : decode cL_isStep 267 = .ok (.goto 4, 3) := by decide +kernel
theorem dL_isStep_270 : decode cL_isStep 270 = .ok (.iconst 0, 1) := by decide +kernel
theorem dL_isStep_271 : decode cL_isStep 271 = .ok (.ireturn, 1) := by decide +kernel
theorem dL_isStep_272 : decode cL_isStep 272 = .ok (.iconst 1, 1) := by decide +kernel
theorem dL_isStep_273 : decode cL_isStep 273 = .ok (.iload_n 3, 1) := by decide +kernel
theorem dL_isStep_274 : decode cL_isStep 274 = .ok (.iload 4, 2) := by decide +kernel
theorem dL_isStep_276 : decode cL_isStep 276 = .ok (.iconst 4, 1) := by decide +kernel
theorem dL_isStep_277 : decode cL_isStep 277 = .ok (.invokestatic 43, 3) := by decide +kernel
theorem dL_isStep_280 : decode cL_isStep 280 = .ok (.ifCond .ne 8, 3) := by decide +kernel
theorem dL_isStep_283 : decode cL_isStep 283 = .ok (.bipush 99, 2) := by decide +kernel
theorem dL_isStep_285 : decode cL_isStep 285 = .ok (.goto 5, 3) := by decide +kernel
theorem dL_isStep_288 : decode cL_isStep 288 = .ok (.bipush 7, 2) := by decide +kernel
theorem dL_isStep_290 : decode cL_isStep 290 = .ok (.invokestatic 43, 3) := by decide +kernel
theorem dL_isStep_293 : decode cL_isStep 293 = .ok (.iadd, 1) := by decide +kernel
theorem dL_isStep_294 : decode cL_isStep 294 = .ok (.istore 5, 2) := by decide +kernel
theorem dL_isStep_296 : decode cL_isStep 296 = .ok (.aload_n 0, 1) := by decide +kernel
theorem dL_isStep_297 : decode cL_isStep 297 = .ok (.iload 5, 2) := by decide +kernel
theorem dL_isStep_299 : decode cL_isStep 299 = .ok (.iconst 0, 1) := by decide +kernel
theorem dL_isStep_300 : decode cL_isStep 300 = .ok (.invokevirtual 54, 3) := by decide +kernel
theorem dL_isStep_303 : decode cL_isStep 303 = .ok (.istore 6, 2) := by decide +kernel
theorem dL_isStep_305 : decode cL_isStep 305 = .ok (.aload_n 0, 1) := by decide +kernel
theorem dL_isStep_306 : decode cL_isStep 306 = .ok (.iconst 5, 1) := by decide +kernel
theorem dL_isStep_307 : decode cL_isStep 307 = .ok (.invokevirtual 46, 3) := by decide +kernel
theorem dL_isStep_310 : decode cL_isStep 310 = .ok (.istore 7, 2) := by decide +kernel
theorem dL_isStep_312 : decode cL_isStep 312 = .ok (.aload_n 0, 1) := by decide +kernel
theorem dL_isStep_313 : decode cL_isStep 313 = .ok (.bipush 6, 2) := by decide +kernel
theorem dL_isStep_315 : decode cL_isStep 315 = .ok (.invokevirtual 46, 3) := by decide +kernel
theorem dL_isStep_318 : decode cL_isStep 318 = .ok (.istore 8, 2) := by decide +kernel
theorem dL_isStep_320 : decode cL_isStep 320 = .ok (.aload_n 0, 1) := by decide +kernel
theorem dL_isStep_321 : decode cL_isStep 321 = .ok (.iload 5, 2) := by decide +kernel
theorem dL_isStep_323 : decode cL_isStep 323 = .ok (.invokevirtual 57, 3) := by decide +kernel
theorem dL_isStep_326 : decode cL_isStep 326 = .ok (.iload 6, 2) := by decide +kernel
theorem dL_isStep_328 : decode cL_isStep 328 = .ok (.if_icmp .ne 45, 3) := by decide +kernel
theorem dL_isStep_331 : decode cL_isStep 331 = .ok (.aload_n 1, 1) := by decide +kernel
theorem dL_isStep_332 : decode cL_isStep 332 = .ok (.iload 5, 2) := by decide +kernel
theorem dL_isStep_334 : decode cL_isStep 334 = .ok (.invokevirtual 57, 3) := by decide +kernel
theorem dL_isStep_337 : decode cL_isStep 337 = .ok (.iload 6, 2) := by decide +kernel
theorem dL_isStep_339 : decode cL_isStep 339 = .ok (.if_icmp .ne 34, 3) := by decide +kernel
theorem dL_isStep_342 : decode cL_isStep 342 = .ok (.aload_n 0, 1) := by decide +kernel
theorem dL_isStep_343 : decode cL_isStep 343 = .ok (.iconst 5, 1) := by decide +kernel
theorem dL_isStep_344 : decode cL_isStep 344 = .ok (.invokevirtual 46, 3) := by decide +kernel
theorem dL_isStep_347 : decode cL_isStep 347 = .ok (.iload 7, 2) := by decide +kernel
theorem dL_isStep_349 : decode cL_isStep 349 = .ok (.iload 5, 2) := by decide +kernel
theorem dL_isStep_351 : decode cL_isStep 351 = .ok (.iadd, 1) := by decide +kernel
theorem dL_isStep_352 : decode cL_isStep 352 = .ok (.if_icmp .ne 21, 3) := by decide +kernel
theorem dL_isStep_355 : decode cL_isStep 355 = .ok (.aload_n 0, 1) := by decide +kernel
theorem dL_isStep_356 : decode cL_isStep 356 = .ok (.bipush 6, 2) := by decide +kernel
theorem dL_isStep_358 : decode cL_isStep 358 = .ok (.invokevirtual 46, 3) := by decide +kernel
theorem dL_isStep_361 : decode cL_isStep 361 = .ok (.iload 8, 2) := by decide +kernel
theorem dL_isStep_363 : decode cL_isStep 363 = .ok (.iload 6, 2) := by decide +kernel
theorem dL_isStep_365 : decode cL_isStep 365 = .ok (.iadd, 1) := by decide +kernel
theorem dL_isStep_366 : decode cL_isStep 366 = .ok (.if_icmp .ne 7, 3) := by decide +kernel
theorem dL_isStep_369 : decode cL_isStep 369 = .ok (.iconst 1, 1) := by decide +kernel
theorem dL_isStep_370 : decode cL_isStep 370 = .ok (.goto 4, 3) := by decide +kernel
theorem dL_isStep_373 : decode cL_isStep 373 = .ok (.iconst 0, 1) := by decide +kernel
theorem dL_isStep_374 : decode cL_isStep 374 = .ok (.ireturn, 1) := by decide +kernel
theorem dL_isStep_375 : decode cL_isStep 375 = .ok (.aload_n 0, 1) := by decide +kernel
theorem dL_isStep_376 : decode cL_isStep 376 = .ok (.invokestatic 60, 3) := by decide +kernel
theorem dL_isStep_379 : decode cL_isStep 379 = .ok (.ifCond .eq 15, 3) := by decide +kernel
theorem dL_isStep_382 : decode cL_isStep 382 = .ok (.aload_n 1, 1) := by decide +kernel
theorem dL_isStep_383 : decode cL_isStep 383 = .ok (.iconst 1, 1) := by decide +kernel
theorem dL_isStep_384 : decode cL_isStep 384 = .ok (.invokevirtual 57, 3) := by decide +kernel
theorem dL_isStep_387 : decode cL_isStep 387 = .ok (.ifCond .lt 7, 3) := by decide +kernel
theorem dL_isStep_390 : decode cL_isStep 390 = .ok (.iconst 1, 1) := by decide +kernel
theorem dL_isStep_391 : decode cL_isStep 391 = .ok (.goto 4, 3) := by decide +kernel
theorem dL_isStep_394 : decode cL_isStep 394 = .ok (.iconst 0, 1) := by decide +kernel
theorem dL_isStep_395 : decode cL_isStep 395 = .ok (.ireturn, 1) := by decide +kernel
theorem dL_isStep_396 : decode cL_isStep 396 = .ok (.iload 4, 2) := by decide +kernel
theorem dL_isStep_398 : decode cL_isStep 398 = .ok (.iconst 3, 1) := by decide +kernel
theorem dL_isStep_399 : decode cL_isStep 399 = .ok (.invokestatic 43, 3) := by decide +kernel
theorem dL_isStep_402 : decode cL_isStep 402 = .ok (.ifCond .le 20, 3) := by decide +kernel
theorem dL_isStep_405 : decode cL_isStep 405 = .ok (.aload_n 0, 1) := by decide +kernel
theorem dL_isStep_406 : decode cL_isStep 406 = .ok (.invokevirtual 64, 3) := by decide +kernel
theorem dL_isStep_409 : decode cL_isStep 409 = .ok (.aload_n 1, 1) := by decide +kernel
theorem dL_isStep_410 : decode cL_isStep 410 = .ok (.invokevirtual 64, 3) := by decide +kernel
theorem dL_isStep_413 : decode cL_isStep 413 = .ok (.if_icmp .ne 7, 3) := by decide +kernel
theorem dL_isStep_416 : decode cL_isStep 416 = .ok (.iconst 1, 1) := by decide +kernel
theorem dL_isStep_417 : decode cL_isStep 417 = .ok (.goto 4, 3) := by decide +kernel
theorem dL_isStep_420 : decode cL_isStep 420 = .ok (.iconst 0, 1) := by decide +kernel
theorem dL_isStep_421 : decode cL_isStep 421 = .ok (.ireturn, 1) := by decide +kernel
theorem dL_isStep_422 : decode cL_isStep 422 = .ok (.aload_n 0, 1) := by decide +kernel
theorem dL_isStep_423 : decode cL_isStep 423 = .ok (.invokestatic 67, 3) := by decide +kernel
theorem dL_isStep_426 : decode cL_isStep 426 = .ok (.istore 5, 2) := by decide +kernel
theorem dL_isStep_428 : decode cL_isStep 428 = .ok (.aload_n 0, 1) := by decide +kernel
theorem dL_isStep_429 : decode cL_isStep 429 = .ok (.bipush 12, 2) := by decide +kernel
theorem dL_isStep_431 : decode cL_isStep 431 = .ok (.invokevirtual 46, 3) := by decide +kernel
theorem dL_isStep_434 : decode cL_isStep 434 = .ok (.istore 6, 2) := by decide +kernel
theorem dL_isStep_436 : decode cL_isStep 436 = .ok (.aload_n 0, 1) := by decide +kernel
theorem dL_isStep_437 : decode cL_isStep 437 = .ok (.iconst 0, 1) := by decide +kernel
theorem dL_isStep_438 : decode cL_isStep 438 = .ok (.iconst 0, 1) := by decide +kernel
theorem dL_isStep_439 : decode cL_isStep 439 = .ok (.invokevirtual 40, 3) := by decide +kernel
theorem dL_isStep_442 : decode cL_isStep 442 = .ok (.aload_n 0, 1) := by decide +kernel
theorem dL_isStep_443 : decode cL_isStep 443 = .ok (.iconst 1, 1) := by decide +kernel
theorem dL_isStep_444 : decode cL_isStep 444 = .ok (.iconst 0, 1) := by decide +kernel
theorem dL_isStep_445 : decode cL_isStep 445 = .ok (.invokevirtual 40, 3) := by decide +kernel
theorem dL_isStep_448 : decode cL_isStep 448 = .ok (.iadd, 1) := by decide +kernel
theorem dL_isStep_449 : decode cL_isStep 449 = .ok (.istore 7, 2) := by decide +kernel
theorem dL_isStep_451 : decode cL_isStep 451 = .ok (.aload_n 0, 1) := by decide +kernel
theorem dL_isStep_452 : decode cL_isStep 452 = .ok (.invokevirtual 71, 3) := by decide +kernel
theorem dL_isStep_455 : decode cL_isStep 455 = .ok (.iload 5, 2) := by decide +kernel
theorem dL_isStep_457 : decode cL_isStep 457 = .ok (.if_icmp .ne 57, 3) := by decide +kernel
theorem dL_isStep_460 : decode cL_isStep 460 = .ok (.aload_n 1, 1) := by decide +kernel
theorem dL_isStep_461 : decode cL_isStep 461 = .ok (.invokevirtual 71, 3) := by decide +kernel
theorem dL_isStep_464 : decode cL_isStep 464 = .ok (.iload 5, 2) := by decide +kernel
theorem dL_isStep_466 : decode cL_isStep 466 = .ok (.if_icmp .ne 48, 3) := by decide +kernel
theorem dL_isStep_469 : decode cL_isStep 469 = .ok (.aload_n 0, 1) := by decide +kernel
theorem dL_isStep_470 : decode cL_isStep 470 = .ok (.bipush 12, 2) := by decide +kernel
theorem dL_isStep_472 : decode cL_isStep 472 = .ok (.invokevirtual 46, 3) := by decide +kernel
theorem dL_isStep_475 : decode cL_isStep 475 = .ok (.iload 6, 2) := by decide +kernel
theorem dL_isStep_477 : decode cL_isStep 477 = .ok (.iload 7, 2) := by decide +kernel
theorem dL_isStep_479 : decode cL_isStep 479 = .ok (.iadd, 1) := by decide +kernel
theorem dL_isStep_480 : decode cL_isStep 480 = .ok (.if_icmp .ne 34, 3) := by decide +kernel
theorem dL_isStep_483 : decode cL_isStep 483 = .ok (.aload_n 0, 1) := by decide +kernel
theorem dL_isStep_484 : decode cL_isStep 484 = .ok (.iconst 0, 1) := by decide +kernel
theorem dL_isStep_485 : decode cL_isStep 485 = .ok (.iconst 0, 1) := by decide +kernel
theorem dL_isStep_486 : decode cL_isStep 486 = .ok (.invokevirtual 40, 3) := by decide +kernel
theorem dL_isStep_489 : decode cL_isStep 489 = .ok (.ifCond .ne 25, 3) := by decide +kernel
theorem dL_isStep_492 : decode cL_isStep 492 = .ok (.aload_n 0, 1) := by decide +kernel
theorem dL_isStep_493 : decode cL_isStep 493 = .ok (.iconst 1, 1) := by decide +kernel
theorem dL_isStep_494 : decode cL_isStep 494 = .ok (.iconst 0, 1) := by decide +kernel
theorem dL_isStep_495 : decode cL_isStep 495 = .ok (.invokevirtual 40, 3) := by decide +kernel
theorem dL_isStep_498 : decode cL_isStep 498 = .ok (.ifCond .ne 16, 3) := by decide +kernel
theorem dL_isStep_501 : decode cL_isStep 501 = .ok (.aload_n 0, 1) := by decide +kernel
theorem dL_isStep_502 : decode cL_isStep 502 = .ok (.bipush 8, 2) := by decide +kernel
theorem dL_isStep_504 : decode cL_isStep 504 = .ok (.invokevirtual 46, 3) := by decide +kernel
theorem dL_isStep_507 : decode cL_isStep 507 = .ok (.ifCond .ne 7, 3) := by decide +kernel
theorem dL_isStep_510 : decode cL_isStep 510 = .ok (.iconst 1, 1) := by decide +kernel
theorem dL_isStep_511 : decode cL_isStep 511 = .ok (.goto 4, 3) := by decide +kernel
theorem dL_isStep_514 : decode cL_isStep 514 = .ok (.iconst 0, 1) := by decide +kernel
theorem dL_isStep_515 : decode cL_isStep 515 = .ok (.ireturn, 1) := by decide +kernel
theorem dL_isStep_516 : decode cL_isStep 516 = .ok (.iload 4, 2) := by decide +kernel
theorem dL_isStep_518 : decode cL_isStep 518 = .ok (.iconst 4, 1) := by decide +kernel
theorem dL_isStep_519 : decode cL_isStep 519 = .ok (.invokestatic 43, 3) := by decide +kernel
theorem dL_isStep_522 : decode cL_isStep 522 = .ok (.ifCond .le 5, 3) := by decide +kernel
theorem dL_isStep_525 : decode cL_isStep 525 = .ok (.iconst 1, 1) := by decide +kernel
theorem dL_isStep_526 : decode cL_isStep 526 = .ok (.ireturn, 1) := by decide +kernel
theorem dL_isStep_527 : decode cL_isStep 527 = .ok (.iload_n 3, 1) := by decide +kernel
theorem dL_isStep_528 : decode cL_isStep 528 = .ok (.iconst 2, 1) := by decide +kernel
theorem dL_isStep_529 : decode cL_isStep 529 = .ok (.invokestatic 43, 3) := by decide +kernel
theorem dL_isStep_532 : decode cL_isStep 532 = .ok (.istore 5, 2) := by decide +kernel
theorem dL_isStep_534 : decode cL_isStep 534 = .ok (.aload_n 0, 1) := by decide +kernel
theorem dL_isStep_535 : decode cL_isStep 535 = .ok (.iload 5, 2) := by decide +kernel
theorem dL_isStep_537 : decode cL_isStep 537 = .ok (.iconst 1, 1) := by decide +kernel
theorem dL_isStep_538 : decode cL_isStep 538 = .ok (.invokevirtual 74, 3) := by decide +kernel
theorem dL_isStep_541 : decode cL_isStep 541 = .ok (.aload_n 0, 1) := by decide +kernel
theorem dL_isStep_542 : decode cL_isStep 542 = .ok (.iload 5, 2) := by decide +kernel
theorem dL_isStep_544 : decode cL_isStep 544 = .ok (.iconst 2, 1) := by decide +kernel
theorem dL_isStep_545 : decode cL_isStep 545 = .ok (.invokevirtual 74, 3) := by decide +kernel
theorem dL_isStep_548 : decode cL_isStep 548 = .ok (.iadd, 1) := by decide +kernel
theorem dL_isStep_549 : decode cL_isStep 549 = .ok (.istore 6, 2) := by decide +kernel
theorem dL_isStep_551 : decode cL_isStep 551 = .ok (.aload_n 0, 1) := by decide +kernel
theorem dL_isStep_552 : decode cL_isStep 552 = .ok (.bipush 12, 2) := by decide +kernel
theorem dL_isStep_554 : decode cL_isStep 554 = .ok (.invokevirtual 46, 3) := by decide +kernel
theorem dL_isStep_557 : decode cL_isStep 557 = .ok (.istore 7, 2) := by decide +kernel
theorem dL_isStep_559 : decode cL_isStep 559 = .ok (.aload_n 0, 1) := by decide +kernel
theorem dL_isStep_560 : decode cL_isStep 560 = .ok (.iload 5, 2) := by decide +kernel
theorem dL_isStep_562 : decode cL_isStep 562 = .ok (.iconst 0, 1) := by decide +kernel
theorem dL_isStep_563 : decode cL_isStep 563 = .ok (.invokevirtual 74, 3) := by decide +kernel
theorem dL_isStep_566 : decode cL_isStep 566 = .ok (.istore 8, 2) := by decide +kernel
theorem dL_isStep_568 : decode cL_isStep 568 = .ok (.aload_n 0, 1) := by decide +kernel
theorem dL_isStep_569 : decode cL_isStep 569 = .ok (.iload 5, 2) := by decide +kernel
theorem dL_isStep_571 : decode cL_isStep 571 = .ok (.invokevirtual 77, 3) := by decide +kernel
theorem dL_isStep_574 : decode cL_isStep 574 = .ok (.iload 6, 2) := by decide +kernel
theorem dL_isStep_576 : decode cL_isStep 576 = .ok (.if_icmp .ne 52, 3) := by decide +kernel
theorem dL_isStep_579 : decode cL_isStep 579 = .ok (.aload_n 1, 1) := by decide +kernel
theorem dL_isStep_580 : decode cL_isStep 580 = .ok (.iload 5, 2) := by decide +kernel
theorem dL_isStep_582 : decode cL_isStep 582 = .ok (.invokevirtual 77, 3) := by decide +kernel
theorem dL_isStep_585 : decode cL_isStep 585 = .ok (.iload 6, 2) := by decide +kernel
theorem dL_isStep_587 : decode cL_isStep 587 = .ok (.if_icmp .ne 41, 3) := by decide +kernel
theorem dL_isStep_590 : decode cL_isStep 590 = .ok (.aload_n 0, 1) := by decide +kernel
theorem dL_isStep_591 : decode cL_isStep 591 = .ok (.bipush 12, 2) := by decide +kernel
theorem dL_isStep_593 : decode cL_isStep 593 = .ok (.invokevirtual 46, 3) := by decide +kernel
theorem dL_isStep_596 : decode cL_isStep 596 = .ok (.iload 7, 2) := by decide +kernel
theorem dL_isStep_598 : decode cL_isStep 598 = .ok (.iload 8, 2) := by decide +kernel
theorem dL_isStep_600 : decode cL_isStep 600 = .ok (.iadd, 1) := by decide +kernel
theorem dL_isStep_601 : decode cL_isStep 601 = .ok (.if_icmp .ne 27, 3) := by decide +kernel
theorem dL_isStep_604 : decode cL_isStep 604 = .ok (.aload_n 0, 1) := by decide +kernel
theorem dL_isStep_605 : decode cL_isStep 605 = .ok (.iload 5, 2) := by decide +kernel
theorem dL_isStep_607 : decode cL_isStep 607 = .ok (.iconst 3, 1) := by decide +kernel
theorem dL_isStep_608 : decode cL_isStep 608 = .ok (.invokevirtual 74, 3) := by decide +kernel
theorem dL_isStep_611 : decode cL_isStep 611 = .ok (.ifCond .ne 17, 3) := by decide +kernel
theorem dL_isStep_614 : decode cL_isStep 614 = .ok (.aload_n 0, 1) := by decide +kernel
theorem dL_isStep_615 : decode cL_isStep 615 = .ok (.iload 5, 2) := by decide +kernel
theorem dL_isStep_617 : decode cL_isStep 617 = .ok (.iconst 4, 1) := by decide +kernel
theorem dL_isStep_618 : decode cL_isStep 618 = .ok (.invokevirtual 74, 3) := by decide +kernel
theorem dL_isStep_621 : decode cL_isStep 621 = .ok (.ifCond .ne 7, 3) := by decide +kernel
theorem dL_isStep_624 : decode cL_isStep 624 = .ok (.iconst 1, 1) := by decide +kernel
theorem dL_isStep_625 : decode cL_isStep 625 = .ok (.goto 4, 3) := by decide +kernel
theorem dL_isStep_628 : decode cL_isStep 628 = .ok (.iconst 0, 1) := by decide +kernel
theorem dL_isStep_629 : decode cL_isStep 629 = .ok (.ireturn, 1) := by decide +kernel
theorem dL_isStep_630 : decode cL_isStep 630 = .ok (.aload_n 0, 1) := by decide +kernel
theorem dL_isStep_631 : decode cL_isStep 631 = .ok (.bipush 14, 2) := by decide +kernel
theorem dL_isStep_633 : decode cL_isStep 633 = .ok (.invokevirtual 46, 3) := by decide +kernel
theorem dL_isStep_636 : decode cL_isStep 636 = .ok (.ifCond .eq 14, 3) := by decide +kernel
theorem dL_isStep_639 : decode cL_isStep 639 = .ok (.aload_n 0, 1) := by decide +kernel
theorem dL_isStep_640 : decode cL_isStep 640 = .ok (.invokevirtual 80, 3) := by decide +kernel
theorem dL_isStep_643 : decode cL_isStep 643 = .ok (.aload_n 1, 1) := by decide +kernel
theorem dL_isStep_644 : decode cL_isStep 644 = .ok (.invokevirtual 80, 3) := by decide +kernel
theorem dL_isStep_647 : decode cL_isStep 647 = .ok (.if_icmp .ne 7, 3) := by decide +kernel
theorem dL_isStep_650 : decode cL_isStep 650 = .ok (.iconst 1, 1) := by decide +kernel
theorem dL_isStep_651 : decode cL_isStep 651 = .ok (.goto 4, 3) := by decide +kernel
theorem dL_isStep_654 : decode cL_isStep 654 = .ok (.iconst 0, 1) := by decide +kernel
theorem dL_isStep_655 : decode cL_isStep 655 = .ok (.ireturn, 1) := by decide +kernel
theorem dL_isStep_656 : decode cL_isStep 656 = .ok (.iload_n 3, 1) := by decide +kernel
theorem dL_isStep_657 : decode cL_isStep 657 = .ok (.iconst 2, 1) := by decide +kernel
theorem dL_isStep_658 : decode cL_isStep 658 = .ok (.invokestatic 43, 3) := by decide +kernel
theorem dL_isStep_661 : decode cL_isStep 661 = .ok (.ifCond .ne 34, 3) := by decide +kernel
theorem dL_isStep_664 : decode cL_isStep 664 = .ok (.aload_n 0, 1) := by decide +kernel
theorem dL_isStep_665 : decode cL_isStep 665 = .ok (.iload 4, 2) := by decide +kernel
theorem dL_isStep_667 : decode cL_isStep 667 = .ok (.iconst 2, 1) := by decide +kernel
theorem dL_isStep_668 : decode cL_isStep 668 = .ok (.invokestatic 43, 3) := by decide +kernel
theorem dL_isStep_671 : decode cL_isStep 671 = .ok (.invokevirtual 83, 3) := by decide +kernel
theorem dL_isStep_674 : decode cL_isStep 674 = .ok (.aload_n 1, 1) := by decide +kernel
theorem dL_isStep_675 : decode cL_isStep 675 = .ok (.iload 4, 2) := by decide +kernel
theorem dL_isStep_677 : decode cL_isStep 677 = .ok (.iconst 2, 1) := by decide +kernel
theorem dL_isStep_678 : decode cL_isStep 678 = .ok (.invokestatic 43, 3) := by decide +kernel
theorem dL_isStep_681 : decode cL_isStep 681 = .ok (.invokevirtual 83, 3) := by decide +kernel
theorem dL_isStep_684 : decode cL_isStep 684 = .ok (.if_icmp .ne 7, 3) := by decide +kernel
theorem dL_isStep_687 : decode cL_isStep 687 = .ok (.iconst 1, 1) := by decide +kernel
theorem dL_isStep_688 : decode cL_isStep 688 = .ok (.goto 35, 3) := by decide +kernel
theorem dL_isStep_691 : decode cL_isStep 691 = .ok (.iconst 0, 1) := by decide +kernel
theorem dL_isStep_692 : decode cL_isStep 692 = .ok (.goto 31, 3) := by decide +kernel
theorem dL_isStep_695 : decode cL_isStep 695 = .ok (.aload_n 0, 1) := by decide +kernel
theorem dL_isStep_696 : decode cL_isStep 696 = .ok (.iload 4, 2) := by decide +kernel
theorem dL_isStep_698 : decode cL_isStep 698 = .ok (.iconst 2, 1) := by decide +kernel
theorem dL_isStep_699 : decode cL_isStep 699 = .ok (.invokestatic 43, 3) := by decide +kernel
theorem dL_isStep_702 : decode cL_isStep 702 = .ok (.invokevirtual 86, 3) := by decide +kernel
theorem dL_isStep_705 : decode cL_isStep 705 = .ok (.aload_n 1, 1) := by decide +kernel
theorem dL_isStep_706 : decode cL_isStep 706 = .ok (.iload 4, 2) := by decide +kernel
theorem dL_isStep_708 : decode cL_isStep 708 = .ok (.iconst 2, 1) := by decide +kernel
theorem dL_isStep_709 : decode cL_isStep 709 = .ok (.invokestatic 43, 3) := by decide +kernel
theorem dL_isStep_712 : decode cL_isStep 712 = .ok (.invokevirtual 86, 3) := by decide +kernel
theorem dL_isStep_715 : decode cL_isStep 715 = .ok (.if_icmp .ne 7, 3) := by decide +kernel
theorem dL_isStep_718 : decode cL_isStep 718 = .ok (.iconst 1, 1) := by decide +kernel
theorem dL_isStep_719 : decode cL_isStep 719 = .ok (.goto 4, 3) := by decide +kernel
theorem dL_isStep_722 : decode cL_isStep 722 = .ok (.iconst 0, 1) := by decide +kernel
theorem dL_isStep_723 : decode cL_isStep 723 = .ok (.ireturn, 1) := by decide +kernel
theorem dL_isStep_724 : decode cL_isStep 724 = .ok (.iload 4, 2) := by decide +kernel
theorem dL_isStep_726 : decode cL_isStep 726 = .ok (.iconst 2, 1) := by decide +kernel
theorem dL_isStep_727 : decode cL_isStep 727 = .ok (.invokestatic 43, 3) := by decide +kernel
theorem dL_isStep_730 : decode cL_isStep 730 = .ok (.istore 5, 2) := by decide +kernel
theorem dL_isStep_732 : decode cL_isStep 732 = .ok (.iload 4, 2) := by decide +kernel
theorem dL_isStep_734 : decode cL_isStep 734 = .ok (.iconst 2, 1) := by decide +kernel
theorem dL_isStep_735 : decode cL_isStep 735 = .ok (.ishr, 1) := by decide +kernel
theorem dL_isStep_736 : decode cL_isStep 736 = .ok (.bipush 12, 2) := by decide +kernel
theorem dL_isStep_738 : decode cL_isStep 738 = .ok (.invokestatic 43, 3) := by decide +kernel
theorem dL_isStep_741 : decode cL_isStep 741 = .ok (.istore 6, 2) := by decide +kernel
theorem dL_isStep_743 : decode cL_isStep 743 = .ok (.iload_n 3, 1) := by decide +kernel
theorem dL_isStep_744 : decode cL_isStep 744 = .ok (.sipush 199, 3) := by decide +kernel
theorem dL_isStep_747 : decode cL_isStep 747 = .ok (.invokestatic 43, 3) := by decide +kernel
theorem dL_isStep_750 : decode cL_isStep 750 = .ok (.bipush 99, 2) := by decide +kernel
theorem dL_isStep_752 : decode cL_isStep 752 = .ok (.isub, 1) := by decide +kernel
theorem dL_isStep_753 : decode cL_isStep 753 = .ok (.istore 7, 2) := by decide +kernel
theorem dL_isStep_755 : decode cL_isStep 755 = .ok (.aload_n 0, 1) := by decide +kernel
theorem dL_isStep_756 : decode cL_isStep 756 = .ok (.iload 5, 2) := by decide +kernel
theorem dL_isStep_758 : decode cL_isStep 758 = .ok (.iload 6, 2) := by decide +kernel
theorem dL_isStep_760 : decode cL_isStep 760 = .ok (.invokevirtual 36, 3) := by decide +kernel
theorem dL_isStep_763 : decode cL_isStep 763 = .ok (.istore 8, 2) := by decide +kernel
theorem dL_isStep_765 : decode cL_isStep 765 = .ok (.aload_n 0, 1) := by decide +kernel
theorem dL_isStep_766 : decode cL_isStep 766 = .ok (.bipush 11, 2) := by decide +kernel
theorem dL_isStep_768 : decode cL_isStep 768 = .ok (.invokevirtual 46, 3) := by decide +kernel
theorem dL_isStep_771 : decode cL_isStep 771 = .ok (.istore 9, 2) := by decide +kernel
theorem dL_isStep_773 : decode cL_isStep 773 = .ok (.aload_n 0, 1) := by decide +kernel
theorem dL_isStep_774 : decode cL_isStep 774 = .ok (.iload 5, 2) := by decide +kernel
theorem dL_isStep_776 : decode cL_isStep 776 = .ok (.iload 6, 2) := by decide +kernel
theorem dL_isStep_778 : decode cL_isStep 778 = .ok (.iload 7, 2) := by decide +kernel
theorem dL_isStep_780 : decode cL_isStep 780 = .ok (.invokevirtual 89, 3) := by decide +kernel
theorem dL_isStep_783 : decode cL_isStep 783 = .ok (.iload 8, 2) := by decide +kernel
theorem dL_isStep_785 : decode cL_isStep 785 = .ok (.if_icmp .ne 51, 3) := by decide +kernel
theorem dL_isStep_788 : decode cL_isStep 788 = .ok (.aload_n 1, 1) := by decide +kernel
theorem dL_isStep_789 : decode cL_isStep 789 = .ok (.iload 5, 2) := by decide +kernel
theorem dL_isStep_791 : decode cL_isStep 791 = .ok (.iload 6, 2) := by decide +kernel
theorem dL_isStep_793 : decode cL_isStep 793 = .ok (.iload 7, 2) := by decide +kernel
theorem dL_isStep_795 : decode cL_isStep 795 = .ok (.ineg, 1) := by decide +kernel
theorem dL_isStep_796 : decode cL_isStep 796 = .ok (.invokestatic 93, 3) := by decide +kernel
theorem dL_isStep_799 : decode cL_isStep 799 = .ok (.ifCond .eq 37, 3) := by decide +kernel
theorem dL_isStep_802 : decode cL_isStep 802 = .ok (.aload_n 0, 1) := by decide +kernel
theorem dL_isStep_803 : decode cL_isStep 803 = .ok (.iload 5, 2) := by decide +kernel
theorem dL_isStep_805 : decode cL_isStep 805 = .ok (.iload 6, 2) := by decide +kernel
theorem dL_isStep_807 : decode cL_isStep 807 = .ok (.invokevirtual 36, 3) := by decide +kernel
theorem dL_isStep_810 : decode cL_isStep 810 = .ok (.iload 7, 2) := by decide +kernel
theorem dL_isStep_812 : decode cL_isStep 812 = .ok (.if_icmp .ne 24, 3) := by decide +kernel
theorem dL_isStep_815 : decode cL_isStep 815 = .ok (.aload_n 0, 1) := by decide +kernel
theorem dL_isStep_816 : decode cL_isStep 816 = .ok (.bipush 11, 2) := by decide +kernel
theorem dL_isStep_818 : decode cL_isStep 818 = .ok (.invokevirtual 46, 3) := by decide +kernel
theorem dL_isStep_821 : decode cL_isStep 821 = .ok (.iload 9, 2) := by decide +kernel
theorem dL_isStep_823 : decode cL_isStep 823 = .ok (.iload 7, 2) := by decide +kernel
theorem dL_isStep_825 : decode cL_isStep 825 = .ok (.iadd, 1) := by decide +kernel
theorem dL_isStep_826 : decode cL_isStep 826 = .ok (.iload 8, 2) := by decide +kernel
theorem dL_isStep_828 : decode cL_isStep 828 = .ok (.isub, 1) := by decide +kernel
theorem dL_isStep_829 : decode cL_isStep 829 = .ok (.if_icmp .ne 7, 3) := by decide +kernel
theorem dL_isStep_832 : decode cL_isStep 832 = .ok (.iconst 1, 1) := by decide +kernel
theorem dL_isStep_833 : decode cL_isStep 833 = .ok (.goto 4, 3) := by decide +kernel
theorem dL_isStep_836 : decode cL_isStep 836 = .ok (.iconst 0, 1) := by decide +kernel
theorem dL_isStep_837 : decode cL_isStep 837 = .ok (.ireturn, 1) := by decide +kernel
theorem dL_isTurned_0 : decode cL_isTurned 0 = .ok (.bipush 12, 2) := by decide +kernel
theorem dL_isTurned_2 : decode cL_isTurned 2 = .ok (.newarray .int, 2) := by decide +kernel
theorem dL_isTurned_4 : decode cL_isTurned 4 = .ok (.astore_n 1, 1) := by decide +kernel
theorem dL_isTurned_5 : decode cL_isTurned 5 = .ok (.bipush 12, 2) := by decide +kernel
theorem dL_isTurned_7 : decode cL_isTurned 7 = .ok (.newarray .int, 2) := by decide +kernel
theorem dL_isTurned_9 : decode cL_isTurned 9 = .ok (.astore_n 2, 1) := by decide +kernel
theorem dL_isTurned_10 : decode cL_isTurned 10 = .ok (.aload_n 0, 1) := by decide +kernel
theorem dL_isTurned_11 : decode cL_isTurned 11 = .ok (.bipush 9, 2) := by decide +kernel
theorem dL_isTurned_13 : decode cL_isTurned 13 = .ok (.invokevirtual 46, 3) := by decide +kernel
theorem dL_isTurned_16 : decode cL_isTurned 16 = .ok (.istore_n 3, 1) := by decide +kernel
theorem dL_isTurned_17 : decode cL_isTurned 17 = .ok (.aload_n 0, 1) := by decide +kernel
theorem dL_isTurned_18 : decode cL_isTurned 18 = .ok (.bipush 10, 2) := by decide +kernel
theorem dL_isTurned_20 : decode cL_isTurned 20 = .ok (.invokevirtual 46, 3) := by decide +kernel
theorem dL_isTurned_23 : decode cL_isTurned 23 = .ok (.istore 4, 2) := by decide +kernel
theorem dL_isTurned_25 : decode cL_isTurned 25 = .ok (.aload_n 0, 1) := by decide +kernel
theorem dL_isTurned_26 : decode cL_isTurned 26 = .ok (.iconst 0, 1) := by decide +kernel
theorem dL_isTurned_27 : decode cL_isTurned 27 = .ok (.iconst 1, 1) := by decide +kernel
theorem dL_isTurned_28 : decode cL_isTurned 28 = .ok (.invokevirtual 40, 3) := by decide +kernel
theorem dL_isTurned_31 : decode cL_isTurned 31 = .ok (.aload_n 0, 1) := by decide +kernel
theorem dL_isTurned_32 : decode cL_isTurned 32 = .ok (.iconst 1, 1) := by decide +kernel
theorem dL_isTurned_33 : decode cL_isTurned 33 = .ok (.iconst 1, 1) := by decide +kernel
theorem dL_isTurned_34 : decode cL_isTurned 34 = .ok (.invokevirtual 40, 3) := by decide +kernel
theorem dL_isTurned_37 : decode cL_isTurned 37 = .ok (.iadd, 1) := by decide +kernel
theorem dL_isTurned_38 : decode cL_isTurned 38 = .ok (.istore 5, 2) := by decide +kernel
theorem dL_isTurned_40 : decode cL_isTurned 40 = .ok (.aload_n 0, 1) := by decide +kernel
theorem dL_isTurned_41 : decode cL_isTurned 41 = .ok (.iconst 0, 1) := by decide +kernel
theorem dL_isTurned_42 : decode cL_isTurned 42 = .ok (.iconst 2, 1) := by decide +kernel
theorem dL_isTurned_43 : decode cL_isTurned 43 = .ok (.invokevirtual 40, 3) := by decide +kernel
theorem dL_isTurned_46 : decode cL_isTurned 46 = .ok (.aload_n 0, 1) := by decide +kernel
theorem dL_isTurned_47 : decode cL_isTurned 47 = .ok (.iconst 1, 1) := by decide +kernel
theorem dL_isTurned_48 : decode cL_isTurned 48 = .ok (.iconst 2, 1) := by decide +kernel
theorem dL_isTurned_49 : decode cL_isTurned 49 = .ok (.invokevirtual 40, 3) := by decide +kernel
theorem dL_isTurned_52 : decode cL_isTurned 52 = .ok (.iadd, 1) := by decide +kernel
theorem dL_isTurned_53 : decode cL_isTurned 53 = .ok (.istore 6, 2) := by decide +kernel
theorem dL_isTurned_55 : decode cL_isTurned 55 = .ok (.aload_n 0, 1) := by decide +kernel
theorem dL_isTurned_56 : decode cL_isTurned 56 = .ok (.iconst 0, 1) := by decide +kernel
theorem dL_isTurned_57 : decode cL_isTurned 57 = .ok (.iconst 0, 1) := by decide +kernel
theorem dL_isTurned_58 : decode cL_isTurned 58 = .ok (.invokevirtual 40, 3) := by decide +kernel
theorem dL_isTurned_61 : decode cL_isTurned 61 = .ok (.aload_n 0, 1) := by decide +kernel
theorem dL_isTurned_62 : decode cL_isTurned 62 = .ok (.iconst 1, 1) := by decide +kernel
theorem dL_isTurned_63 : decode cL_isTurned 63 = .ok (.iconst 0, 1) := by decide +kernel
theorem dL_isTurned_64 : decode cL_isTurned 64 = .ok (.invokevirtual 40, 3) := by decide +kernel
theorem dL_isTurned_67 : decode cL_isTurned 67 = .ok (.iadd, 1) := by decide +kernel
theorem dL_isTurned_68 : decode cL_isTurned 68 = .ok (.istore 7, 2) := by decide +kernel
theorem dL_isTurned_70 : decode cL_isTurned 70 = .ok (.iconst 0, 1) := by decide +kernel
theorem dL_isTurned_71 : decode cL_isTurned 71 = .ok (.istore 8, 2) := by decide +kernel
theorem dL_isTurned_73 : decode cL_isTurned 73 = .ok (.iload 8, 2) := by decide +kernel
theorem dL_isTurned_75 : decode cL_isTurned 75 = .ok (.bipush 12, 2) := by decide +kernel
theorem dL_isTurned_77 : decode cL_isTurned 77 = .ok (.if_icmp .ge 31, 3) := by decide +kernel
theorem dL_isTurned_80 : decode cL_isTurned 80 = .ok (.aload_n 1, 1) := by decide +kernel
theorem dL_isTurned_81 : decode cL_isTurned 81 = .ok (.iload 8, 2) := by decide +kernel
theorem dL_isTurned_83 : decode cL_isTurned 83 = .ok (.aload_n 0, 1) := by decide +kernel
theorem dL_isTurned_84 : decode cL_isTurned 84 = .ok (.iconst 0, 1) := by decide +kernel
theorem dL_isTurned_85 : decode cL_isTurned 85 = .ok (.iload 8, 2) := by decide +kernel
theorem dL_isTurned_87 : decode cL_isTurned 87 = .ok (.invokevirtual 36, 3) := by decide +kernel
theorem dL_isTurned_90 : decode cL_isTurned 90 = .ok (.iastore, 1) := by decide +kernel
theorem dL_isTurned_91 : decode cL_isTurned 91 = .ok (.aload_n 2, 1) := by decide +kernel
theorem dL_isTurned_92 : decode cL_isTurned 92 = .ok (.iload 8, 2) := by decide +kernel
theorem dL_isTurned_94 : decode cL_isTurned 94 = .ok (.aload_n 0, 1) := by decide +kernel
theorem dL_isTurned_95 : decode cL_isTurned 95 = .ok (.iconst 1, 1) := by decide +kernel
theorem dL_isTurned_96 : decode cL_isTurned 96 = .ok (.iload 8, 2) := by decide +kernel
theorem dL_isTurned_98 : decode cL_isTurned 98 = .ok (.invokevirtual 36, 3) := by decide +kernel
theorem dL_isTurned_101 : decode cL_isTurned 101 = .ok (.iastore, 1) := by decide +kernel
theorem dL_isTurned_102 : decode cL_isTurned 102 = .ok (.iinc 8 1, 3) := by decide +kernel
theorem dL_isTurned_105 : decode cL_isTurned 105 = .ok (.goto (-32), 3) := by decide +kernel
theorem dL_isTurned_108 : decode cL_isTurned 108 = .ok (.aload_n 0, 1) := by decide +kernel
theorem dL_isTurned_109 : decode cL_isTurned 109 = .ok (.iconst 1, 1) := by decide +kernel
theorem dL_isTurned_110 : decode cL_isTurned 110 = .ok (.invokevirtual 57, 3) := by decide +kernel
theorem dL_isTurned_113 : decode cL_isTurned 113 = .ok (.ifCond .lt 7, 3) := by decide +kernel
theorem dL_isTurned_116 : decode cL_isTurned 116 = .ok (.iconst 1, 1) := by decide +kernel
theorem dL_isTurned_117 : decode cL_isTurned 117 = .ok (.goto 4, 3) := by decide +kernel
theorem dL_isTurned_120 : decode cL_isTurned 120 = .ok (.iconst 0, 1) := by decide +kernel
theorem dL_isTurned_121 : decode cL_isTurned 121 = .ok (.istore 8, 2) := by decide +kernel
theorem dL_isTurned_123 : decode cL_isTurned 123 = .ok (.iconst 0, 1) := by decide +kernel
theorem dL_isTurned_124 : decode cL_isTurned 124 = .ok (.istore 9, 2) := by decide +kernel
theorem dL_isTurned_126 : decode cL_isTurned 126 = .ok (.iload 9, 2) := by decide +kernel
theorem dL_isTurned_128 : decode cL_isTurned 128 = .ok (.bipush 12, 2) := by decide +kernel
theorem dL_isTurned_130 : decode cL_isTurned 130 = .ok (.if_icmp .ge 147, 3) := by decide +kernel
theorem dL_isTurned_133 : decode cL_isTurned 133 = .ok (.aload_n 1, 1) := by decide +kernel
theorem dL_isTurned_134 : decode cL_isTurned 134 = .ok (.iload 9, 2) := by decide +kernel
theorem dL_isTurned_136 : decode cL_isTurned 136 = .ok (.bipush 11, 2) := by decide +kernel
theorem dL_isTurned_138 : decode cL_isTurned 138 = .ok (.iadd, 1) := by decide +kernel
theorem dL_isTurned_139 : decode cL_isTurned 139 = .ok (.bipush 12, 2) := by decide +kernel
theorem dL_isTurned_141 : decode cL_isTurned 141 = .ok (.irem, 1) := by decide +kernel
theorem dL_isTurned_142 : decode cL_isTurned 142 = .ok (.iaload, 1) := by decide +kernel
theorem dL_isTurned_143 : decode cL_isTurned 143 = .ok (.istore 10, 2) := by decide +kernel
theorem dL_isTurned_145 : decode cL_isTurned 145 = .ok (.aload_n 2, 1) := by decide +kernel
theorem dL_isTurned_146 : decode cL_isTurned 146 = .ok (.iload 9, 2) := by decide +kernel
theorem dL_isTurned_148 : decode cL_isTurned 148 = .ok (.iconst 1, 1) := by decide +kernel
theorem dL_isTurned_149 : decode cL_isTurned 149 = .ok (.iadd, 1) := by decide +kernel
theorem dL_isTurned_150 : decode cL_isTurned 150 = .ok (.bipush 12, 2) := by decide +kernel
theorem dL_isTurned_152 : decode cL_isTurned 152 = .ok (.irem, 1) := by decide +kernel
theorem dL_isTurned_153 : decode cL_isTurned 153 = .ok (.iaload, 1) := by decide +kernel
theorem dL_isTurned_154 : decode cL_isTurned 154 = .ok (.istore 11, 2) := by decide +kernel
theorem dL_isTurned_156 : decode cL_isTurned 156 = .ok (.iload 9, 2) := by decide +kernel
theorem dL_isTurned_158 : decode cL_isTurned 158 = .ok (.ifCond .eq 10, 3) := by decide +kernel
theorem dL_isTurned_161 : decode cL_isTurned 161 = .ok (.iload 9, 2) := by decide +kernel
theorem dL_isTurned_163 : decode cL_isTurned 163 = .ok (.bipush 6, 2) := by decide +kernel
theorem dL_isTurned_165 : decode cL_isTurned 165 = .ok (.if_icmp .ne 7, 3) := by decide +kernel
theorem dL_isTurned_168 : decode cL_isTurned 168 = .ok (.iconst 1, 1) := by decide +kernel
theorem dL_isTurned_169 : decode cL_isTurned 169 = .ok (.goto 4, 3) := by decide +kernel
theorem dL_isTurned_172 : decode cL_isTurned 172 = .ok (.iconst 0, 1) := by decide +kernel
theorem dL_isTurned_173 : decode cL_isTurned 173 = .ok (.istore 12, 2) := by decide +kernel
theorem dL_isTurned_175 : decode cL_isTurned 175 = .ok (.iload 8, 2) := by decide +kernel
theorem dL_isTurned_177 : decode cL_isTurned 177 = .ok (.ifCond .eq 91, 3) := by decide +kernel
theorem dL_isTurned_180 : decode cL_isTurned 180 = .ok (.iload 12, 2) := by decide +kernel
theorem dL_isTurned_182 : decode cL_isTurned 182 = .ok (.ifCond .ne 40, 3) := by decide +kernel
theorem dL_isTurned_185 : decode cL_isTurned 185 = .ok (.iload 9, 2) := by decide +kernel
theorem dL_isTurned_187 : decode cL_isTurned 187 = .ok (.iconst 2, 1) := by decide +kernel
theorem dL_isTurned_188 : decode cL_isTurned 188 = .ok (.if_icmp .eq 34, 3) := by decide +kernel
theorem dL_isTurned_191 : decode cL_isTurned 191 = .ok (.iload 9, 2) := by decide +kernel
theorem dL_isTurned_193 : decode cL_isTurned 193 = .ok (.bipush 8, 2) := by decide +kernel
theorem dL_isTurned_195 : decode cL_isTurned 195 = .ok (.if_icmp .eq 27, 3) := by decide +kernel
theorem dL_isTurned_198 : decode cL_isTurned 198 = .ok (.aload_n 0, 1) := by decide +kernel
theorem dL_isTurned_199 : decode cL_isTurned 199 = .ok (.iconst 0, 1) := by decide +kernel
theorem dL_isTurned_200 : decode cL_isTurned 200 = .ok (.iload 9, 2) := by decide +kernel
theorem dL_isTurned_202 : decode cL_isTurned 202 = .ok (.invokevirtual 36, 3) := by decide +kernel
theorem dL_isTurned_205 : decode cL_isTurned 205 = .ok (.iload 10, 2) := by decide +kernel
theorem dL_isTurned_207 : decode cL_isTurned 207 = .ok (.iload 10, 2) := by decide +kernel
theorem dL_isTurned_209 : decode cL_isTurned 209 = .ok (.aload_n 0, 1) := by decide +kernel
theorem dL_isTurned_210 : decode cL_isTurned 210 = .ok (.iconst 1, 1) := by decide +kernel
theorem dL_isTurned_211 : decode cL_isTurned 211 = .ok (.invokevirtual 46, 3) := by decide +kernel
theorem dL_isTurned_214 : decode cL_isTurned 214 = .ok (.imul, 1) := by decide +kernel
theorem dL_isTurned_215 : decode cL_isTurned 215 = .ok (.bipush 100, 2) := by decide +kernel
theorem dL_isTurned_217 : decode cL_isTurned 217 = .ok (.idiv, 1) := by decide +kernel
theorem dL_isTurned_218 : decode cL_isTurned 218 = .ok (.isub, 1) := by decide +kernel
theorem dL_isTurned_219 : decode cL_isTurned 219 = .ok (.if_icmp .ne 49, 3) := by decide +kernel
theorem dL_isTurned_222 : decode cL_isTurned 222 = .ok (.iload 12, 2) := by decide +kernel
theorem dL_isTurned_224 : decode cL_isTurned 224 = .ok (.ifCond .ne 40, 3) := by decide +kernel
theorem dL_isTurned_227 : decode cL_isTurned 227 = .ok (.iload 9, 2) := by decide +kernel
theorem dL_isTurned_229 : decode cL_isTurned 229 = .ok (.iconst 4, 1) := by decide +kernel
theorem dL_isTurned_230 : decode cL_isTurned 230 = .ok (.if_icmp .eq 34, 3) := by decide +kernel
theorem dL_isTurned_233 : decode cL_isTurned 233 = .ok (.iload 9, 2) := by decide +kernel
theorem dL_isTurned_235 : decode cL_isTurned 235 = .ok (.bipush 10, 2) := by decide +kernel
theorem dL_isTurned_237 : decode cL_isTurned 237 = .ok (.if_icmp .eq 27, 3) := by decide +kernel
theorem dL_isTurned_240 : decode cL_isTurned 240 = .ok (.aload_n 0, 1) := by decide +kernel
theorem dL_isTurned_241 : decode cL_isTurned 241 = .ok (.iconst 1, 1) := by decide +kernel
theorem dL_isTurned_242 : decode cL_isTurned 242 = .ok (.iload 9, 2) := by decide +kernel
theorem dL_isTurned_244 : decode cL_isTurned 244 = .ok (.invokevirtual 36, 3) := by decide +kernel
theorem dL_isTurned_247 : decode cL_isTurned 247 = .ok (.iload 11, 2) := by decide +kernel
theorem dL_isTurned_249 : decode cL_isTurned 249 = .ok (.iload 11, 2) := by decide +kernel
theorem dL_isTurned_251 : decode cL_isTurned 251 = .ok (.aload_n 0, 1) := by decide +kernel
theorem dL_isTurned_252 : decode cL_isTurned 252 = .ok (.iconst 1, 1) := by decide +kernel
theorem dL_isTurned_253 : decode cL_isTurned 253 = .ok (.invokevirtual 46, 3) := by decide +kernel
theorem dL_isTurned_256 : decode cL_isTurned 256 = .ok (.imul, 1) := by decide +kernel
theorem dL_isTurned_257 : decode cL_isTurned 257 = .ok (.bipush 100, 2) := by decide +kernel
theorem dL_isTurned_259 : decode cL_isTurned 259 = .ok (.idiv, 1) := by decide +kernel
theorem dL_isTurned_260 : decode cL_isTurned 260 = .ok (.isub, 1) := by decide +kernel
theorem dL_isTurned_261 : decode cL_isTurned 261 = .ok (.if_icmp .ne 7, 3) := by decide +kernel
theorem dL_isTurned_264 : decode cL_isTurned 264 = .ok (.iconst 1, 1) := by decide +kernel
theorem dL_isTurned_265 : decode cL_isTurned 265 = .ok (.goto 4, 3) := by decide +kernel
theorem dL_isTurned_268 : decode cL_isTurned 268 = .ok (.iconst 0, 1) := by decide +kernel
theorem dL_isTurned_269 : decode cL_isTurned 269 = .ok (.istore 8, 2) := by decide +kernel
theorem dL_isTurned_271 : decode cL_isTurned 271 = .ok (.iinc 9 1, 3) := by decide +kernel
theorem dL_isTurned_274 : decode cL_isTurned 274 = .ok (.goto (-148), 3) := by decide +kernel
theorem dL_isTurned_277 : decode cL_isTurned 277 = .ok (.iload 8, 2) := by decide +kernel
theorem dL_isTurned_279 : decode cL_isTurned 279 = .ok (.ifCond .eq 79, 3) := by decide +kernel
theorem dL_isTurned_282 : decode cL_isTurned 282 = .ok (.aload_n 0, 1) := by decide +kernel
theorem dL_isTurned_283 : decode cL_isTurned 283 = .ok (.bipush 9, 2) := by decide +kernel
theorem dL_isTurned_285 : decode cL_isTurned 285 = .ok (.invokevirtual 46, 3) := by decide +kernel
theorem dL_isTurned_288 : decode cL_isTurned 288 = .ok (.iload_n 3, 1) := by decide +kernel
theorem dL_isTurned_289 : decode cL_isTurned 289 = .ok (.aload_n 0, 1) := by decide +kernel
theorem dL_isTurned_290 : decode cL_isTurned 290 = .ok (.bipush 10, 2) := by decide +kernel
theorem dL_isTurned_292 : decode cL_isTurned 292 = .ok (.invokevirtual 46, 3) := by decide +kernel
theorem dL_isTurned_295 : decode cL_isTurned 295 = .ok (.isub, 1) := by decide +kernel
theorem dL_isTurned_296 : decode cL_isTurned 296 = .ok (.iload 4, 2) := by decide +kernel
theorem dL_isTurned_298 : decode cL_isTurned 298 = .ok (.iadd, 1) := by decide +kernel
theorem dL_isTurned_299 : decode cL_isTurned 299 = .ok (.if_icmp .ne 59, 3) := by decide +kernel
theorem dL_isTurned_302 : decode cL_isTurned 302 = .ok (.aload_n 0, 1) := by decide +kernel
theorem dL_isTurned_303 : decode cL_isTurned 303 = .ok (.iconst 0, 1) := by decide +kernel
theorem dL_isTurned_304 : decode cL_isTurned 304 = .ok (.iconst 0, 1) := by decide +kernel
theorem dL_isTurned_305 : decode cL_isTurned 305 = .ok (.invokevirtual 40, 3) := by decide +kernel
theorem dL_isTurned_308 : decode cL_isTurned 308 = .ok (.aload_n 0, 1) := by decide +kernel
theorem dL_isTurned_309 : decode cL_isTurned 309 = .ok (.iconst 1, 1) := by decide +kernel
theorem dL_isTurned_310 : decode cL_isTurned 310 = .ok (.iconst 0, 1) := by decide +kernel
theorem dL_isTurned_311 : decode cL_isTurned 311 = .ok (.invokevirtual 40, 3) := by decide +kernel
theorem dL_isTurned_314 : decode cL_isTurned 314 = .ok (.iadd, 1) := by decide +kernel
theorem dL_isTurned_315 : decode cL_isTurned 315 = .ok (.iload 7, 2) := by decide +kernel
theorem dL_isTurned_317 : decode cL_isTurned 317 = .ok (.aload_n 0, 1) := by decide +kernel
theorem dL_isTurned_318 : decode cL_isTurned 318 = .ok (.iconst 0, 1) := by decide +kernel
theorem dL_isTurned_319 : decode cL_isTurned 319 = .ok (.iconst 1, 1) := by decide +kernel
theorem dL_isTurned_320 : decode cL_isTurned 320 = .ok (.invokevirtual 40, 3) := by decide +kernel
theorem dL_isTurned_323 : decode cL_isTurned 323 = .ok (.iadd, 1) := by decide +kernel
theorem dL_isTurned_324 : decode cL_isTurned 324 = .ok (.aload_n 0, 1) := by decide +kernel
theorem dL_isTurned_325 : decode cL_isTurned 325 = .ok (.iconst 1, 1) := by decide +kernel
theorem dL_isTurned_326 : decode cL_isTurned 326 = .ok (.iconst 1, 1) := by decide +kernel
theorem dL_isTurned_327 : decode cL_isTurned 327 = .ok (.invokevirtual 40, 3) := by decide +kernel
theorem dL_isTurned_330 : decode cL_isTurned 330 = .ok (.iadd, 1) := by decide +kernel
theorem dL_isTurned_331 : decode cL_isTurned 331 = .ok (.iload 5, 2) := by decide +kernel
theorem dL_isTurned_333 : decode cL_isTurned 333 = .ok (.isub, 1) := by decide +kernel
theorem dL_isTurned_334 : decode cL_isTurned 334 = .ok (.aload_n 0, 1) := by decide +kernel
theorem dL_isTurned_335 : decode cL_isTurned 335 = .ok (.iconst 0, 1) := by decide +kernel
theorem dL_isTurned_336 : decode cL_isTurned 336 = .ok (.iconst 2, 1) := by decide +kernel
theorem dL_isTurned_337 : decode cL_isTurned 337 = .ok (.invokevirtual 40, 3) := by decide +kernel
theorem dL_isTurned_340 : decode cL_isTurned 340 = .ok (.isub, 1) := by decide +kernel
theorem dL_isTurned_341 : decode cL_isTurned 341 = .ok (.aload_n 0, 1) := by decide +kernel
theorem dL_isTurned_342 : decode cL_isTurned 342 = .ok (.iconst 1, 1) := by decide +kernel
theorem dL_isTurned_343 : decode cL_isTurned 343 = .ok (.iconst 2, 1) := by decide +kernel
theorem dL_isTurned_344 : decode cL_isTurned 344 = .ok (.invokevirtual 40, 3) := by decide +kernel
theorem dL_isTurned_347 : decode cL_isTurned 347 = .ok (.isub, 1) := by decide +kernel
theorem dL_isTurned_348 : decode cL_isTurned 348 = .ok (.iload 6, 2) := by decide +kernel
theorem dL_isTurned_350 : decode cL_isTurned 350 = .ok (.iadd, 1) := by decide +kernel
theorem dL_isTurned_351 : decode cL_isTurned 351 = .ok (.if_icmp .ne 7, 3) := by decide +kernel
theorem dL_isTurned_354 : decode cL_isTurned 354 = .ok (.iconst 1, 1) := by decide +kernel
theorem dL_isTurned_355 : decode cL_isTurned 355 = .ok (.goto 4, 3) := by decide +kernel
theorem dL_isTurned_358 : decode cL_isTurned 358 = .ok (.iconst 0, 1) := by decide +kernel
theorem dL_isTurned_359 : decode cL_isTurned 359 = .ok (.ireturn, 1) := by decide +kernel
theorem dL_areAlike_0 : decode cL_areAlike 0 = .ok (.aload_n 0, 1) := by decide +kernel
theorem dL_areAlike_1 : decode cL_areAlike 1 = .ok (.invokevirtual 64, 3) := by decide +kernel
theorem dL_areAlike_4 : decode cL_areAlike 4 = .ok (.aload_n 1, 1) := by decide +kernel
theorem dL_areAlike_5 : decode cL_areAlike 5 = .ok (.invokevirtual 64, 3) := by decide +kernel
theorem dL_areAlike_8 : decode cL_areAlike 8 = .ok (.if_icmp .ne 29, 3) := by decide +kernel
theorem dL_areAlike_11 : decode cL_areAlike 11 = .ok (.aload_n 0, 1) := by decide +kernel
theorem dL_areAlike_12 : decode cL_areAlike 12 = .ok (.invokevirtual 97, 3) := by decide +kernel
theorem dL_areAlike_15 : decode cL_areAlike 15 = .ok (.aload_n 1, 1) := by decide +kernel
theorem dL_areAlike_16 : decode cL_areAlike 16 = .ok (.invokevirtual 97, 3) := by decide +kernel
theorem dL_areAlike_19 : decode cL_areAlike 19 = .ok (.if_icmp .ne 18, 3) := by decide +kernel
theorem dL_areAlike_22 : decode cL_areAlike 22 = .ok (.aload_n 0, 1) := by decide +kernel
theorem dL_areAlike_23 : decode cL_areAlike 23 = .ok (.invokevirtual 100, 3) := by decide +kernel
theorem dL_areAlike_26 : decode cL_areAlike 26 = .ok (.aload_n 1, 1) := by decide +kernel
theorem dL_areAlike_27 : decode cL_areAlike 27 = .ok (.invokevirtual 100, 3) := by decide +kernel
theorem dL_areAlike_30 : decode cL_areAlike 30 = .ok (.if_icmp .ne 7, 3) := by decide +kernel
theorem dL_areAlike_33 : decode cL_areAlike 33 = .ok (.iconst 1, 1) := by decide +kernel
theorem dL_areAlike_34 : decode cL_areAlike 34 = .ok (.goto 4, 3) := by decide +kernel
theorem dL_areAlike_37 : decode cL_areAlike 37 = .ok (.iconst 0, 1) := by decide +kernel
theorem dL_areAlike_38 : decode cL_areAlike 38 = .ok (.istore_n 3, 1) := by decide +kernel
theorem dL_areAlike_39 : decode cL_areAlike 39 = .ok (.iconst 0, 1) := by decide +kernel
theorem dL_areAlike_40 : decode cL_areAlike 40 = .ok (.istore 4, 2) := by decide +kernel
theorem dL_areAlike_42 : decode cL_areAlike 42 = .ok (.iload 4, 2) := by decide +kernel
theorem dL_areAlike_44 : decode cL_areAlike 44 = .ok (.bipush 8, 2) := by decide +kernel
theorem dL_areAlike_46 : decode cL_areAlike 46 = .ok (.if_icmp .ge 34, 3) := by decide +kernel
theorem dL_areAlike_49 : decode cL_areAlike 49 = .ok (.iload_n 3, 1) := by decide +kernel
theorem dL_areAlike_50 : decode cL_areAlike 50 = .ok (.ifCond .eq 22, 3) := by decide +kernel
theorem dL_areAlike_53 : decode cL_areAlike 53 = .ok (.aload_n 0, 1) := by decide +kernel
theorem dL_areAlike_54 : decode cL_areAlike 54 = .ok (.iload 4, 2) := by decide +kernel
theorem dL_areAlike_56 : decode cL_areAlike 56 = .ok (.invokevirtual 46, 3) := by decide +kernel
theorem dL_areAlike_59 : decode cL_areAlike 59 = .ok (.aload_n 1, 1) := by decide +kernel
theorem dL_areAlike_60 : decode cL_areAlike 60 = .ok (.iload 4, 2) := by decide +kernel
theorem dL_areAlike_62 : decode cL_areAlike 62 = .ok (.invokevirtual 46, 3) := by decide +kernel
theorem dL_areAlike_65 : decode cL_areAlike 65 = .ok (.if_icmp .ne 7, 3) := by decide +kernel
theorem dL_areAlike_68 : decode cL_areAlike 68 = .ok (.iconst 1, 1) := by decide +kernel
theorem dL_areAlike_69 : decode cL_areAlike 69 = .ok (.goto 4, 3) := by decide +kernel
theorem dL_areAlike_72 : decode cL_areAlike 72 = .ok (.iconst 0, 1) := by decide +kernel
theorem dL_areAlike_73 : decode cL_areAlike 73 = .ok (.istore_n 3, 1) := by decide +kernel
theorem dL_areAlike_74 : decode cL_areAlike 74 = .ok (.iinc 4 1, 3) := by decide +kernel
theorem dL_areAlike_77 : decode cL_areAlike 77 = .ok (.goto (-35), 3) := by decide +kernel
theorem dL_areAlike_80 : decode cL_areAlike 80 = .ok (.bipush 8, 2) := by decide +kernel
theorem dL_areAlike_82 : decode cL_areAlike 82 = .ok (.istore 4, 2) := by decide +kernel
theorem dL_areAlike_84 : decode cL_areAlike 84 = .ok (.iload 4, 2) := by decide +kernel
theorem dL_areAlike_86 : decode cL_areAlike 86 = .ok (.bipush 13, 2) := by decide +kernel
theorem dL_areAlike_88 : decode cL_areAlike 88 = .ok (.if_icmp .ge 35, 3) := by decide +kernel
theorem dL_areAlike_91 : decode cL_areAlike 91 = .ok (.iload_n 3, 1) := by decide +kernel
theorem dL_areAlike_92 : decode cL_areAlike 92 = .ok (.ifCond .eq 23, 3) := by decide +kernel
theorem dL_areAlike_95 : decode cL_areAlike 95 = .ok (.aload_n 0, 1) := by decide +kernel
theorem dL_areAlike_96 : decode cL_areAlike 96 = .ok (.iload 4, 2) := by decide +kernel
theorem dL_areAlike_98 : decode cL_areAlike 98 = .ok (.invokevirtual 46, 3) := by decide +kernel
theorem dL_areAlike_101 : decode cL_areAlike 101 = .ok (.aload_n 1, 1) := by decide +kernel
theorem dL_areAlike_102 : decode cL_areAlike 102 = .ok (.iload 4, 2) := by decide +kernel
theorem dL_areAlike_104 : decode cL_areAlike 104 = .ok (.invokevirtual 46, 3) := by decide +kernel
theorem dL_areAlike_107 : decode cL_areAlike 107 = .ok (.ineg, 1) := by decide +kernel
theorem dL_areAlike_108 : decode cL_areAlike 108 = .ok (.if_icmp .ne 7, 3) := by decide +kernel
theorem dL_areAlike_111 : decode cL_areAlike 111 = .ok (.iconst 1, 1) := by decide +kernel
theorem dL_areAlike_112 : decode cL_areAlike 112 = .ok (.goto 4, 3) := by decide +kernel
theorem dL_areAlike_115 : decode cL_areAlike 115 = .ok (.iconst 0, 1) := by decide +kernel
theorem dL_areAlike_116 : decode cL_areAlike 116 = .ok (.istore_n 3, 1) := by decide +kernel
theorem dL_areAlike_117 : decode cL_areAlike 117 = .ok (.iinc 4 1, 3) := by decide +kernel
theorem dL_areAlike_120 : decode cL_areAlike 120 = .ok (.goto (-36), 3) := by decide +kernel
theorem dL_areAlike_123 : decode cL_areAlike 123 = .ok (.iconst 0, 1) := by decide +kernel
theorem dL_areAlike_124 : decode cL_areAlike 124 = .ok (.istore 4, 2) := by decide +kernel
theorem dL_areAlike_126 : decode cL_areAlike 126 = .ok (.iload 4, 2) := by decide +kernel
theorem dL_areAlike_128 : decode cL_areAlike 128 = .ok (.iconst 2, 1) := by decide +kernel
theorem dL_areAlike_129 : decode cL_areAlike 129 = .ok (.if_icmp .ge 177, 3) := by decide +kernel
theorem dL_areAlike_132 : decode cL_areAlike 132 = .ok (.iload_n 3, 1) := by decide +kernel
theorem dL_areAlike_133 : decode cL_areAlike 133 = .ok (.ifCond .eq 95, 3) := by decide +kernel
theorem dL_areAlike_136 : decode cL_areAlike 136 = .ok (.aload_n 0, 1) := by decide +kernel
theorem dL_areAlike_137 : decode cL_areAlike 137 = .ok (.iload 4, 2) := by decide +kernel
theorem dL_areAlike_139 : decode cL_areAlike 139 = .ok (.iconst 0, 1) := by decide +kernel
theorem dL_areAlike_140 : decode cL_areAlike 140 = .ok (.invokevirtual 74, 3) := by decide +kernel
theorem dL_areAlike_143 : decode cL_areAlike 143 = .ok (.aload_n 1, 1) := by decide +kernel
theorem dL_areAlike_144 : decode cL_areAlike 144 = .ok (.iload 4, 2) := by decide +kernel
theorem dL_areAlike_146 : decode cL_areAlike 146 = .ok (.iconst 0, 1) := by decide +kernel
theorem dL_areAlike_147 : decode cL_areAlike 147 = .ok (.invokevirtual 74, 3) := by decide +kernel
theorem dL_areAlike_150 : decode cL_areAlike 150 = .ok (.ineg, 1) := by decide +kernel
theorem dL_areAlike_151 : decode cL_areAlike 151 = .ok (.if_icmp .ne 77, 3) := by decide +kernel
theorem dL_areAlike_154 : decode cL_areAlike 154 = .ok (.aload_n 0, 1) := by decide +kernel
theorem dL_areAlike_155 : decode cL_areAlike 155 = .ok (.iload 4, 2) := by decide +kernel
theorem dL_areAlike_157 : decode cL_areAlike 157 = .ok (.iconst 1, 1) := by decide +kernel
theorem dL_areAlike_158 : decode cL_areAlike 158 = .ok (.invokevirtual 74, 3) := by decide +kernel
theorem dL_areAlike_161 : decode cL_areAlike 161 = .ok (.aload_n 1, 1) := by decide +kernel
theorem dL_areAlike_162 : decode cL_areAlike 162 = .ok (.iload 4, 2) := by decide +kernel
theorem dL_areAlike_164 : decode cL_areAlike 164 = .ok (.iconst 2, 1) := by decide +kernel
theorem dL_areAlike_165 : decode cL_areAlike 165 = .ok (.invokevirtual 74, 3) := by decide +kernel
theorem dL_areAlike_168 : decode cL_areAlike 168 = .ok (.if_icmp .ne 60, 3) := by decide +kernel
theorem dL_areAlike_171 : decode cL_areAlike 171 = .ok (.aload_n 0, 1) := by decide +kernel
theorem dL_areAlike_172 : decode cL_areAlike 172 = .ok (.iload 4, 2) := by decide +kernel
theorem dL_areAlike_174 : decode cL_areAlike 174 = .ok (.iconst 2, 1) := by decide +kernel
theorem dL_areAlike_175 : decode cL_areAlike 175 = .ok (.invokevirtual 74, 3) := by decide +kernel
theorem dL_areAlike_178 : decode cL_areAlike 178 = .ok (.aload_n 1, 1) := by decide +kernel
theorem dL_areAlike_179 : decode cL_areAlike 179 = .ok (.iload 4, 2) := by decide +kernel
theorem dL_areAlike_181 : decode cL_areAlike 181 = .ok (.iconst 1, 1) := by decide +kernel
theorem dL_areAlike_182 : decode cL_areAlike 182 = .ok (.invokevirtual 74, 3) := by decide +kernel
theorem dL_areAlike_185 : decode cL_areAlike 185 = .ok (.if_icmp .ne 43, 3) := by decide +kernel
theorem dL_areAlike_188 : decode cL_areAlike 188 = .ok (.aload_n 0, 1) := by decide +kernel
theorem dL_areAlike_189 : decode cL_areAlike 189 = .ok (.iload 4, 2) := by decide +kernel
theorem dL_areAlike_191 : decode cL_areAlike 191 = .ok (.iconst 3, 1) := by decide +kernel
theorem dL_areAlike_192 : decode cL_areAlike 192 = .ok (.invokevirtual 74, 3) := by decide +kernel
theorem dL_areAlike_195 : decode cL_areAlike 195 = .ok (.aload_n 1, 1) := by decide +kernel
theorem dL_areAlike_196 : decode cL_areAlike 196 = .ok (.iload 4, 2) := by decide +kernel
theorem dL_areAlike_198 : decode cL_areAlike 198 = .ok (.iconst 4, 1) := by decide +kernel
theorem dL_areAlike_199 : decode cL_areAlike 199 = .ok (.invokevirtual 74, 3) := by decide +kernel
theorem dL_areAlike_202 : decode cL_areAlike 202 = .ok (.ineg, 1) := by decide +kernel
theorem dL_areAlike_203 : decode cL_areAlike 203 = .ok (.if_icmp .ne 25, 3) := by decide +kernel
theorem dL_areAlike_206 : decode cL_areAlike 206 = .ok (.aload_n 0, 1) := by decide +kernel
theorem dL_areAlike_207 : decode cL_areAlike 207 = .ok (.iload 4, 2) := by decide +kernel
theorem dL_areAlike_209 : decode cL_areAlike 209 = .ok (.iconst 4, 1) := by decide +kernel
theorem dL_areAlike_210 : decode cL_areAlike 210 = .ok (.invokevirtual 74, 3) := by decide +kernel
theorem dL_areAlike_213 : decode cL_areAlike 213 = .ok (.aload_n 1, 1) := by decide +kernel
theorem dL_areAlike_214 : decode cL_areAlike 214 = .ok (.iload 4, 2) := by decide +kernel
theorem dL_areAlike_216 : decode cL_areAlike 216 = .ok (.iconst 3, 1) := by decide +kernel
theorem dL_areAlike_217 : decode cL_areAlike 217 = .ok (.invokevirtual 74, 3) := by decide +kernel
theorem dL_areAlike_220 : decode cL_areAlike 220 = .ok (.ineg, 1) := by decide +kernel
theorem dL_areAlike_221 : decode cL_areAlike 221 = .ok (.if_icmp .ne 7, 3) := by decide +kernel
theorem dL_areAlike_224 : decode cL_areAlike 224 = .ok (.iconst 1, 1) := by decide +kernel
theorem dL_areAlike_225 : decode cL_areAlike 225 = .ok (.goto 4, 3) := by decide +kernel
theorem dL_areAlike_228 : decode cL_areAlike 228 = .ok (.iconst 0, 1) := by decide +kernel
theorem dL_areAlike_229 : decode cL_areAlike 229 = .ok (.istore_n 3, 1) := by decide +kernel
theorem dL_areAlike_230 : decode cL_areAlike 230 = .ok (.iconst 0, 1) := by decide +kernel
theorem dL_areAlike_231 : decode cL_areAlike 231 = .ok (.istore 5, 2) := by decide +kernel
theorem dL_areAlike_233 : decode cL_areAlike 233 = .ok (.iload 5, 2) := by decide +kernel
theorem dL_areAlike_235 : decode cL_areAlike 235 = .ok (.bipush 12, 2) := by decide +kernel
theorem dL_areAlike_237 : decode cL_areAlike 237 = .ok (.if_icmp .ge 63, 3) := by decide +kernel
theorem dL_areAlike_240 : decode cL_areAlike 240 = .ok (.iload_n 3, 1) := by decide +kernel
theorem dL_areAlike_241 : decode cL_areAlike 241 = .ok (.ifCond .eq 51, 3) := by decide +kernel
theorem dL_areAlike_244 : decode cL_areAlike 244 = .ok (.aload_n 0, 1) := by decide +kernel
theorem dL_areAlike_245 : decode cL_areAlike 245 = .ok (.iload 4, 2) := by decide +kernel
theorem dL_areAlike_247 : decode cL_areAlike 247 = .ok (.iload 5, 2) := by decide +kernel
theorem dL_areAlike_249 : decode cL_areAlike 249 = .ok (.invokevirtual 36, 3) := by decide +kernel
theorem dL_areAlike_252 : decode cL_areAlike 252 = .ok (.aload_n 1, 1) := by decide +kernel
theorem dL_areAlike_253 : decode cL_areAlike 253 = .ok (.iload 4, 2) := by decide +kernel
theorem dL_areAlike_255 : decode cL_areAlike 255 = .ok (.iload 5, 2) := by decide +kernel
theorem dL_areAlike_257 : decode cL_areAlike 257 = .ok (.invokevirtual 36, 3) := by decide +kernel
theorem dL_areAlike_260 : decode cL_areAlike 260 = .ok (.ineg, 1) := by decide +kernel
theorem dL_areAlike_261 : decode cL_areAlike 261 = .ok (.if_icmp .ne 31, 3) := by decide +kernel
theorem dL_areAlike_264 : decode cL_areAlike 264 = .ok (.aload_n 0, 1) := by decide +kernel
theorem dL_areAlike_265 : decode cL_areAlike 265 = .ok (.iload 4, 2) := by decide +kernel
theorem dL_areAlike_267 : decode cL_areAlike 267 = .ok (.iload 5, 2) := by decide +kernel
theorem dL_areAlike_269 : decode cL_areAlike 269 = .ok (.iconst 3, 1) := by decide +kernel
theorem dL_areAlike_270 : decode cL_areAlike 270 = .ok (.irem, 1) := by decide +kernel
theorem dL_areAlike_271 : decode cL_areAlike 271 = .ok (.invokevirtual 40, 3) := by decide +kernel
theorem dL_areAlike_274 : decode cL_areAlike 274 = .ok (.aload_n 1, 1) := by decide +kernel
theorem dL_areAlike_275 : decode cL_areAlike 275 = .ok (.iload 4, 2) := by decide +kernel
theorem dL_areAlike_277 : decode cL_areAlike 277 = .ok (.iload 5, 2) := by decide +kernel
theorem dL_areAlike_279 : decode cL_areAlike 279 = .ok (.iconst 3, 1) := by decide +kernel
theorem dL_areAlike_280 : decode cL_areAlike 280 = .ok (.irem, 1) := by decide +kernel
theorem dL_areAlike_281 : decode cL_areAlike 281 = .ok (.invokevirtual 40, 3) := by decide +kernel
theorem dL_areAlike_284 : decode cL_areAlike 284 = .ok (.ineg, 1) := by decide +kernel
theorem dL_areAlike_285 : decode cL_areAlike 285 = .ok (.if_icmp .ne 7, 3) := by decide +kernel
theorem dL_areAlike_288 : decode cL_areAlike 288 = .ok (.iconst 1, 1) := by decide +kernel
theorem dL_areAlike_289 : decode cL_areAlike 289 = .ok (.goto 4, 3) := by decide +kernel
theorem dL_areAlike_292 : decode cL_areAlike 292 = .ok (.iconst 0, 1) := by decide +kernel
theorem dL_areAlike_293 : decode cL_areAlike 293 = .ok (.istore_n 3, 1) := by decide +kernel
theorem dL_areAlike_294 : decode cL_areAlike 294 = .ok (.iinc 5 1, 3) := by decide +kernel
theorem dL_areAlike_297 : decode cL_areAlike 297 = .ok (.goto (-64), 3) := by decide +kernel
theorem dL_areAlike_300 : decode cL_areAlike 300 = .ok (.iinc 4 1, 3) := by decide +kernel
theorem dL_areAlike_303 : decode cL_areAlike 303 = .ok (.goto (-177), 3) := by decide +kernel
theorem dL_areAlike_306 : decode cL_areAlike 306 = .ok (.iconst 0, 1) := by decide +kernel
theorem dL_areAlike_307 : decode cL_areAlike 307 = .ok (.istore 4, 2) := by decide +kernel
theorem dL_areAlike_309 : decode cL_areAlike 309 = .ok (.iload 4, 2) := by decide +kernel
theorem dL_areAlike_311 : decode cL_areAlike 311 = .ok (.bipush 8, 2) := by decide +kernel
theorem dL_areAlike_313 : decode cL_areAlike 313 = .ok (.if_icmp .ge 83, 3) := by decide +kernel
theorem dL_areAlike_316 : decode cL_areAlike 316 = .ok (.aload_n 0, 1) := by decide +kernel
theorem dL_areAlike_317 : decode cL_areAlike 317 = .ok (.iload 4, 2) := by decide +kernel
theorem dL_areAlike_319 : decode cL_areAlike 319 = .ok (.iconst 0, 1) := by decide +kernel
theorem dL_areAlike_320 : decode cL_areAlike 320 = .ok (.invokevirtual 103, 3) := by decide +kernel
theorem dL_areAlike_323 : decode cL_areAlike 323 = .ok (.istore 5, 2) := by decide +kernel
theorem dL_areAlike_325 : decode cL_areAlike 325 = .ok (.iload_n 3, 1) := by decide +kernel
theorem dL_areAlike_326 : decode cL_areAlike 326 = .ok (.ifCond .eq 62, 3) := by decide +kernel
theorem dL_areAlike_329 : decode cL_areAlike 329 = .ok (.iload 5, 2) := by decide +kernel
theorem dL_areAlike_331 : decode cL_areAlike 331 = .ok (.aload_n 1, 1) := by decide +kernel
theorem dL_areAlike_332 : decode cL_areAlike 332 = .ok (.iload 4, 2) := by decide +kernel
theorem dL_areAlike_334 : decode cL_areAlike 334 = .ok (.iconst 0, 1) := by decide +kernel
theorem dL_areAlike_335 : decode cL_areAlike 335 = .ok (.invokevirtual 103, 3) := by decide +kernel
theorem dL_areAlike_338 : decode cL_areAlike 338 = .ok (.if_icmp .ne 50, 3) := by decide +kernel
theorem dL_areAlike_341 : decode cL_areAlike 341 = .ok (.iload 5, 2) := by decide +kernel
theorem dL_areAlike_343 : decode cL_areAlike 343 = .ok (.ldc 106, 2) := by decide +kernel
theorem dL_areAlike_345 : decode cL_areAlike 345 = .ok (.if_icmp .eq 39, 3) := by decide +kernel
theorem dL_areAlike_348 : decode cL_areAlike 348 = .ok (.aload_n 0, 1) := by decide +kernel
theorem dL_areAlike_349 : decode cL_areAlike 349 = .ok (.iload 4, 2) := by decide +kernel
theorem dL_areAlike_351 : decode cL_areAlike 351 = .ok (.iconst 1, 1) := by decide +kernel
theorem dL_areAlike_352 : decode cL_areAlike 352 = .ok (.invokevirtual 103, 3) := by decide +kernel
theorem dL_areAlike_355 : decode cL_areAlike 355 = .ok (.aload_n 1, 1) := by decide +kernel
theorem dL_areAlike_356 : decode cL_areAlike 356 = .ok (.iload 4, 2) := by decide +kernel
theorem dL_areAlike_358 : decode cL_areAlike 358 = .ok (.iconst 1, 1) := by decide +kernel
theorem dL_areAlike_359 : decode cL_areAlike 359 = .ok (.invokevirtual 103, 3) := by decide +kernel
theorem dL_areAlike_362 : decode cL_areAlike 362 = .ok (.ineg, 1) := by decide +kernel
theorem dL_areAlike_363 : decode cL_areAlike 363 = .ok (.if_icmp .ne 25, 3) := by decide +kernel
theorem dL_areAlike_366 : decode cL_areAlike 366 = .ok (.aload_n 0, 1) := by decide +kernel
theorem dL_areAlike_367 : decode cL_areAlike 367 = .ok (.iload 4, 2) := by decide +kernel
theorem dL_areAlike_369 : decode cL_areAlike 369 = .ok (.iconst 2, 1) := by decide +kernel
theorem dL_areAlike_370 : decode cL_areAlike 370 = .ok (.invokevirtual 103, 3) := by decide +kernel
theorem dL_areAlike_373 : decode cL_areAlike 373 = .ok (.aload_n 1, 1) := by decide +kernel
theorem dL_areAlike_374 : decode cL_areAlike 374 = .ok (.iload 4, 2) := by decide +kernel
theorem dL_areAlike_376 : decode cL_areAlike 376 = .ok (.iconst 2, 1) := by decide +kernel
theorem dL_areAlike_377 : decode cL_areAlike 377 = .ok (.invokevirtual 103, 3) := by decide +kernel
theorem dL_areAlike_380 : decode cL_areAlike 380 = .ok (.ineg, 1) := by decide +kernel
theorem dL_areAlike_381 : decode cL_areAlike 381 = .ok (.if_icmp .ne 7, 3) := by decide +kernel
theorem dL_areAlike_384 : decode cL_areAlike 384 = .ok (.iconst 1, 1) := by decide +kernel
theorem dL_areAlike_385 : decode cL_areAlike 385 = .ok (.goto 4, 3) := by decide +kernel
theorem dL_areAlike_388 : decode cL_areAlike 388 = .ok (.iconst 0, 1) := by decide +kernel
theorem dL_areAlike_389 : decode cL_areAlike 389 = .ok (.istore_n 3, 1) := by decide +kernel
theorem dL_areAlike_390 : decode cL_areAlike 390 = .ok (.iinc 4 1, 3) := by decide +kernel
theorem dL_areAlike_393 : decode cL_areAlike 393 = .ok (.goto (-84), 3) := by decide +kernel
theorem dL_areAlike_396 : decode cL_areAlike 396 = .ok (.iconst 1, 1) := by decide +kernel
theorem dL_areAlike_397 : decode cL_areAlike 397 = .ok (.iload_n 2, 1) := by decide +kernel
theorem dL_areAlike_398 : decode cL_areAlike 398 = .ok (.sipush 200, 3) := by decide +kernel
theorem dL_areAlike_401 : decode cL_areAlike 401 = .ok (.invokestatic 43, 3) := by decide +kernel
theorem dL_areAlike_404 : decode cL_areAlike 404 = .ok (.iadd, 1) := by decide +kernel
theorem dL_areAlike_405 : decode cL_areAlike 405 = .ok (.istore 4, 2) := by decide +kernel
theorem dL_areAlike_407 : decode cL_areAlike 407 = .ok (.iload_n 3, 1) := by decide +kernel
theorem dL_areAlike_408 : decode cL_areAlike 408 = .ok (.ifCond .eq 112, 3) := by decide +kernel
theorem dL_areAlike_411 : decode cL_areAlike 411 = .ok (.aload_n 0, 1) := by decide +kernel
theorem dL_areAlike_412 : decode cL_areAlike 412 = .ok (.iload 4, 2) := by decide +kernel
theorem dL_areAlike_414 : decode cL_areAlike 414 = .ok (.iconst 0, 1) := by decide +kernel
theorem dL_areAlike_415 : decode cL_areAlike 415 = .ok (.invokevirtual 54, 3) := by decide +kernel
theorem dL_areAlike_418 : decode cL_areAlike 418 = .ok (.aload_n 1, 1) := by decide +kernel
theorem dL_areAlike_419 : decode cL_areAlike 419 = .ok (.iload 4, 2) := by decide +kernel
theorem dL_areAlike_421 : decode cL_areAlike 421 = .ok (.iconst 0, 1) := by decide +kernel
theorem dL_areAlike_422 : decode cL_areAlike 422 = .ok (.invokevirtual 54, 3) := by decide +kernel
theorem dL_areAlike_425 : decode cL_areAlike 425 = .ok (.if_icmp .ne 95, 3) := by decide +kernel
theorem dL_areAlike_428 : decode cL_areAlike 428 = .ok (.aload_n 0, 1) := by decide +kernel
theorem dL_areAlike_429 : decode cL_areAlike 429 = .ok (.iload 4, 2) := by decide +kernel
theorem dL_areAlike_431 : decode cL_areAlike 431 = .ok (.iconst 1, 1) := by decide +kernel
theorem dL_areAlike_432 : decode cL_areAlike 432 = .ok (.invokevirtual 54, 3) := by decide +kernel
theorem dL_areAlike_435 : decode cL_areAlike 435 = .ok (.aload_n 1, 1) := by decide +kernel
theorem dL_areAlike_436 : decode cL_areAlike 436 = .ok (.iload 4, 2) := by decide +kernel
theorem dL_areAlike_438 : decode cL_areAlike 438 = .ok (.iconst 1, 1) := by decide +kernel
theorem dL_areAlike_439 : decode cL_areAlike 439 = .ok (.invokevirtual 54, 3) := by decide +kernel
theorem dL_areAlike_442 : decode cL_areAlike 442 = .ok (.if_icmp .ne 78, 3) := by decide +kernel
theorem dL_areAlike_445 : decode cL_areAlike 445 = .ok (.aload_n 0, 1) := by decide +kernel
theorem dL_areAlike_446 : decode cL_areAlike 446 = .ok (.iload 4, 2) := by decide +kernel
theorem dL_areAlike_448 : decode cL_areAlike 448 = .ok (.iconst 2, 1) := by decide +kernel
theorem dL_areAlike_449 : decode cL_areAlike 449 = .ok (.invokevirtual 54, 3) := by decide +kernel
theorem dL_areAlike_452 : decode cL_areAlike 452 = .ok (.aload_n 1, 1) := by decide +kernel
theorem dL_areAlike_453 : decode cL_areAlike 453 = .ok (.iload 4, 2) := by decide +kernel
theorem dL_areAlike_455 : decode cL_areAlike 455 = .ok (.iconst 2, 1) := by decide +kernel
theorem dL_areAlike_456 : decode cL_areAlike 456 = .ok (.invokevirtual 54, 3) := by decide +kernel
theorem dL_areAlike_459 : decode cL_areAlike 459 = .ok (.ineg, 1) := by decide +kernel
theorem dL_areAlike_460 : decode cL_areAlike 460 = .ok (.if_icmp .ne 60, 3) := by decide +kernel
theorem dL_areAlike_463 : decode cL_areAlike 463 = .ok (.aload_n 0, 1) := by decide +kernel
theorem dL_areAlike_464 : decode cL_areAlike 464 = .ok (.iload 4, 2) := by decide +kernel
theorem dL_areAlike_466 : decode cL_areAlike 466 = .ok (.iconst 3, 1) := by decide +kernel
theorem dL_areAlike_467 : decode cL_areAlike 467 = .ok (.invokevirtual 54, 3) := by decide +kernel
theorem dL_areAlike_470 : decode cL_areAlike 470 = .ok (.aload_n 1, 1) := by decide +kernel
theorem dL_areAlike_471 : decode cL_areAlike 471 = .ok (.iload 4, 2) := by decide +kernel
theorem dL_areAlike_473 : decode cL_areAlike 473 = .ok (.iconst 3, 1) := by decide +kernel
theorem dL_areAlike_474 : decode cL_areAlike 474 = .ok (.invokevirtual 54, 3) := by decide +kernel
theorem dL_areAlike_477 : decode cL_areAlike 477 = .ok (.ineg, 1) := by decide +kernel
theorem dL_areAlike_478 : decode cL_areAlike 478 = .ok (.if_icmp .ne 42, 3) := by decide +kernel
theorem dL_areAlike_481 : decode cL_areAlike 481 = .ok (.aload_n 0, 1) := by decide +kernel
theorem dL_areAlike_482 : decode cL_areAlike 482 = .ok (.iload 4, 2) := by decide +kernel
theorem dL_areAlike_484 : decode cL_areAlike 484 = .ok (.iconst 4, 1) := by decide +kernel
theorem dL_areAlike_485 : decode cL_areAlike 485 = .ok (.invokevirtual 54, 3) := by decide +kernel
theorem dL_areAlike_488 : decode cL_areAlike 488 = .ok (.aload_n 1, 1) := by decide +kernel
theorem dL_areAlike_489 : decode cL_areAlike 489 = .ok (.iload 4, 2) := by decide +kernel
theorem dL_areAlike_491 : decode cL_areAlike 491 = .ok (.iconst 4, 1) := by decide +kernel
theorem dL_areAlike_492 : decode cL_areAlike 492 = .ok (.invokevirtual 54, 3) := by decide +kernel
theorem dL_areAlike_495 : decode cL_areAlike 495 = .ok (.if_icmp .ne 25, 3) := by decide +kernel
theorem dL_areAlike_498 : decode cL_areAlike 498 = .ok (.aload_n 0, 1) := by decide +kernel
theorem dL_areAlike_499 : decode cL_areAlike 499 = .ok (.iload 4, 2) := by decide +kernel
theorem dL_areAlike_501 : decode cL_areAlike 501 = .ok (.iconst 5, 1) := by decide +kernel
theorem dL_areAlike_502 : decode cL_areAlike 502 = .ok (.invokevirtual 54, 3) := by decide +kernel
theorem dL_areAlike_505 : decode cL_areAlike 505 = .ok (.aload_n 1, 1) := by decide +kernel
theorem dL_areAlike_506 : decode cL_areAlike 506 = .ok (.iload 4, 2) := by decide +kernel
theorem dL_areAlike_508 : decode cL_areAlike 508 = .ok (.iconst 5, 1) := by decide +kernel
theorem dL_areAlike_509 : decode cL_areAlike 509 = .ok (.invokevirtual 54, 3) := by decide +kernel
theorem dL_areAlike_512 : decode cL_areAlike 512 = .ok (.ineg, 1) := by decide +kernel
theorem dL_areAlike_513 : decode cL_areAlike 513 = .ok (.if_icmp .ne 7, 3) := by decide +kernel
theorem dL_areAlike_516 : decode cL_areAlike 516 = .ok (.iconst 1, 1) := by decide +kernel
theorem dL_areAlike_517 : decode cL_areAlike 517 = .ok (.goto 4, 3) := by decide +kernel
theorem dL_areAlike_520 : decode cL_areAlike 520 = .ok (.iconst 0, 1) := by decide +kernel
theorem dL_areAlike_521 : decode cL_areAlike 521 = .ok (.ireturn, 1) := by decide +kernel
theorem dL_isWell_0 : decode cL_isWell 0 = .ok (.aload_n 0, 1) := by decide +kernel
theorem dL_isWell_1 : decode cL_isWell 1 = .ok (.iconst 0, 1) := by decide +kernel
theorem dL_isWell_2 : decode cL_isWell 2 = .ok (.iconst 0, 1) := by decide +kernel
theorem dL_isWell_3 : decode cL_isWell 3 = .ok (.invokevirtual 40, 3) := by decide +kernel
theorem dL_isWell_6 : decode cL_isWell 6 = .ok (.aload_n 0, 1) := by decide +kernel
theorem dL_isWell_7 : decode cL_isWell 7 = .ok (.iconst 1, 1) := by decide +kernel
theorem dL_isWell_8 : decode cL_isWell 8 = .ok (.iconst 0, 1) := by decide +kernel
theorem dL_isWell_9 : decode cL_isWell 9 = .ok (.invokevirtual 40, 3) := by decide +kernel
theorem dL_isWell_12 : decode cL_isWell 12 = .ok (.if_icmp .le 7, 3) := by decide +kernel
theorem dL_isWell_15 : decode cL_isWell 15 = .ok (.iconst 1, 1) := by decide +kernel
theorem dL_isWell_16 : decode cL_isWell 16 = .ok (.goto 23, 3) := by decide +kernel
theorem dL_isWell_19 : decode cL_isWell 19 = .ok (.aload_n 0, 1) := by decide +kernel
theorem dL_isWell_20 : decode cL_isWell 20 = .ok (.iconst 0, 1) := by decide +kernel
theorem dL_isWell_21 : decode cL_isWell 21 = .ok (.iconst 0, 1) := by decide +kernel
theorem dL_isWell_22 : decode cL_isWell 22 = .ok (.invokevirtual 40, 3) := by decide +kernel
theorem dL_isWell_25 : decode cL_isWell 25 = .ok (.aload_n 0, 1) := by decide +kernel
theorem dL_isWell_26 : decode cL_isWell 26 = .ok (.iconst 1, 1) := by decide +kernel
theorem dL_isWell_27 : decode cL_isWell 27 = .ok (.iconst 0, 1) := by decide +kernel
theorem dL_isWell_28 : decode cL_isWell 28 = .ok (.invokevirtual 40, 3) := by decide +kernel
theorem dL_isWell_31 : decode cL_isWell 31 = .ok (.if_icmp .ge 7, 3) := by decide +kernel
theorem dL_isWell_34 : decode cL_isWell 34 = .ok (.iconst (-1), 1) := by decide +kernel
theorem dL_isWell_35 : decode cL_isWell 35 = .ok (.goto 4, 3) := by decide +kernel
theorem dL_isWell_38 : decode cL_isWell 38 = .ok (.iconst 0, 1) := by decide +kernel
theorem dL_isWell_39 : decode cL_isWell 39 = .ok (.istore_n 1, 1) := by decide +kernel
theorem dL_isWell_40 : decode cL_isWell 40 = .ok (.aload_n 0, 1) := by decide +kernel
theorem dL_isWell_41 : decode cL_isWell 41 = .ok (.bipush 9, 2) := by decide +kernel
theorem dL_isWell_43 : decode cL_isWell 43 = .ok (.invokevirtual 46, 3) := by decide +kernel
theorem dL_isWell_46 : decode cL_isWell 46 = .ok (.aload_n 0, 1) := by decide +kernel
theorem dL_isWell_47 : decode cL_isWell 47 = .ok (.bipush 11, 2) := by decide +kernel
theorem dL_isWell_49 : decode cL_isWell 49 = .ok (.invokevirtual 46, 3) := by decide +kernel
theorem dL_isWell_52 : decode cL_isWell 52 = .ok (.aload_n 0, 1) := by decide +kernel
theorem dL_isWell_53 : decode cL_isWell 53 = .ok (.bipush 12, 2) := by decide +kernel
theorem dL_isWell_55 : decode cL_isWell 55 = .ok (.invokevirtual 46, 3) := by decide +kernel
theorem dL_isWell_58 : decode cL_isWell 58 = .ok (.isub, 1) := by decide +kernel
theorem dL_isWell_59 : decode cL_isWell 59 = .ok (.aload_n 0, 1) := by decide +kernel
theorem dL_isWell_60 : decode cL_isWell 60 = .ok (.bipush 10, 2) := by decide +kernel
theorem dL_isWell_62 : decode cL_isWell 62 = .ok (.invokevirtual 46, 3) := by decide +kernel
theorem dL_isWell_65 : decode cL_isWell 65 = .ok (.isub, 1) := by decide +kernel
theorem dL_isWell_66 : decode cL_isWell 66 = .ok (.if_icmp .ne 53, 3) := by decide +kernel
theorem dL_isWell_69 : decode cL_isWell 69 = .ok (.aload_n 0, 1) := by decide +kernel
theorem dL_isWell_70 : decode cL_isWell 70 = .ok (.bipush 9, 2) := by decide +kernel
theorem dL_isWell_72 : decode cL_isWell 72 = .ok (.invokevirtual 46, 3) := by decide +kernel
theorem dL_isWell_75 : decode cL_isWell 75 = .ok (.aload_n 0, 1) := by decide +kernel
theorem dL_isWell_76 : decode cL_isWell 76 = .ok (.iconst 0, 1) := by decide +kernel
theorem dL_isWell_77 : decode cL_isWell 77 = .ok (.iconst 0, 1) := by decide +kernel
theorem dL_isWell_78 : decode cL_isWell 78 = .ok (.invokevirtual 74, 3) := by decide +kernel
theorem dL_isWell_81 : decode cL_isWell 81 = .ok (.aload_n 0, 1) := by decide +kernel
theorem dL_isWell_82 : decode cL_isWell 82 = .ok (.iconst 1, 1) := by decide +kernel
theorem dL_isWell_83 : decode cL_isWell 83 = .ok (.iconst 0, 1) := by decide +kernel
theorem dL_isWell_84 : decode cL_isWell 84 = .ok (.invokevirtual 74, 3) := by decide +kernel
theorem dL_isWell_87 : decode cL_isWell 87 = .ok (.iadd, 1) := by decide +kernel
theorem dL_isWell_88 : decode cL_isWell 88 = .ok (.aload_n 0, 1) := by decide +kernel
theorem dL_isWell_89 : decode cL_isWell 89 = .ok (.iconst 0, 1) := by decide +kernel
theorem dL_isWell_90 : decode cL_isWell 90 = .ok (.iconst 0, 1) := by decide +kernel
theorem dL_isWell_91 : decode cL_isWell 91 = .ok (.invokevirtual 40, 3) := by decide +kernel
theorem dL_isWell_94 : decode cL_isWell 94 = .ok (.iadd, 1) := by decide +kernel
theorem dL_isWell_95 : decode cL_isWell 95 = .ok (.aload_n 0, 1) := by decide +kernel
theorem dL_isWell_96 : decode cL_isWell 96 = .ok (.iconst 1, 1) := by decide +kernel
theorem dL_isWell_97 : decode cL_isWell 97 = .ok (.iconst 0, 1) := by decide +kernel
theorem dL_isWell_98 : decode cL_isWell 98 = .ok (.invokevirtual 40, 3) := by decide +kernel
theorem dL_isWell_101 : decode cL_isWell 101 = .ok (.iadd, 1) := by decide +kernel
theorem dL_isWell_102 : decode cL_isWell 102 = .ok (.if_icmp .ne 17, 3) := by decide +kernel
theorem dL_isWell_105 : decode cL_isWell 105 = .ok (.iload_n 1, 1) := by decide +kernel
theorem dL_isWell_106 : decode cL_isWell 106 = .ok (.aload_n 0, 1) := by decide +kernel
theorem dL_isWell_107 : decode cL_isWell 107 = .ok (.bipush 8, 2) := by decide +kernel
theorem dL_isWell_109 : decode cL_isWell 109 = .ok (.invokevirtual 46, 3) := by decide +kernel
theorem dL_isWell_112 : decode cL_isWell 112 = .ok (.if_icmp .ne 7, 3) := by decide +kernel
theorem dL_isWell_115 : decode cL_isWell 115 = .ok (.iconst 1, 1) := by decide +kernel
theorem dL_isWell_116 : decode cL_isWell 116 = .ok (.goto 4, 3) := by decide +kernel
theorem dL_isWell_119 : decode cL_isWell 119 = .ok (.iconst 0, 1) := by decide +kernel
theorem dL_isWell_120 : decode cL_isWell 120 = .ok (.istore_n 2, 1) := by decide +kernel
theorem dL_isWell_121 : decode cL_isWell 121 = .ok (.iconst 0, 1) := by decide +kernel
theorem dL_isWell_122 : decode cL_isWell 122 = .ok (.istore_n 3, 1) := by decide +kernel
theorem dL_isWell_123 : decode cL_isWell 123 = .ok (.iload_n 3, 1) := by decide +kernel
theorem dL_isWell_124 : decode cL_isWell 124 = .ok (.iconst 2, 1) := by decide +kernel
theorem dL_isWell_125 : decode cL_isWell 125 = .ok (.if_icmp .ge 88, 3) := by decide +kernel
theorem dL_isWell_128 : decode cL_isWell 128 = .ok (.iload_n 2, 1) := by decide +kernel
theorem dL_isWell_129 : decode cL_isWell 129 = .ok (.ifCond .eq 76, 3) := by decide +kernel
theorem dL_isWell_132 : decode cL_isWell 132 = .ok (.aload_n 0, 1) := by decide +kernel
theorem dL_isWell_133 : decode cL_isWell 133 = .ok (.iload_n 3, 1) := by decide +kernel
theorem dL_isWell_134 : decode cL_isWell 134 = .ok (.iconst 0, 1) := by decide +kernel
theorem dL_isWell_135 : decode cL_isWell 135 = .ok (.invokevirtual 40, 3) := by decide +kernel
theorem dL_isWell_138 : decode cL_isWell 138 = .ok (.aload_n 0, 1) := by decide +kernel
theorem dL_isWell_139 : decode cL_isWell 139 = .ok (.iconst 4, 1) := by decide +kernel
theorem dL_isWell_140 : decode cL_isWell 140 = .ok (.invokevirtual 46, 3) := by decide +kernel
theorem dL_isWell_143 : decode cL_isWell 143 = .ok (.if_icmp .gt 62, 3) := by decide +kernel
theorem dL_isWell_146 : decode cL_isWell 146 = .ok (.aload_n 0, 1) := by decide +kernel
theorem dL_isWell_147 : decode cL_isWell 147 = .ok (.iload_n 3, 1) := by decide +kernel
theorem dL_isWell_148 : decode cL_isWell 148 = .ok (.iconst 0, 1) := by decide +kernel
theorem dL_isWell_149 : decode cL_isWell 149 = .ok (.invokevirtual 40, 3) := by decide +kernel
theorem dL_isWell_152 : decode cL_isWell 152 = .ok (.aload_n 0, 1) := by decide +kernel
theorem dL_isWell_153 : decode cL_isWell 153 = .ok (.iconst 4, 1) := by decide +kernel
theorem dL_isWell_154 : decode cL_isWell 154 = .ok (.invokevirtual 46, 3) := by decide +kernel
theorem dL_isWell_157 : decode cL_isWell 157 = .ok (.ineg, 1) := by decide +kernel
theorem dL_isWell_158 : decode cL_isWell 158 = .ok (.if_icmp .lt 47, 3) := by decide +kernel
theorem dL_isWell_161 : decode cL_isWell 161 = .ok (.aload_n 0, 1) := by decide +kernel
theorem dL_isWell_162 : decode cL_isWell 162 = .ok (.iload_n 3, 1) := by decide +kernel
theorem dL_isWell_163 : decode cL_isWell 163 = .ok (.iconst 3, 1) := by decide +kernel
theorem dL_isWell_164 : decode cL_isWell 164 = .ok (.invokevirtual 74, 3) := by decide +kernel
theorem dL_isWell_167 : decode cL_isWell 167 = .ok (.bipush 99, 2) := by decide +kernel
theorem dL_isWell_169 : decode cL_isWell 169 = .ok (.if_icmp .gt 36, 3) := by decide +kernel
theorem dL_isWell_172 : decode cL_isWell 172 = .ok (.aload_n 0, 1) := by decide +kernel
theorem dL_isWell_173 : decode cL_isWell 173 = .ok (.iload_n 3, 1) := by decide +kernel
theorem dL_isWell_174 : decode cL_isWell 174 = .ok (.iconst 4, 1) := by decide +kernel
theorem dL_isWell_175 : decode cL_isWell 175 = .ok (.invokevirtual 74, 3) := by decide +kernel
theorem dL_isWell_178 : decode cL_isWell 178 = .ok (.bipush (-99), 2) := by decide +kernel
theorem dL_isWell_180 : decode cL_isWell 180 = .ok (.if_icmp .lt 25, 3) := by decide +kernel
theorem dL_isWell_183 : decode cL_isWell 183 = .ok (.aload_n 0, 1) := by decide +kernel
theorem dL_isWell_184 : decode cL_isWell 184 = .ok (.iload_n 3, 1) := by decide +kernel
theorem dL_isWell_185 : decode cL_isWell 185 = .ok (.iconst 1, 1) := by decide +kernel
theorem dL_isWell_186 : decode cL_isWell 186 = .ok (.invokevirtual 74, 3) := by decide +kernel
theorem dL_isWell_189 : decode cL_isWell 189 = .ok (.aload_n 0, 1) := by decide +kernel
theorem dL_isWell_190 : decode cL_isWell 190 = .ok (.iload_n 3, 1) := by decide +kernel
theorem dL_isWell_191 : decode cL_isWell 191 = .ok (.iconst 2, 1) := by decide +kernel
theorem dL_isWell_192 : decode cL_isWell 192 = .ok (.invokevirtual 74, 3) := by decide +kernel
theorem dL_isWell_195 : decode cL_isWell 195 = .ok (.iadd, 1) := by decide +kernel
theorem dL_isWell_196 : decode cL_isWell 196 = .ok (.bipush 12, 2) := by decide +kernel
theorem dL_isWell_198 : decode cL_isWell 198 = .ok (.if_icmp .gt 7, 3) := by decide +kernel
theorem dL_isWell_201 : decode cL_isWell 201 = .ok (.iconst 1, 1) := by decide +kernel
theorem dL_isWell_202 : decode cL_isWell 202 = .ok (.goto 4, 3) := by decide +kernel
theorem dL_isWell_205 : decode cL_isWell 205 = .ok (.iconst 0, 1) := by decide +kernel
theorem dL_isWell_206 : decode cL_isWell 206 = .ok (.istore_n 2, 1) := by decide +kernel
theorem dL_isWell_207 : decode cL_isWell 207 = .ok (.iinc 3 1, 3) := by decide +kernel
theorem dL_isWell_210 : decode cL_isWell 210 = .ok (.goto (-87), 3) := by decide +kernel
theorem dL_isWell_213 : decode cL_isWell 213 = .ok (.iconst 0, 1) := by decide +kernel
theorem dL_isWell_214 : decode cL_isWell 214 = .ok (.istore_n 3, 1) := by decide +kernel
theorem dL_isWell_215 : decode cL_isWell 215 = .ok (.iload_n 3, 1) := by decide +kernel
theorem dL_isWell_216 : decode cL_isWell 216 = .ok (.bipush 8, 2) := by decide +kernel
theorem dL_isWell_218 : decode cL_isWell 218 = .ok (.if_icmp .ge 96, 3) := by decide +kernel
theorem dL_isWell_221 : decode cL_isWell 221 = .ok (.aload_n 0, 1) := by decide +kernel
theorem dL_isWell_222 : decode cL_isWell 222 = .ok (.iload_n 3, 1) := by decide +kernel
theorem dL_isWell_223 : decode cL_isWell 223 = .ok (.iconst 0, 1) := by decide +kernel
theorem dL_isWell_224 : decode cL_isWell 224 = .ok (.invokevirtual 103, 3) := by decide +kernel
theorem dL_isWell_227 : decode cL_isWell 227 = .ok (.istore 4, 2) := by decide +kernel
theorem dL_isWell_229 : decode cL_isWell 229 = .ok (.iload_n 2, 1) := by decide +kernel
theorem dL_isWell_230 : decode cL_isWell 230 = .ok (.ifCond .eq 76, 3) := by decide +kernel
theorem dL_isWell_233 : decode cL_isWell 233 = .ok (.iload 4, 2) := by decide +kernel
theorem dL_isWell_235 : decode cL_isWell 235 = .ok (.ldc 106, 2) := by decide +kernel
theorem dL_isWell_237 : decode cL_isWell 237 = .ok (.if_icmp .eq 7, 3) := by decide +kernel
theorem dL_isWell_240 : decode cL_isWell 240 = .ok (.iconst 1, 1) := by decide +kernel
theorem dL_isWell_241 : decode cL_isWell 241 = .ok (.goto 4, 3) := by decide +kernel
theorem dL_isWell_244 : decode cL_isWell 244 = .ok (.iconst 0, 1) := by decide +kernel
theorem dL_isWell_245 : decode cL_isWell 245 = .ok (.iload_n 3, 1) := by decide +kernel
theorem dL_isWell_246 : decode cL_isWell 246 = .ok (.aload_n 0, 1) := by decide +kernel
theorem dL_isWell_247 : decode cL_isWell 247 = .ok (.bipush 6, 2) := by decide +kernel
theorem dL_isWell_249 : decode cL_isWell 249 = .ok (.invokevirtual 46, 3) := by decide +kernel
theorem dL_isWell_252 : decode cL_isWell 252 = .ok (.if_icmp .ge 7, 3) := by decide +kernel
theorem dL_isWell_255 : decode cL_isWell 255 = .ok (.iconst 1, 1) := by decide +kernel
theorem dL_isWell_256 : decode cL_isWell 256 = .ok (.goto 4, 3) := by decide +kernel
theorem dL_isWell_259 : decode cL_isWell 259 = .ok (.iconst 0, 1) := by decide +kernel
theorem dL_isWell_260 : decode cL_isWell 260 = .ok (.if_icmp .ne 46, 3) := by decide +kernel
theorem dL_isWell_263 : decode cL_isWell 263 = .ok (.iload 4, 2) := by decide +kernel
theorem dL_isWell_265 : decode cL_isWell 265 = .ok (.ldc 106, 2) := by decide +kernel
theorem dL_isWell_267 : decode cL_isWell 267 = .ok (.if_icmp .eq 35, 3) := by decide +kernel
theorem dL_isWell_270 : decode cL_isWell 270 = .ok (.iload 4, 2) := by decide +kernel
theorem dL_isWell_272 : decode cL_isWell 272 = .ok (.ifCond .le 34, 3) := by decide +kernel
theorem dL_isWell_275 : decode cL_isWell 275 = .ok (.iload 4, 2) := by decide +kernel
theorem dL_isWell_277 : decode cL_isWell 277 = .ok (.aload_n 0, 1) := by decide +kernel
theorem dL_isWell_278 : decode cL_isWell 278 = .ok (.iconst 5, 1) := by decide +kernel
theorem dL_isWell_279 : decode cL_isWell 279 = .ok (.invokevirtual 46, 3) := by decide +kernel
theorem dL_isWell_282 : decode cL_isWell 282 = .ok (.if_icmp .gt 24, 3) := by decide +kernel
theorem dL_isWell_285 : decode cL_isWell 285 = .ok (.iload_n 3, 1) := by decide +kernel
theorem dL_isWell_286 : decode cL_isWell 286 = .ok (.ifCond .eq 16, 3) := by decide +kernel
theorem dL_isWell_289 : decode cL_isWell 289 = .ok (.iload 4, 2) := by decide +kernel
theorem dL_isWell_291 : decode cL_isWell 291 = .ok (.aload_n 0, 1) := by decide +kernel
theorem dL_isWell_292 : decode cL_isWell 292 = .ok (.iload_n 3, 1) := by decide +kernel
theorem dL_isWell_293 : decode cL_isWell 293 = .ok (.iconst 1, 1) := by decide +kernel
theorem dL_isWell_294 : decode cL_isWell 294 = .ok (.isub, 1) := by decide +kernel
theorem dL_isWell_295 : decode cL_isWell 295 = .ok (.iconst 0, 1) := by decide +kernel
theorem dL_isWell_296 : decode cL_isWell 296 = .ok (.invokevirtual 103, 3) := by decide +kernel
theorem dL_isWell_299 : decode cL_isWell 299 = .ok (.if_icmp .ge 7, 3) := by decide +kernel
theorem dL_isWell_302 : decode cL_isWell 302 = .ok (.iconst 1, 1) := by decide +kernel
theorem dL_isWell_303 : decode cL_isWell 303 = .ok (.goto 4, 3) := by decide +kernel
theorem dL_isWell_306 : decode cL_isWell 306 = .ok (.iconst 0, 1) := by decide +kernel
theorem dL_isWell_307 : decode cL_isWell 307 = .ok (.istore_n 2, 1) := by decide +kernel
theorem dL_isWell_308 : decode cL_isWell 308 = .ok (.iinc 3 1, 3) := by decide +kernel
theorem dL_isWell_311 : decode cL_isWell 311 = .ok (.goto (-96), 3) := by decide +kernel
theorem dL_isWell_314 : decode cL_isWell 314 = .ok (.iload_n 2, 1) := by decide +kernel
theorem dL_isWell_315 : decode cL_isWell 315 = .ok (.ifCond .eq 19, 3) := by decide +kernel
theorem dL_isWell_318 : decode cL_isWell 318 = .ok (.aload_n 0, 1) := by decide +kernel
theorem dL_isWell_319 : decode cL_isWell 319 = .ok (.bipush 8, 2) := by decide +kernel
theorem dL_isWell_321 : decode cL_isWell 321 = .ok (.iconst 0, 1) := by decide +kernel
theorem dL_isWell_322 : decode cL_isWell 322 = .ok (.invokevirtual 103, 3) := by decide +kernel
theorem dL_isWell_325 : decode cL_isWell 325 = .ok (.ldc 106, 2) := by decide +kernel
theorem dL_isWell_327 : decode cL_isWell 327 = .ok (.if_icmp .ne 7, 3) := by decide +kernel
theorem dL_isWell_330 : decode cL_isWell 330 = .ok (.iconst 1, 1) := by decide +kernel
theorem dL_isWell_331 : decode cL_isWell 331 = .ok (.goto 4, 3) := by decide +kernel
theorem dL_isWell_334 : decode cL_isWell 334 = .ok (.iconst 0, 1) := by decide +kernel
theorem dL_isWell_335 : decode cL_isWell 335 = .ok (.ireturn, 1) := by decide +kernel
theorem dL_law_0 : decode cL_law 0 = .ok (.new 10, 3) := by decide +kernel
theorem dL_law_3 : decode cL_law 3 = .ok (.dup, 1) := by decide +kernel
theorem dL_law_4 : decode cL_law 4 = .ok (.invokespecial 107, 3) := by decide +kernel
theorem dL_law_7 : decode cL_law 7 = .ok (.astore_n 1, 1) := by decide +kernel
theorem dL_law_8 : decode cL_law 8 = .ok (.new 10, 3) := by decide +kernel
theorem dL_law_11 : decode cL_law 11 = .ok (.dup, 1) := by decide +kernel
theorem dL_law_12 : decode cL_law 12 = .ok (.invokespecial 107, 3) := by decide +kernel
theorem dL_law_15 : decode cL_law 15 = .ok (.astore_n 2, 1) := by decide +kernel
theorem dL_law_16 : decode cL_law 16 = .ok (.iconst 1, 1) := by decide +kernel
theorem dL_law_17 : decode cL_law 17 = .ok (.istore_n 3, 1) := by decide +kernel
theorem dL_law_18 : decode cL_law 18 = .ok (.iconst 0, 1) := by decide +kernel
theorem dL_law_19 : decode cL_law 19 = .ok (.istore 4, 2) := by decide +kernel
theorem dL_law_21 : decode cL_law 21 = .ok (.iload 4, 2) := by decide +kernel
theorem dL_law_23 : decode cL_law 23 = .ok (.bipush 48, 2) := by decide +kernel
theorem dL_law_25 : decode cL_law 25 = .ok (.if_icmp .ge 50, 3) := by decide +kernel
theorem dL_law_28 : decode cL_law 28 = .ok (.iload_n 3, 1) := by decide +kernel
theorem dL_law_29 : decode cL_law 29 = .ok (.ifCond .eq 46, 3) := by decide +kernel
theorem dL_law_32 : decode cL_law 32 = .ok (.aload_n 1, 1) := by decide +kernel
theorem dL_law_33 : decode cL_law 33 = .ok (.aload_n 2, 1) := by decide +kernel
theorem dL_law_34 : decode cL_law 34 = .ok (.aload_n 0, 1) := by decide +kernel
theorem dL_law_35 : decode cL_law 35 = .ok (.iload 4, 2) := by decide +kernel
theorem dL_law_37 : decode cL_law 37 = .ok (.invokestatic 108, 3) := by decide +kernel
theorem dL_law_40 : decode cL_law 40 = .ok (.aload_n 0, 1) := by decide +kernel
theorem dL_law_41 : decode cL_law 41 = .ok (.iload 4, 2) := by decide +kernel
theorem dL_law_43 : decode cL_law 43 = .ok (.iconst 1, 1) := by decide +kernel
theorem dL_law_44 : decode cL_law 44 = .ok (.iadd, 1) := by decide +kernel
theorem dL_law_45 : decode cL_law 45 = .ok (.invokestatic 108, 3) := by decide +kernel
theorem dL_law_48 : decode cL_law 48 = .ok (.iconst 2, 1) := by decide +kernel
theorem dL_law_49 : decode cL_law 49 = .ok (.ishr, 1) := by decide +kernel
theorem dL_law_50 : decode cL_law 50 = .ok (.invokestatic 112, 3) := by decide +kernel
theorem dL_law_53 : decode cL_law 53 = .ok (.ifCond .eq 14, 3) := by decide +kernel
theorem dL_law_56 : decode cL_law 56 = .ok (.aload_n 1, 1) := by decide +kernel
theorem dL_law_57 : decode cL_law 57 = .ok (.invokestatic 116, 3) := by decide +kernel
theorem dL_law_60 : decode cL_law 60 = .ok (.ifCond .eq 7, 3) := by decide +kernel
theorem dL_law_63 : decode cL_law 63 = .ok (.iconst 1, 1) := by decide +kernel
theorem dL_law_64 : decode cL_law 64 = .ok (.goto 4, 3) := by decide +kernel
theorem dL_law_67 : decode cL_law 67 = .ok (.iconst 0, 1) := by decide +kernel
theorem dL_law_68 : decode cL_law 68 = .ok (.istore_n 3, 1) := by decide +kernel
theorem dL_law_69 : decode cL_law 69 = .ok (.iinc 4 1, 3) := by decide +kernel
theorem dL_law_72 : decode cL_law 72 = .ok (.goto (-51), 3) := by decide +kernel
theorem dL_law_75 : decode cL_law 75 = .ok (.iload_n 3, 1) := by decide +kernel
theorem dL_law_76 : decode cL_law 76 = .ok (.ifCond .eq 21, 3) := by decide +kernel
theorem dL_law_79 : decode cL_law 79 = .ok (.aload_n 1, 1) := by decide +kernel
theorem dL_law_80 : decode cL_law 80 = .ok (.aload_n 2, 1) := by decide +kernel
theorem dL_law_81 : decode cL_law 81 = .ok (.aload_n 0, 1) := by decide +kernel
theorem dL_law_82 : decode cL_law 82 = .ok (.bipush 48, 2) := by decide +kernel
theorem dL_law_84 : decode cL_law 84 = .ok (.invokestatic 108, 3) := by decide +kernel
theorem dL_law_87 : decode cL_law 87 = .ok (.invokestatic 119, 3) := by decide +kernel
theorem dL_law_90 : decode cL_law 90 = .ok (.ifCond .eq 7, 3) := by decide +kernel
theorem dL_law_93 : decode cL_law 93 = .ok (.iconst 1, 1) := by decide +kernel
theorem dL_law_94 : decode cL_law 94 = .ok (.goto 4, 3) := by decide +kernel
theorem dL_law_97 : decode cL_law 97 = .ok (.iconst 0, 1) := by decide +kernel
theorem dL_law_98 : decode cL_law 98 = .ok (.ireturn, 1) := by decide +kernel
