theorem dX0_init_0 : decode cX0_init 0 = .ok (.aload_n 0, 1) := by decide +kernel
theorem dX0_init_1 : decode cX0_init 1 = .ok (.invokespecial 3, 3) := by decide +kernel
theorem dX0_init_4 : decode cX0_init 4 = .ok (.aload_n 0, 1) := by decide +kernel
theorem dX0_init_5 : decode cX0_init 5 = .ok (.new 9, 3) := by decide +kernel
theorem dX0_init_8 : decode cX0_init 8 = .ok (.dup, 1) := by decide +kernel
theorem dX0_init_9 : decode cX0_init 9 = .ok (.invokespecial 11, 3) := by decide +kernel
theorem dX0_init_12 : decode cX0_init 12 = .ok (.putfield 12, 3) := by decide +kernel
theorem dX0_init_15 : decode cX0_init 15 = .ok (.return_, 1) := by decide +kernel
theorem dX0_start_0 : decode cX0_start 0 = .ok (.aload_n 0, 1) := by decide +kernel
theorem dX0_start_1 : decode cX0_start 1 = .ok (.iconst 0, 1) := by decide +kernel
theorem dX0_start_2 : decode cX0_start 2 = .ok (.putfield 18, 3) := by decide +kernel
theorem dX0_start_5 : decode cX0_start 5 = .ok (.return_, 1) := by decide +kernel
theorem dX0_findFault_0 : decode cX0_findFault 0 = .ok (.aload_n 0, 1) := by decide +kernel
theorem dX0_findFault_1 : decode cX0_findFault 1 = .ok (.invokevirtual 22, 3) := by decide +kernel
theorem dX0_findFault_4 : decode cX0_findFault 4 = .ok (.iconst 0, 1) := by decide +kernel
theorem dX0_findFault_5 : decode cX0_findFault 5 = .ok (.istore_n 1, 1) := by decide +kernel
theorem dX0_findFault_6 : decode cX0_findFault 6 = .ok (.iload_n 1, 1) := by decide +kernel
theorem dX0_findFault_7 : decode cX0_findFault 7 = .ok (.bipush 60, 2) := by decide +kernel
theorem dX0_findFault_9 : decode cX0_findFault 9 = .ok (.if_icmp .gt 33, 3) := by decide +kernel
theorem dX0_findFault_12 : decode cX0_findFault 12 = .ok (.aload_n 0, 1) := by decide +kernel
theorem dX0_findFault_13 : decode cX0_findFault 13 = .ok (.invokevirtual 25, 3) := by decide +kernel
theorem dX0_findFault_16 : decode cX0_findFault 16 = .ok (.ifCond .ne 8, 3) := by decide +kernel
theorem dX0_findFault_19 : decode cX0_findFault 19 = .ok (.aload_n 0, 1) := by decide +kernel
theorem dX0_findFault_20 : decode cX0_findFault 20 = .ok (.getfield 18, 3) := by decide +kernel
theorem dX0_findFault_23 : decode cX0_findFault 23 = .ok (.ireturn, 1) := by decide +kernel
theorem dX0_findFault_24 : decode cX0_findFault 24 = .ok (.aload_n 0, 1) := by decide +kernel
theorem dX0_findFault_25 : decode cX0_findFault 25 = .ok (.bipush 59, 2) := by decide +kernel
theorem dX0_findFault_27 : decode cX0_findFault 27 = .ok (.invokevirtual 29, 3) := by decide +kernel
theorem dX0_findFault_30 : decode cX0_findFault 30 = .ok (.ifCond .ne 6, 3) := by decide +kernel
theorem dX0_findFault_33 : decode cX0_findFault 33 = .ok (.goto 9, 3) := by decide +kernel
theorem dX0_findFault_36 : decode cX0_findFault 36 = .ok (.iinc 1 1, 3) := by decide +kernel
theorem dX0_findFault_39 : decode cX0_findFault 39 = .ok (.goto (-33), 3) := by decide +kernel
theorem dX0_findFault_42 : decode cX0_findFault 42 = .ok (.aload_n 0, 1) := by decide +kernel
theorem dX0_findFault_43 : decode cX0_findFault 43 = .ok (.getfield 18, 3) := by decide +kernel
theorem dX0_findFault_46 : decode cX0_findFault 46 = .ok (.aload_n 0, 1) := by decide +kernel
theorem dX0_findFault_47 : decode cX0_findFault 47 = .ok (.getfield 12, 3) := by decide +kernel
theorem dX0_findFault_50 : decode cX0_findFault 50 = .ok (.getfield 33, 3) := by decide +kernel
theorem dX0_findFault_53 : decode cX0_findFault 53 = .ok (.if_icmp .ne 8, 3) := by decide +kernel
theorem dX0_findFault_56 : decode cX0_findFault 56 = .ok (.ldc 36, 2) := by decide +kernel
theorem dX0_findFault_58 : decode cX0_findFault 58 = .ok (.goto 7, 3) := by decide +kernel
theorem dX0_findFault_61 : decode cX0_findFault 61 = .ok (.aload_n 0, 1) := by decide +kernel
theorem dX0_findFault_62 : decode cX0_findFault 62 = .ok (.getfield 18, 3) := by decide +kernel
theorem dX0_findFault_65 : decode cX0_findFault 65 = .ok (.ireturn, 1) := by decide +kernel
theorem dX0_readSign_0 : decode cX0_readSign 0 = .ok (.aload_n 0, 1) := by decide +kernel
theorem dX0_readSign_1 : decode cX0_readSign 1 = .ok (.getfield 12, 3) := by decide +kernel
theorem dX0_readSign_4 : decode cX0_readSign 4 = .ok (.aload_n 0, 1) := by decide +kernel
theorem dX0_readSign_5 : decode cX0_readSign 5 = .ok (.getfield 18, 3) := by decide +kernel
theorem dX0_readSign_8 : decode cX0_readSign 8 = .ok (.invokevirtual 37, 3) := by decide +kernel
theorem dX0_readSign_11 : decode cX0_readSign 11 = .ok (.iload_n 1, 1) := by decide +kernel
theorem dX0_readSign_12 : decode cX0_readSign 12 = .ok (.if_icmp .eq 5, 3) := by decide +kernel
theorem dX0_readSign_15 : decode cX0_readSign 15 = .ok (.iconst 0, 1) := by decide +kernel
theorem dX0_readSign_16 : decode cX0_readSign 16 = .ok (.ireturn, 1) := by decide +kernel
theorem dX0_readSign_17 : decode cX0_readSign 17 = .ok (.aload_n 0, 1) := by decide +kernel
theorem dX0_readSign_18 : decode cX0_readSign 18 = .ok (.dup, 1) := by decide +kernel
theorem dX0_readSign_19 : decode cX0_readSign 19 = .ok (.getfield 18, 3) := by decide +kernel
theorem dX0_readSign_22 : decode cX0_readSign 22 = .ok (.iconst 1, 1) := by decide +kernel
theorem dX0_readSign_23 : decode cX0_readSign 23 = .ok (.iadd, 1) := by decide +kernel
theorem dX0_readSign_24 : decode cX0_readSign 24 = .ok (.putfield 18, 3) := by decide +kernel
theorem dX0_readSign_27 : decode cX0_readSign 27 = .ok (.iconst 1, 1) := by decide +kernel
theorem dX0_readSign_28 : decode cX0_readSign 28 = .ok (.ireturn, 1) := by decide +kernel
theorem dX0_readDeed_0 : decode cX0_readDeed 0 = .ok (.aload_n 0, 1) := by decide +kernel
theorem dX0_readDeed_1 : decode cX0_readDeed 1 = .ok (.bipush 120, 2) := by decide +kernel
theorem dX0_readDeed_3 : decode cX0_readDeed 3 = .ok (.invokevirtual 29, 3) := by decide +kernel
theorem dX0_readDeed_6 : decode cX0_readDeed 6 = .ok (.ifCond .eq 10, 3) := by decide +kernel
theorem dX0_readDeed_9 : decode cX0_readDeed 9 = .ok (.aload_n 0, 1) := by decide +kernel
theorem dX0_readDeed_10 : decode cX0_readDeed 10 = .ok (.iconst 2, 1) := by decide +kernel
theorem dX0_readDeed_11 : decode cX0_readDeed 11 = .ok (.putfield 41, 3) := by decide +kernel
theorem dX0_readDeed_14 : decode cX0_readDeed 14 = .ok (.iconst 1, 1) := by decide +kernel
theorem dX0_readDeed_15 : decode cX0_readDeed 15 = .ok (.ireturn, 1) := by decide +kernel
theorem dX0_readDeed_16 : decode cX0_readDeed 16 = .ok (.aload_n 0, 1) := by decide +kernel
theorem dX0_readDeed_17 : decode cX0_readDeed 17 = .ok (.bipush 46, 2) := by decide +kernel
theorem dX0_readDeed_19 : decode cX0_readDeed 19 = .ok (.invokevirtual 29, 3) := by decide +kernel
theorem dX0_readDeed_22 : decode cX0_readDeed 22 = .ok (.ifCond .eq 33, 3) := by decide +kernel
theorem dX0_readDeed_25 : decode cX0_readDeed 25 = .ok (.aload_n 0, 1) := by decide +kernel
theorem dX0_readDeed_26 : decode cX0_readDeed 26 = .ok (.iconst 1, 1) := by decide +kernel
theorem dX0_readDeed_27 : decode cX0_readDeed 27 = .ok (.putfield 41, 3) := by decide +kernel
theorem dX0_readDeed_30 : decode cX0_readDeed 30 = .ok (.aload_n 0, 1) := by decide +kernel
theorem dX0_readDeed_31 : decode cX0_readDeed 31 = .ok (.aload_n 0, 1) := by decide +kernel
theorem dX0_readDeed_32 : decode cX0_readDeed 32 = .ok (.iconst 1, 1) := by decide +kernel
theorem dX0_readDeed_33 : decode cX0_readDeed 33 = .ok (.bipush 99, 2) := by decide +kernel
theorem dX0_readDeed_35 : decode cX0_readDeed 35 = .ok (.invokevirtual 44, 3) := by decide +kernel
theorem dX0_readDeed_38 : decode cX0_readDeed 38 = .ok (.putfield 48, 3) := by decide +kernel
theorem dX0_readDeed_41 : decode cX0_readDeed 41 = .ok (.aload_n 0, 1) := by decide +kernel
theorem dX0_readDeed_42 : decode cX0_readDeed 42 = .ok (.getfield 48, 3) := by decide +kernel
theorem dX0_readDeed_45 : decode cX0_readDeed 45 = .ok (.iconst (-1), 1) := by decide +kernel
theorem dX0_readDeed_46 : decode cX0_readDeed 46 = .ok (.if_icmp .eq 7, 3) := by decide +kernel
theorem dX0_readDeed_49 : decode cX0_readDeed 49 = .ok (.iconst 1, 1) := by decide +kernel
theorem dX0_readDeed_50 : decode cX0_readDeed 50 = .ok (.goto 4, 3) := by decide +kernel
theorem dX0_readDeed_53 : decode cX0_readDeed 53 = .ok (.iconst 0, 1) := by decide +kernel
theorem dX0_readDeed_54 : decode cX0_readDeed 54 = .ok (.ireturn, 1) := by decide +kernel
theorem dX0_readDeed_55 : decode cX0_readDeed 55 = .ok (.aload_n 0, 1) := by decide +kernel
theorem dX0_readDeed_56 : decode cX0_readDeed 56 = .ok (.iconst 0, 1) := by decide +kernel
theorem dX0_readDeed_57 : decode cX0_readDeed 57 = .ok (.putfield 41, 3) := by decide +kernel
theorem dX0_readDeed_60 : decode cX0_readDeed 60 = .ok (.aload_n 0, 1) := by decide +kernel
theorem dX0_readDeed_61 : decode cX0_readDeed 61 = .ok (.invokevirtual 51, 3) := by decide +kernel
theorem dX0_readDeed_64 : decode cX0_readDeed 64 = .ok (.ifCond .eq 23, 3) := by decide +kernel
theorem dX0_readDeed_67 : decode cX0_readDeed 67 = .ok (.aload_n 0, 1) := by decide +kernel
theorem dX0_readDeed_68 : decode cX0_readDeed 68 = .ok (.bipush 61, 2) := by decide +kernel
theorem dX0_readDeed_70 : decode cX0_readDeed 70 = .ok (.invokevirtual 29, 3) := by decide +kernel
theorem dX0_readDeed_73 : decode cX0_readDeed 73 = .ok (.ifCond .eq 14, 3) := by decide +kernel
theorem dX0_readDeed_76 : decode cX0_readDeed 76 = .ok (.aload_n 0, 1) := by decide +kernel
theorem dX0_readDeed_77 : decode cX0_readDeed 77 = .ok (.invokevirtual 54, 3) := by decide +kernel
theorem dX0_readDeed_80 : decode cX0_readDeed 80 = .ok (.ifCond .eq 7, 3) := by decide +kernel
theorem dX0_readDeed_83 : decode cX0_readDeed 83 = .ok (.iconst 1, 1) := by decide +kernel
theorem dX0_readDeed_84 : decode cX0_readDeed 84 = .ok (.goto 4, 3) := by decide +kernel
theorem dX0_readDeed_87 : decode cX0_readDeed 87 = .ok (.iconst 0, 1) := by decide +kernel
theorem dX0_readDeed_88 : decode cX0_readDeed 88 = .ok (.ireturn, 1) := by decide +kernel
theorem dX0_readSector_0 : decode cX0_readSector 0 = .ok (.aload_n 0, 1) := by decide +kernel
theorem dX0_readSector_1 : decode cX0_readSector 1 = .ok (.bipush 102, 2) := by decide +kernel
theorem dX0_readSector_3 : decode cX0_readSector 3 = .ok (.invokevirtual 29, 3) := by decide +kernel
theorem dX0_readSector_6 : decode cX0_readSector 6 = .ok (.ifCond .eq 11, 3) := by decide +kernel
theorem dX0_readSector_9 : decode cX0_readSector 9 = .ok (.aload_n 0, 1) := by decide +kernel
theorem dX0_readSector_10 : decode cX0_readSector 10 = .ok (.iconst 0, 1) := by decide +kernel
theorem dX0_readSector_11 : decode cX0_readSector 11 = .ok (.putfield 57, 3) := by decide +kernel
theorem dX0_readSector_14 : decode cX0_readSector 14 = .ok (.goto 22, 3) := by decide +kernel
theorem dX0_readSector_17 : decode cX0_readSector 17 = .ok (.aload_n 0, 1) := by decide +kernel
theorem dX0_readSector_18 : decode cX0_readSector 18 = .ok (.bipush 98, 2) := by decide +kernel
theorem dX0_readSector_20 : decode cX0_readSector 20 = .ok (.invokevirtual 29, 3) := by decide +kernel
theorem dX0_readSector_23 : decode cX0_readSector 23 = .ok (.ifCond .eq 11, 3) := by decide +kernel
theorem dX0_readSector_26 : decode cX0_readSector 26 = .ok (.aload_n 0, 1) := by decide +kernel
theorem dX0_readSector_27 : decode cX0_readSector 27 = .ok (.iconst 1, 1) := by decide +kernel
theorem dX0_readSector_28 : decode cX0_readSector 28 = .ok (.putfield 57, 3) := by decide +kernel
theorem dX0_readSector_31 : decode cX0_readSector 31 = .ok (.goto 5, 3) := by decide +kernel
theorem dX0_readSector_34 : decode cX0_readSector 34 = .ok (.iconst 0, 1) := by decide +kernel
theorem dX0_readSector_35 : decode cX0_readSector 35 = .ok (.ireturn, 1) := by decide +kernel
theorem dX0_readSector_36 : decode cX0_readSector 36 = .ok (.aload_n 0, 1) := by decide +kernel
theorem dX0_readSector_37 : decode cX0_readSector 37 = .ok (.aload_n 0, 1) := by decide +kernel
theorem dX0_readSector_38 : decode cX0_readSector 38 = .ok (.iconst 0, 1) := by decide +kernel
theorem dX0_readSector_39 : decode cX0_readSector 39 = .ok (.bipush 11, 2) := by decide +kernel
theorem dX0_readSector_41 : decode cX0_readSector 41 = .ok (.invokevirtual 44, 3) := by decide +kernel
theorem dX0_readSector_44 : decode cX0_readSector 44 = .ok (.putfield 60, 3) := by decide +kernel
theorem dX0_readSector_47 : decode cX0_readSector 47 = .ok (.aload_n 0, 1) := by decide +kernel
theorem dX0_readSector_48 : decode cX0_readSector 48 = .ok (.getfield 60, 3) := by decide +kernel
theorem dX0_readSector_51 : decode cX0_readSector 51 = .ok (.iconst (-1), 1) := by decide +kernel
theorem dX0_readSector_52 : decode cX0_readSector 52 = .ok (.if_icmp .eq 7, 3) := by decide +kernel
theorem dX0_readSector_55 : decode cX0_readSector 55 = .ok (.iconst 1, 1) := by decide +kernel
theorem dX0_readSector_56 : decode cX0_readSector 56 = .ok (.goto 4, 3) := by decide +kernel
theorem dX0_readSector_59 : decode cX0_readSector 59 = .ok (.iconst 0, 1) := by decide +kernel
theorem dX0_readSector_60 : decode cX0_readSector 60 = .ok (.ireturn, 1) := by decide +kernel
theorem dX0_readCharge_0 : decode cX0_readCharge 0 = .ok (.aload_n 0, 1) := by decide +kernel
theorem dX0_readCharge_1 : decode cX0_readCharge 1 = .ok (.bipush 45, 2) := by decide +kernel
theorem dX0_readCharge_3 : decode cX0_readCharge 3 = .ok (.invokevirtual 29, 3) := by decide +kernel
theorem dX0_readCharge_6 : decode cX0_readCharge 6 = .ok (.istore_n 1, 1) := by decide +kernel
theorem dX0_readCharge_7 : decode cX0_readCharge 7 = .ok (.aload_n 0, 1) := by decide +kernel
theorem dX0_readCharge_8 : decode cX0_readCharge 8 = .ok (.iconst 0, 1) := by decide +kernel
theorem dX0_readCharge_9 : decode cX0_readCharge 9 = .ok (.bipush 99, 2) := by decide +kernel
theorem dX0_readCharge_11 : decode cX0_readCharge 11 = .ok (.invokevirtual 44, 3) := by decide +kernel
theorem dX0_readCharge_14 : decode cX0_readCharge 14 = .ok (.istore_n 2, 1) := by decide +kernel
theorem dX0_readCharge_15 : decode cX0_readCharge 15 = .ok (.iload_n 2, 1) := by decide +kernel
theorem dX0_readCharge_16 : decode cX0_readCharge 16 = .ok (.iconst (-1), 1) := by decide +kernel
theorem dX0_readCharge_17 : decode cX0_readCharge 17 = .ok (.if_icmp .ne 5, 3) := by decide +kernel
theorem dX0_readCharge_20 : decode cX0_readCharge 20 = .ok (.iconst 0, 1) := by decide +kernel
theorem dX0_readCharge_21 : decode cX0_readCharge 21 = .ok (.ireturn, 1) := by decide +kernel
theorem dX0_readCharge_22 : decode cX0_readCharge 22 = .ok (.aload_n 0, 1) := by decide +kernel
theorem dX0_readCharge_23 : decode cX0_readCharge 23 = .ok (.iload_n 1, 1) := by decide +kernel
theorem dX0_readCharge_24 : decode cX0_readCharge 24 = .ok (.ifCond .eq 8, 3) := by decide +kernel
theorem dX0_readCharge_27 : decode cX0_readCharge 27 = .ok (.iload_n 2, 1) := by decide +kernel
theorem dX0_readCharge_28 : decode cX0_readCharge 28 = .ok (.ineg, 1) := by decide +kernel
theorem dX0_readCharge_29 : decode cX0_readCharge 29 = .ok (.goto 4, 3) := by decide +kernel
theorem dX0_readCharge_32 : decode cX0_readCharge 32 = .ok (.iload_n 2, 1) := by decide +kernel
theorem dX0_readCharge_33 : decode cX0_readCharge 33 = .ok (.putfield 48, 3) := by decide +kernel
theorem dX0_readCharge_36 : decode cX0_readCharge 36 = .ok (.iconst 1, 1) := by decide +kernel
theorem dX0_readCharge_37 : decode cX0_readCharge 37 = .ok (.ireturn, 1) := by decide +kernel
theorem dX0_readNumber_0 : decode cX0_readNumber 0 = .ok (.aload_n 0, 1) := by decide +kernel
theorem dX0_readNumber_1 : decode cX0_readNumber 1 = .ok (.aload_n 0, 1) := by decide +kernel
theorem dX0_readNumber_2 : decode cX0_readNumber 2 = .ok (.getfield 18, 3) := by decide +kernel
theorem dX0_readNumber_5 : decode cX0_readNumber 5 = .ok (.invokevirtual 63, 3) := by decide +kernel
theorem dX0_readNumber_8 : decode cX0_readNumber 8 = .ok (.istore_n 3, 1) := by decide +kernel
theorem dX0_readNumber_9 : decode cX0_readNumber 9 = .ok (.iload_n 3, 1) := by decide +kernel
theorem dX0_readNumber_10 : decode cX0_readNumber 10 = .ok (.iload_n 1, 1) := by decide +kernel
theorem dX0_readNumber_11 : decode cX0_readNumber 11 = .ok (.if_icmp .ge 5, 3) := by decide +kernel
theorem dX0_readNumber_14 : decode cX0_readNumber 14 = .ok (.iconst (-1), 1) := by decide +kernel
theorem dX0_readNumber_15 : decode cX0_readNumber 15 = .ok (.ireturn, 1) := by decide +kernel
theorem dX0_readNumber_16 : decode cX0_readNumber 16 = .ok (.aload_n 0, 1) := by decide +kernel
theorem dX0_readNumber_17 : decode cX0_readNumber 17 = .ok (.dup, 1) := by decide +kernel
theorem dX0_readNumber_18 : decode cX0_readNumber 18 = .ok (.getfield 18, 3) := by decide +kernel
theorem dX0_readNumber_21 : decode cX0_readNumber 21 = .ok (.iconst 1, 1) := by decide +kernel
theorem dX0_readNumber_22 : decode cX0_readNumber 22 = .ok (.iadd, 1) := by decide +kernel
theorem dX0_readNumber_23 : decode cX0_readNumber 23 = .ok (.putfield 18, 3) := by decide +kernel
theorem dX0_readNumber_26 : decode cX0_readNumber 26 = .ok (.iconst 0, 1) := by decide +kernel
theorem dX0_readNumber_27 : decode cX0_readNumber 27 = .ok (.istore 4, 2) := by decide +kernel
theorem dX0_readNumber_29 : decode cX0_readNumber 29 = .ok (.iload 4, 2) := by decide +kernel
theorem dX0_readNumber_31 : decode cX0_readNumber 31 = .ok (.bipush 60, 2) := by decide +kernel
theorem dX0_readNumber_33 : decode cX0_readNumber 33 = .ok (.if_icmp .ge 61, 3) := by decide +kernel
theorem dX0_readNumber_36 : decode cX0_readNumber 36 = .ok (.iload_n 3, 1) := by decide +kernel
theorem dX0_readNumber_37 : decode cX0_readNumber 37 = .ok (.ifCond .le 57, 3) := by decide +kernel
theorem dX0_readNumber_40 : decode cX0_readNumber 40 = .ok (.aload_n 0, 1) := by decide +kernel
theorem dX0_readNumber_41 : decode cX0_readNumber 41 = .ok (.aload_n 0, 1) := by decide +kernel
theorem dX0_readNumber_42 : decode cX0_readNumber 42 = .ok (.getfield 18, 3) := by decide +kernel
theorem dX0_readNumber_45 : decode cX0_readNumber 45 = .ok (.invokevirtual 63, 3) := by decide +kernel
theorem dX0_readNumber_48 : decode cX0_readNumber 48 = .ok (.istore 5, 2) := by decide +kernel
theorem dX0_readNumber_50 : decode cX0_readNumber 50 = .ok (.iload 5, 2) := by decide +kernel
theorem dX0_readNumber_52 : decode cX0_readNumber 52 = .ok (.iconst (-1), 1) := by decide +kernel
theorem dX0_readNumber_53 : decode cX0_readNumber 53 = .ok (.if_icmp .eq 41, 3) := by decide +kernel
theorem dX0_readNumber_56 : decode cX0_readNumber 56 = .ok (.bipush 10, 2) := by decide +kernel
theorem dX0_readNumber_58 : decode cX0_readNumber 58 = .ok (.iload_n 3, 1) := by decide +kernel
theorem dX0_readNumber_59 : decode cX0_readNumber 59 = .ok (.imul, 1) := by decide +kernel
theorem dX0_readNumber_60 : decode cX0_readNumber 60 = .ok (.iload 5, 2) := by decide +kernel
theorem dX0_readNumber_62 : decode cX0_readNumber 62 = .ok (.iadd, 1) := by decide +kernel
theorem dX0_readNumber_63 : decode cX0_readNumber 63 = .ok (.iload_n 2, 1) := by decide +kernel
theorem dX0_readNumber_64 : decode cX0_readNumber 64 = .ok (.if_icmp .le 6, 3) := by decide +kernel
theorem dX0_readNumber_67 : decode cX0_readNumber 67 = .ok (.goto 27, 3) := by decide +kernel
theorem dX0_readNumber_70 : decode cX0_readNumber 70 = .ok (.bipush 10, 2) := by decide +kernel
theorem dX0_readNumber_72 : decode cX0_readNumber 72 = .ok (.iload_n 3, 1) := by decide +kernel
theorem dX0_readNumber_73 : decode cX0_readNumber 73 = .ok (.imul, 1) := by decide +kernel
theorem dX0_readNumber_74 : decode cX0_readNumber 74 = .ok (.iload 5, 2) := by decide +kernel
theorem dX0_readNumber_76 : decode cX0_readNumber 76 = .ok (.iadd, 1) := by decide +kernel
theorem dX0_readNumber_77 : decode cX0_readNumber 77 = .ok (.istore_n 3, 1) := by decide +kernel
theorem dX0_readNumber_78 : decode cX0_readNumber 78 = .ok (.aload_n 0, 1) := by decide +kernel
theorem dX0_readNumber_79 : decode cX0_readNumber 79 = .ok (.dup, 1) := by decide +kernel
theorem dX0_readNumber_80 : decode cX0_readNumber 80 = .ok (.getfield 18, 3) := by decide +kernel
theorem dX0_readNumber_83 : decode cX0_readNumber 83 = .ok (.iconst 1, 1) := by decide +kernel
theorem dX0_readNumber_84 : decode cX0_readNumber 84 = .ok (.iadd, 1) := by decide +kernel
theorem dX0_readNumber_85 : decode cX0_readNumber 85 = .ok (.putfield 18, 3) := by decide +kernel
theorem dX0_readNumber_88 : decode cX0_readNumber 88 = .ok (.iinc 4 1, 3) := by decide +kernel
theorem dX0_readNumber_91 : decode cX0_readNumber 91 = .ok (.goto (-62), 3) := by decide +kernel
theorem dX0_readNumber_94 : decode cX0_readNumber 94 = .ok (.iload_n 3, 1) := by decide +kernel
theorem dX0_readNumber_95 : decode cX0_readNumber 95 = .ok (.ireturn, 1) := by decide +kernel
theorem dX0_digitAt_0 : decode cX0_digitAt 0 = .ok (.aload_n 0, 1) := by decide +kernel
theorem dX0_digitAt_1 : decode cX0_digitAt 1 = .ok (.getfield 12, 3) := by decide +kernel
theorem dX0_digitAt_4 : decode cX0_digitAt 4 = .ok (.iload_n 1, 1) := by decide +kernel
theorem dX0_digitAt_5 : decode cX0_digitAt 5 = .ok (.invokevirtual 37, 3) := by decide +kernel
theorem dX0_digitAt_8 : decode cX0_digitAt 8 = .ok (.istore_n 2, 1) := by decide +kernel
theorem dX0_digitAt_9 : decode cX0_digitAt 9 = .ok (.iload_n 2, 1) := by decide +kernel
theorem dX0_digitAt_10 : decode cX0_digitAt 10 = .ok (.bipush 48, 2) := by decide +kernel
theorem dX0_digitAt_12 : decode cX0_digitAt 12 = .ok (.if_icmp .lt 16, 3) := by decide +kernel
theorem dX0_digitAt_15 : decode cX0_digitAt 15 = .ok (.iload_n 2, 1) := by decide +kernel
theorem dX0_digitAt_16 : decode cX0_digitAt 16 = .ok (.bipush 57, 2) := by decide +kernel
theorem dX0_digitAt_18 : decode cX0_digitAt 18 = .ok (.if_icmp .gt 10, 3) := by decide +kernel
theorem dX0_digitAt_21 : decode cX0_digitAt 21 = .ok (.iload_n 2, 1) := by decide +kernel
theorem dX0_digitAt_22 : decode cX0_digitAt 22 = .ok (.bipush 48, 2) := by decide +kernel
theorem dX0_digitAt_24 : decode cX0_digitAt 24 = .ok (.isub, 1) := by decide +kernel
theorem dX0_digitAt_25 : decode cX0_digitAt 25 = .ok (.goto 4, 3) := by decide +kernel
theorem dX0_digitAt_28 : decode cX0_digitAt 28 = .ok (.iconst (-1), 1) := by decide +kernel
theorem dX0_digitAt_29 : decode cX0_digitAt 29 = .ok (.ireturn, 1) := by decide +kernel
theorem dX1_init_0 : decode cX1_init 0 = .ok (.aload_n 0, 1) := by decide +kernel
theorem dX1_init_1 : decode cX1_init 1 = .ok (.invokespecial 3, 3) := by decide +kernel
theorem dX1_init_4 : decode cX1_init 4 = .ok (.aload_n 0, 1) := by decide +kernel
theorem dX1_init_5 : decode cX1_init 5 = .ok (.bipush 6, 2) := by decide +kernel
theorem dX1_init_7 : decode cX1_init 7 = .ok (.anewarray 9, 3) := by decide +kernel
theorem dX1_init_10 : decode cX1_init 10 = .ok (.putfield 11, 3) := by decide +kernel
theorem dX1_init_13 : decode cX1_init 13 = .ok (.return_, 1) := by decide +kernel
theorem dX1_record_0 : decode cX1_record 0 = .ok (.aload_n 0, 1) := by decide +kernel
theorem dX1_record_1 : decode cX1_record 1 = .ok (.getfield 17, 3) := by decide +kernel
theorem dX1_record_4 : decode cX1_record 4 = .ok (.bipush 6, 2) := by decide +kernel
theorem dX1_record_6 : decode cX1_record 6 = .ok (.if_icmp .ne 23, 3) := by decide +kernel
theorem dX1_record_9 : decode cX1_record 9 = .ok (.aload_n 0, 1) := by decide +kernel
theorem dX1_record_10 : decode cX1_record 10 = .ok (.dup, 1) := by decide +kernel
theorem dX1_record_11 : decode cX1_record 11 = .ok (.getfield 21, 3) := by decide +kernel
theorem dX1_record_14 : decode cX1_record 14 = .ok (.iconst 1, 1) := by decide +kernel
theorem dX1_record_15 : decode cX1_record 15 = .ok (.iadd, 1) := by decide +kernel
theorem dX1_record_16 : decode cX1_record 16 = .ok (.putfield 21, 3) := by decide +kernel
theorem dX1_record_19 : decode cX1_record 19 = .ok (.aload_n 0, 1) := by decide +kernel
theorem dX1_record_20 : decode cX1_record 20 = .ok (.dup, 1) := by decide +kernel
theorem dX1_record_21 : decode cX1_record 21 = .ok (.getfield 17, 3) := by decide +kernel
theorem dX1_record_24 : decode cX1_record 24 = .ok (.iconst 1, 1) := by decide +kernel
theorem dX1_record_25 : decode cX1_record 25 = .ok (.isub, 1) := by decide +kernel
theorem dX1_record_26 : decode cX1_record 26 = .ok (.putfield 17, 3) := by decide +kernel
theorem dX1_record_29 : decode cX1_record 29 = .ok (.aload_n 0, 1) := by decide +kernel
theorem dX1_record_30 : decode cX1_record 30 = .ok (.getfield 21, 3) := by decide +kernel
theorem dX1_record_33 : decode cX1_record 33 = .ok (.aload_n 0, 1) := by decide +kernel
theorem dX1_record_34 : decode cX1_record 34 = .ok (.getfield 17, 3) := by decide +kernel
theorem dX1_record_37 : decode cX1_record 37 = .ok (.iadd, 1) := by decide +kernel
theorem dX1_record_38 : decode cX1_record 38 = .ok (.bipush 6, 2) := by decide +kernel
theorem dX1_record_40 : decode cX1_record 40 = .ok (.invokestatic 24, 3) := by decide +kernel
theorem dX1_record_43 : decode cX1_record 43 = .ok (.istore_n 2, 1) := by decide +kernel
theorem dX1_record_44 : decode cX1_record 44 = .ok (.aload_n 0, 1) := by decide +kernel
theorem dX1_record_45 : decode cX1_record 45 = .ok (.getfield 11, 3) := by decide +kernel
theorem dX1_record_48 : decode cX1_record 48 = .ok (.iload_n 2, 1) := by decide +kernel
theorem dX1_record_49 : decode cX1_record 49 = .ok (.aaload, 1) := by decide +kernel
theorem dX1_record_50 : decode cX1_record 50 = .ok (.astore_n 3, 1) := by decide +kernel
theorem dX1_record_51 : decode cX1_record 51 = .ok (.aload_n 3, 1) := by decide +kernel
theorem dX1_record_52 : decode cX1_record 52 = .ok (.ifnonnull 18, 3) := by decide +kernel
theorem dX1_record_55 : decode cX1_record 55 = .ok (.new 9, 3) := by decide +kernel
theorem dX1_record_58 : decode cX1_record 58 = .ok (.dup, 1) := by decide +kernel
theorem dX1_record_59 : decode cX1_record 59 = .ok (.invokespecial 30, 3) := by decide +kernel
theorem dX1_record_62 : decode cX1_record 62 = .ok (.astore_n 3, 1) := by decide +kernel
theorem dX1_record_63 : decode cX1_record 63 = .ok (.aload_n 0, 1) := by decide +kernel
theorem dX1_record_64 : decode cX1_record 64 = .ok (.getfield 11, 3) := by decide +kernel
theorem dX1_record_67 : decode cX1_record 67 = .ok (.iload_n 2, 1) := by decide +kernel
theorem dX1_record_68 : decode cX1_record 68 = .ok (.aload_n 3, 1) := by decide +kernel
theorem dX1_record_69 : decode cX1_record 69 = .ok (.aastore, 1) := by decide +kernel
theorem dX1_record_70 : decode cX1_record 70 = .ok (.aload_n 3, 1) := by decide +kernel
theorem dX1_record_71 : decode cX1_record 71 = .ok (.aload_n 1, 1) := by decide +kernel
theorem dX1_record_72 : decode cX1_record 72 = .ok (.invokevirtual 31, 3) := by decide +kernel
theorem dX1_record_75 : decode cX1_record 75 = .ok (.aload_n 0, 1) := by decide +kernel
theorem dX1_record_76 : decode cX1_record 76 = .ok (.dup, 1) := by decide +kernel
theorem dX1_record_77 : decode cX1_record 77 = .ok (.getfield 17, 3) := by decide +kernel
theorem dX1_record_80 : decode cX1_record 80 = .ok (.iconst 1, 1) := by decide +kernel
theorem dX1_record_81 : decode cX1_record 81 = .ok (.iadd, 1) := by decide +kernel
theorem dX1_record_82 : decode cX1_record 82 = .ok (.putfield 17, 3) := by decide +kernel
theorem dX1_record_85 : decode cX1_record 85 = .ok (.return_, 1) := by decide +kernel
theorem dX1_takeBack_0 : decode cX1_takeBack 0 = .ok (.aload_n 0, 1) := by decide +kernel
theorem dX1_takeBack_1 : decode cX1_takeBack 1 = .ok (.getfield 17, 3) := by decide +kernel
theorem dX1_takeBack_4 : decode cX1_takeBack 4 = .ok (.ifCond .ne 5, 3) := by decide +kernel
theorem dX1_takeBack_7 : decode cX1_takeBack 7 = .ok (.iconst 0, 1) := by decide +kernel
theorem dX1_takeBack_8 : decode cX1_takeBack 8 = .ok (.ireturn, 1) := by decide +kernel
theorem dX1_takeBack_9 : decode cX1_takeBack 9 = .ok (.aload_n 0, 1) := by decide +kernel
theorem dX1_takeBack_10 : decode cX1_takeBack 10 = .ok (.getfield 11, 3) := by decide +kernel
theorem dX1_takeBack_13 : decode cX1_takeBack 13 = .ok (.aload_n 0, 1) := by decide +kernel
theorem dX1_takeBack_14 : decode cX1_takeBack 14 = .ok (.getfield 21, 3) := by decide +kernel
theorem dX1_takeBack_17 : decode cX1_takeBack 17 = .ok (.aload_n 0, 1) := by decide +kernel
theorem dX1_takeBack_18 : decode cX1_takeBack 18 = .ok (.getfield 17, 3) := by decide +kernel
theorem dX1_takeBack_21 : decode cX1_takeBack 21 = .ok (.iadd, 1) := by decide +kernel
theorem dX1_takeBack_22 : decode cX1_takeBack 22 = .ok (.iconst 1, 1) := by decide +kernel
theorem dX1_takeBack_23 : decode cX1_takeBack 23 = .ok (.isub, 1) := by decide +kernel
theorem dX1_takeBack_24 : decode cX1_takeBack 24 = .ok (.bipush 6, 2) := by decide +kernel
theorem dX1_takeBack_26 : decode cX1_takeBack 26 = .ok (.invokestatic 24, 3) := by decide +kernel
theorem dX1_takeBack_29 : decode cX1_takeBack 29 = .ok (.aaload, 1) := by decide +kernel
theorem dX1_takeBack_30 : decode cX1_takeBack 30 = .ok (.astore_n 2, 1) := by decide +kernel
theorem dX1_takeBack_31 : decode cX1_takeBack 31 = .ok (.aload_n 2, 1) := by decide +kernel
theorem dX1_takeBack_32 : decode cX1_takeBack 32 = .ok (.ifnonnull 5, 3) := by decide +kernel
theorem dX1_takeBack_35 : decode cX1_takeBack 35 = .ok (.iconst 0, 1) := by decide +kernel
theorem dX1_takeBack_36 : decode cX1_takeBack 36 = .ok (.ireturn, 1) := by decide +kernel
theorem dX1_takeBack_37 : decode cX1_takeBack 37 = .ok (.aload_n 1, 1) := by decide +kernel
theorem dX1_takeBack_38 : decode cX1_takeBack 38 = .ok (.aload_n 2, 1) := by decide +kernel
theorem dX1_takeBack_39 : decode cX1_takeBack 39 = .ok (.invokevirtual 31, 3) := by decide +kernel
theorem dX1_takeBack_42 : decode cX1_takeBack 42 = .ok (.aload_n 0, 1) := by decide +kernel
theorem dX1_takeBack_43 : decode cX1_takeBack 43 = .ok (.dup, 1) := by decide +kernel
theorem dX1_takeBack_44 : decode cX1_takeBack 44 = .ok (.getfield 17, 3) := by decide +kernel
theorem dX1_takeBack_47 : decode cX1_takeBack 47 = .ok (.iconst 1, 1) := by decide +kernel
theorem dX1_takeBack_48 : decode cX1_takeBack 48 = .ok (.isub, 1) := by decide +kernel
theorem dX1_takeBack_49 : decode cX1_takeBack 49 = .ok (.putfield 17, 3) := by decide +kernel
theorem dX1_takeBack_52 : decode cX1_takeBack 52 = .ok (.iconst 1, 1) := by decide +kernel
theorem dX1_takeBack_53 : decode cX1_takeBack 53 = .ok (.ireturn, 1) := by decide +kernel
theorem dX2_init_0 : decode cX2_init 0 = .ok (.aload_n 0, 1) := by decide +kernel
theorem dX2_init_1 : decode cX2_init 1 = .ok (.invokespecial 3, 3) := by decide +kernel
theorem dX2_init_4 : decode cX2_init 4 = .ok (.aload_n 0, 1) := by decide +kernel
theorem dX2_init_5 : decode cX2_init 5 = .ok (.iconst 5, 1) := by decide +kernel
theorem dX2_init_6 : decode cX2_init 6 = .ok (.newarray .int, 2) := by decide +kernel
theorem dX2_init_8 : decode cX2_init 8 = .ok (.dup, 1) := by decide +kernel
theorem dX2_init_9 : decode cX2_init 9 = .ok (.iconst 0, 1) := by decide +kernel
theorem dX2_init_10 : decode cX2_init 10 = .ok (.bipush 12, 2) := by decide +kernel
theorem dX2_init_12 : decode cX2_init 12 = .ok (.iastore, 1) := by decide +kernel
theorem dX2_init_13 : decode cX2_init 13 = .ok (.dup, 1) := by decide +kernel
theorem dX2_init_14 : decode cX2_init 14 = .ok (.iconst 1, 1) := by decide +kernel
theorem dX2_init_15 : decode cX2_init 15 = .ok (.iconst 2, 1) := by decide +kernel
theorem dX2_init_16 : decode cX2_init 16 = .ok (.iastore, 1) := by decide +kernel
theorem dX2_init_17 : decode cX2_init 17 = .ok (.dup, 1) := by decide +kernel
theorem dX2_init_18 : decode cX2_init 18 = .ok (.iconst 2, 1) := by decide +kernel
theorem dX2_init_19 : decode cX2_init 19 = .ok (.bipush 30, 2) := by decide +kernel
theorem dX2_init_21 : decode cX2_init 21 = .ok (.iastore, 1) := by decide +kernel
theorem dX2_init_22 : decode cX2_init 22 = .ok (.dup, 1) := by decide +kernel
theorem dX2_init_23 : decode cX2_init 23 = .ok (.iconst 3, 1) := by decide +kernel
theorem dX2_init_24 : decode cX2_init 24 = .ok (.bipush 20, 2) := by decide +kernel
theorem dX2_init_26 : decode cX2_init 26 = .ok (.iastore, 1) := by decide +kernel
theorem dX2_init_27 : decode cX2_init 27 = .ok (.dup, 1) := by decide +kernel
theorem dX2_init_28 : decode cX2_init 28 = .ok (.iconst 4, 1) := by decide +kernel
theorem dX2_init_29 : decode cX2_init 29 = .ok (.sipush 1000, 3) := by decide +kernel
theorem dX2_init_32 : decode cX2_init 32 = .ok (.iastore, 1) := by decide +kernel
theorem dX2_init_33 : decode cX2_init 33 = .ok (.putfield 9, 3) := by decide +kernel
theorem dX2_init_36 : decode cX2_init 36 = .ok (.aload_n 0, 1) := by decide +kernel
theorem dX2_init_37 : decode cX2_init 37 = .ok (.bipush 24, 2) := by decide +kernel
theorem dX2_init_39 : decode cX2_init 39 = .ok (.newarray .int, 2) := by decide +kernel
theorem dX2_init_41 : decode cX2_init 41 = .ok (.putfield 15, 3) := by decide +kernel
theorem dX2_init_44 : decode cX2_init 44 = .ok (.aload_n 0, 1) := by decide +kernel
theorem dX2_init_45 : decode cX2_init 45 = .ok (.iconst 2, 1) := by decide +kernel
theorem dX2_init_46 : decode cX2_init 46 = .ok (.newarray .int, 2) := by decide +kernel
theorem dX2_init_48 : decode cX2_init 48 = .ok (.putfield 18, 3) := by decide +kernel
theorem dX2_init_51 : decode cX2_init 51 = .ok (.aload_n 0, 1) := by decide +kernel
theorem dX2_init_52 : decode cX2_init 52 = .ok (.iconst 2, 1) := by decide +kernel
theorem dX2_init_53 : decode cX2_init 53 = .ok (.newarray .int, 2) := by decide +kernel
theorem dX2_init_55 : decode cX2_init 55 = .ok (.putfield 21, 3) := by decide +kernel
theorem dX2_init_58 : decode cX2_init 58 = .ok (.aload_n 0, 1) := by decide +kernel
theorem dX2_init_59 : decode cX2_init 59 = .ok (.iconst 2, 1) := by decide +kernel
theorem dX2_init_60 : decode cX2_init 60 = .ok (.newarray .int, 2) := by decide +kernel
theorem dX2_init_62 : decode cX2_init 62 = .ok (.putfield 24, 3) := by decide +kernel
theorem dX2_init_65 : decode cX2_init 65 = .ok (.aload_n 0, 1) := by decide +kernel
theorem dX2_init_66 : decode cX2_init 66 = .ok (.bipush 24, 2) := by decide +kernel
theorem dX2_init_68 : decode cX2_init 68 = .ok (.newarray .int, 2) := by decide +kernel
theorem dX2_init_70 : decode cX2_init 70 = .ok (.putfield 27, 3) := by decide +kernel
theorem dX2_init_73 : decode cX2_init 73 = .ok (.return_, 1) := by decide +kernel
theorem dX2_become_0 : decode cX2_become 0 = .ok (.aload_n 1, 1) := by decide +kernel
theorem dX2_become_1 : decode cX2_become 1 = .ok (.getfield 9, 3) := by decide +kernel
theorem dX2_become_4 : decode cX2_become 4 = .ok (.aload_n 0, 1) := by decide +kernel
theorem dX2_become_5 : decode cX2_become 5 = .ok (.getfield 9, 3) := by decide +kernel
theorem dX2_become_8 : decode cX2_become 8 = .ok (.invokestatic 30, 3) := by decide +kernel
theorem dX2_become_11 : decode cX2_become 11 = .ok (.aload_n 1, 1) := by decide +kernel
theorem dX2_become_12 : decode cX2_become 12 = .ok (.getfield 15, 3) := by decide +kernel
theorem dX2_become_15 : decode cX2_become 15 = .ok (.aload_n 0, 1) := by decide +kernel
theorem dX2_become_16 : decode cX2_become 16 = .ok (.getfield 15, 3) := by decide +kernel
theorem dX2_become_19 : decode cX2_become 19 = .ok (.invokestatic 30, 3) := by decide +kernel
theorem dX2_become_22 : decode cX2_become 22 = .ok (.aload_n 1, 1) := by decide +kernel
theorem dX2_become_23 : decode cX2_become 23 = .ok (.getfield 18, 3) := by decide +kernel
theorem dX2_become_26 : decode cX2_become 26 = .ok (.aload_n 0, 1) := by decide +kernel
theorem dX2_become_27 : decode cX2_become 27 = .ok (.getfield 18, 3) := by decide +kernel
theorem dX2_become_30 : decode cX2_become 30 = .ok (.invokestatic 30, 3) := by decide +kernel
theorem dX2_become_33 : decode cX2_become 33 = .ok (.aload_n 1, 1) := by decide +kernel
theorem dX2_become_34 : decode cX2_become 34 = .ok (.getfield 21, 3) := by decide +kernel
theorem dX2_become_37 : decode cX2_become 37 = .ok (.aload_n 0, 1) := by decide +kernel
theorem dX2_become_38 : decode cX2_become 38 = .ok (.getfield 21, 3) := by decide +kernel
theorem dX2_become_41 : decode cX2_become 41 = .ok (.invokestatic 30, 3) := by decide +kernel
theorem dX2_become_44 : decode cX2_become 44 = .ok (.aload_n 1, 1) := by decide +kernel
theorem dX2_become_45 : decode cX2_become 45 = .ok (.getfield 24, 3) := by decide +kernel
theorem dX2_become_48 : decode cX2_become 48 = .ok (.aload_n 0, 1) := by decide +kernel
theorem dX2_become_49 : decode cX2_become 49 = .ok (.getfield 24, 3) := by decide +kernel
theorem dX2_become_52 : decode cX2_become 52 = .ok (.invokestatic 30, 3) := by decide +kernel
theorem dX2_become_55 : decode cX2_become 55 = .ok (.aload_n 1, 1) := by decide +kernel
theorem dX2_become_56 : decode cX2_become 56 = .ok (.getfield 27, 3) := by decide +kernel
theorem dX2_become_59 : decode cX2_become 59 = .ok (.aload_n 0, 1) := by decide +kernel
theorem dX2_become_60 : decode cX2_become 60 = .ok (.getfield 27, 3) := by decide +kernel
theorem dX2_become_63 : decode cX2_become 63 = .ok (.invokestatic 30, 3) := by decide +kernel
theorem dX2_become_66 : decode cX2_become 66 = .ok (.aload_n 0, 1) := by decide +kernel
theorem dX2_become_67 : decode cX2_become 67 = .ok (.aload_n 1, 1) := by decide +kernel
theorem dX2_become_68 : decode cX2_become 68 = .ok (.getfield 34, 3) := by decide +kernel
theorem dX2_become_71 : decode cX2_become 71 = .ok (.putfield 34, 3) := by decide +kernel
theorem dX2_become_74 : decode cX2_become 74 = .ok (.aload_n 0, 1) := by decide +kernel
theorem dX2_become_75 : decode cX2_become 75 = .ok (.aload_n 1, 1) := by decide +kernel
theorem dX2_become_76 : decode cX2_become 76 = .ok (.getfield 38, 3) := by decide +kernel
theorem dX2_become_79 : decode cX2_become 79 = .ok (.putfield 38, 3) := by decide +kernel
theorem dX2_become_82 : decode cX2_become 82 = .ok (.aload_n 0, 1) := by decide +kernel
theorem dX2_become_83 : decode cX2_become 83 = .ok (.aload_n 1, 1) := by decide +kernel
theorem dX2_become_84 : decode cX2_become 84 = .ok (.getfield 41, 3) := by decide +kernel
theorem dX2_become_87 : decode cX2_become 87 = .ok (.putfield 41, 3) := by decide +kernel
theorem dX2_become_90 : decode cX2_become 90 = .ok (.aload_n 0, 1) := by decide +kernel
theorem dX2_become_91 : decode cX2_become 91 = .ok (.aload_n 1, 1) := by decide +kernel
theorem dX2_become_92 : decode cX2_become 92 = .ok (.getfield 44, 3) := by decide +kernel
theorem dX2_become_95 : decode cX2_become 95 = .ok (.putfield 44, 3) := by decide +kernel
theorem dX2_become_98 : decode cX2_become 98 = .ok (.aload_n 0, 1) := by decide +kernel
theorem dX2_become_99 : decode cX2_become 99 = .ok (.aload_n 1, 1) := by decide +kernel
theorem dX2_become_100 : decode cX2_become 100 = .ok (.getfield 47, 3) := by decide +kernel
theorem dX2_become_103 : decode cX2_become 103 = .ok (.putfield 47, 3) := by decide +kernel
theorem dX2_become_106 : decode cX2_become 106 = .ok (.aload_n 0, 1) := by decide +kernel
theorem dX2_become_107 : decode cX2_become 107 = .ok (.aload_n 1, 1) := by decide +kernel
theorem dX2_become_108 : decode cX2_become 108 = .ok (.getfield 50, 3) := by decide +kernel
theorem dX2_become_111 : decode cX2_become 111 = .ok (.putfield 50, 3) := by decide +kernel
theorem dX2_become_114 : decode cX2_become 114 = .ok (.aload_n 0, 1) := by decide +kernel
theorem dX2_become_115 : decode cX2_become 115 = .ok (.aload_n 1, 1) := by decide +kernel
theorem dX2_become_116 : decode cX2_become 116 = .ok (.getfield 53, 3) := by decide +kernel
theorem dX2_become_119 : decode cX2_become 119 = .ok (.putfield 53, 3) := by decide +kernel
theorem dX2_become_122 : decode cX2_become 122 = .ok (.return_, 1) := by decide +kernel
theorem dX2_indexOf_0 : decode cX2_indexOf 0 = .ok (.iload_n 0, 1) := by decide +kernel
theorem dX2_indexOf_1 : decode cX2_indexOf 1 = .ok (.ifCond .ne 12, 3) := by decide +kernel
theorem dX2_indexOf_4 : decode cX2_indexOf 4 = .ok (.iload_n 1, 1) := by decide +kernel
theorem dX2_indexOf_5 : decode cX2_indexOf 5 = .ok (.iload_n 2, 1) := by decide +kernel
theorem dX2_indexOf_6 : decode cX2_indexOf 6 = .ok (.isub, 1) := by decide +kernel
theorem dX2_indexOf_7 : decode cX2_indexOf 7 = .ok (.bipush 12, 2) := by decide +kernel
theorem dX2_indexOf_9 : decode cX2_indexOf 9 = .ok (.invokestatic 56, 3) := by decide +kernel
theorem dX2_indexOf_12 : decode cX2_indexOf 12 = .ok (.ireturn, 1) := by decide +kernel
theorem dX2_indexOf_13 : decode cX2_indexOf 13 = .ok (.bipush 12, 2) := by decide +kernel
theorem dX2_indexOf_15 : decode cX2_indexOf 15 = .ok (.iload_n 1, 1) := by decide +kernel
theorem dX2_indexOf_16 : decode cX2_indexOf 16 = .ok (.iload_n 2, 1) := by decide +kernel
theorem dX2_indexOf_17 : decode cX2_indexOf 17 = .ok (.iadd, 1) := by decide +kernel
theorem dX2_indexOf_18 : decode cX2_indexOf 18 = .ok (.bipush 12, 2) := by decide +kernel
theorem dX2_indexOf_20 : decode cX2_indexOf 20 = .ok (.invokestatic 56, 3) := by decide +kernel
theorem dX2_indexOf_23 : decode cX2_indexOf 23 = .ok (.iadd, 1) := by decide +kernel
theorem dX2_indexOf_24 : decode cX2_indexOf 24 = .ok (.ireturn, 1) := by decide +kernel
theorem dX2_firstIndexOf_0 : decode cX2_firstIndexOf 0 = .ok (.iload_n 0, 1) := by decide +kernel
theorem dX2_firstIndexOf_1 : decode cX2_firstIndexOf 1 = .ok (.ifCond .ne 7, 3) := by decide +kernel
theorem dX2_firstIndexOf_4 : decode cX2_firstIndexOf 4 = .ok (.iconst 0, 1) := by decide +kernel
theorem dX2_firstIndexOf_5 : decode cX2_firstIndexOf 5 = .ok (.goto 5, 3) := by decide +kernel
theorem dX2_firstIndexOf_8 : decode cX2_firstIndexOf 8 = .ok (.bipush 12, 2) := by decide +kernel
theorem dX2_firstIndexOf_10 : decode cX2_firstIndexOf 10 = .ok (.ireturn, 1) := by decide +kernel
theorem dX2_logIndexOf_0 : decode cX2_logIndexOf 0 = .ok (.iconst 3, 1) := by decide +kernel
theorem dX2_logIndexOf_1 : decode cX2_logIndexOf 1 = .ok (.iload_n 0, 1) := by decide +kernel
theorem dX2_logIndexOf_2 : decode cX2_logIndexOf 2 = .ok (.bipush 8, 2) := by decide +kernel
theorem dX2_logIndexOf_4 : decode cX2_logIndexOf 4 = .ok (.invokestatic 56, 3) := by decide +kernel
theorem dX2_logIndexOf_7 : decode cX2_logIndexOf 7 = .ok (.imul, 1) := by decide +kernel
theorem dX2_logIndexOf_8 : decode cX2_logIndexOf 8 = .ok (.ireturn, 1) := by decide +kernel
theorem dX2_sumOfDisc_0 : decode cX2_sumOfDisc 0 = .ok (.iconst 0, 1) := by decide +kernel
theorem dX2_sumOfDisc_1 : decode cX2_sumOfDisc 1 = .ok (.istore_n 2, 1) := by decide +kernel
theorem dX2_sumOfDisc_2 : decode cX2_sumOfDisc 2 = .ok (.iload_n 1, 1) := by decide +kernel
theorem dX2_sumOfDisc_3 : decode cX2_sumOfDisc 3 = .ok (.invokestatic 62, 3) := by decide +kernel
theorem dX2_sumOfDisc_6 : decode cX2_sumOfDisc 6 = .ok (.istore_n 3, 1) := by decide +kernel
theorem dX2_sumOfDisc_7 : decode cX2_sumOfDisc 7 = .ok (.iload_n 3, 1) := by decide +kernel
theorem dX2_sumOfDisc_8 : decode cX2_sumOfDisc 8 = .ok (.istore 4, 2) := by decide +kernel
theorem dX2_sumOfDisc_10 : decode cX2_sumOfDisc 10 = .ok (.iload 4, 2) := by decide +kernel
theorem dX2_sumOfDisc_12 : decode cX2_sumOfDisc 12 = .ok (.iload_n 3, 1) := by decide +kernel
theorem dX2_sumOfDisc_13 : decode cX2_sumOfDisc 13 = .ok (.bipush 12, 2) := by decide +kernel
theorem dX2_sumOfDisc_15 : decode cX2_sumOfDisc 15 = .ok (.iadd, 1) := by decide +kernel
theorem dX2_sumOfDisc_16 : decode cX2_sumOfDisc 16 = .ok (.if_icmp .ge 19, 3) := by decide +kernel
theorem dX2_sumOfDisc_19 : decode cX2_sumOfDisc 19 = .ok (.iload_n 2, 1) := by decide +kernel
theorem dX2_sumOfDisc_20 : decode cX2_sumOfDisc 20 = .ok (.aload_n 0, 1) := by decide +kernel
theorem dX2_sumOfDisc_21 : decode cX2_sumOfDisc 21 = .ok (.getfield 15, 3) := by decide +kernel
theorem dX2_sumOfDisc_24 : decode cX2_sumOfDisc 24 = .ok (.iload 4, 2) := by decide +kernel
theorem dX2_sumOfDisc_26 : decode cX2_sumOfDisc 26 = .ok (.iaload, 1) := by decide +kernel
theorem dX2_sumOfDisc_27 : decode cX2_sumOfDisc 27 = .ok (.iadd, 1) := by decide +kernel
theorem dX2_sumOfDisc_28 : decode cX2_sumOfDisc 28 = .ok (.istore_n 2, 1) := by decide +kernel
theorem dX2_sumOfDisc_29 : decode cX2_sumOfDisc 29 = .ok (.iinc 4 1, 3) := by decide +kernel
theorem dX2_sumOfDisc_32 : decode cX2_sumOfDisc 32 = .ok (.goto (-22), 3) := by decide +kernel
theorem dX2_sumOfDisc_35 : decode cX2_sumOfDisc 35 = .ok (.iload_n 2, 1) := by decide +kernel
theorem dX2_sumOfDisc_36 : decode cX2_sumOfDisc 36 = .ok (.ireturn, 1) := by decide +kernel
theorem dX2_sectorsWithSign_0 : decode cX2_sectorsWithSign 0 = .ok (.iconst 0, 1) := by decide +kernel
theorem dX2_sectorsWithSign_1 : decode cX2_sectorsWithSign 1 = .ok (.istore_n 3, 1) := by decide +kernel
theorem dX2_sectorsWithSign_2 : decode cX2_sectorsWithSign 2 = .ok (.iload_n 1, 1) := by decide +kernel
theorem dX2_sectorsWithSign_3 : decode cX2_sectorsWithSign 3 = .ok (.invokestatic 62, 3) := by decide +kernel
theorem dX2_sectorsWithSign_6 : decode cX2_sectorsWithSign 6 = .ok (.istore 4, 2) := by decide +kernel
theorem dX2_sectorsWithSign_8 : decode cX2_sectorsWithSign 8 = .ok (.iload 4, 2) := by decide +kernel
theorem dX2_sectorsWithSign_10 : decode cX2_sectorsWithSign 10 = .ok (.istore 5, 2) := by decide +kernel
theorem dX2_sectorsWithSign_12 : decode cX2_sectorsWithSign 12 = .ok (.iload 5, 2) := by decide +kernel
theorem dX2_sectorsWithSign_14 : decode cX2_sectorsWithSign 14 = .ok (.iload 4, 2) := by decide +kernel
theorem dX2_sectorsWithSign_16 : decode cX2_sectorsWithSign 16 = .ok (.bipush 12, 2) := by decide +kernel
theorem dX2_sectorsWithSign_18 : decode cX2_sectorsWithSign 18 = .ok (.iadd, 1) := by decide +kernel
theorem dX2_sectorsWithSign_19 : decode cX2_sectorsWithSign 19 = .ok (.if_icmp .ge 26, 3) := by decide +kernel
theorem dX2_sectorsWithSign_22 : decode cX2_sectorsWithSign 22 = .ok (.aload_n 0, 1) := by decide +kernel
theorem dX2_sectorsWithSign_23 : decode cX2_sectorsWithSign 23 = .ok (.getfield 15, 3) := by decide +kernel
theorem dX2_sectorsWithSign_26 : decode cX2_sectorsWithSign 26 = .ok (.iload 5, 2) := by decide +kernel
theorem dX2_sectorsWithSign_28 : decode cX2_sectorsWithSign 28 = .ok (.iaload, 1) := by decide +kernel
theorem dX2_sectorsWithSign_29 : decode cX2_sectorsWithSign 29 = .ok (.invokestatic 66, 3) := by decide +kernel
theorem dX2_sectorsWithSign_32 : decode cX2_sectorsWithSign 32 = .ok (.iload_n 2, 1) := by decide +kernel
theorem dX2_sectorsWithSign_33 : decode cX2_sectorsWithSign 33 = .ok (.if_icmp .ne 6, 3) := by decide +kernel
theorem dX2_sectorsWithSign_36 : decode cX2_sectorsWithSign 36 = .ok (.iinc 3 1, 3) := by decide +kernel
theorem dX2_sectorsWithSign_39 : decode cX2_sectorsWithSign 39 = .ok (.iinc 5 1, 3) := by decide +kernel
theorem dX2_sectorsWithSign_42 : decode cX2_sectorsWithSign 42 = .ok (.goto (-30), 3) := by decide +kernel
theorem dX2_sectorsWithSign_45 : decode cX2_sectorsWithSign 45 = .ok (.iload_n 3, 1) := by decide +kernel
theorem dX2_sectorsWithSign_46 : decode cX2_sectorsWithSign 46 = .ok (.ireturn, 1) := by decide +kernel
theorem dX2_greatestOfDisc_0 : decode cX2_greatestOfDisc 0 = .ok (.bipush (-99), 2) := by decide +kernel
theorem dX2_greatestOfDisc_2 : decode cX2_greatestOfDisc 2 = .ok (.istore_n 2, 1) := by decide +kernel
theorem dX2_greatestOfDisc_3 : decode cX2_greatestOfDisc 3 = .ok (.iload_n 1, 1) := by decide +kernel
theorem dX2_greatestOfDisc_4 : decode cX2_greatestOfDisc 4 = .ok (.invokestatic 62, 3) := by decide +kernel
theorem dX2_greatestOfDisc_7 : decode cX2_greatestOfDisc 7 = .ok (.istore_n 3, 1) := by decide +kernel
theorem dX2_greatestOfDisc_8 : decode cX2_greatestOfDisc 8 = .ok (.iload_n 3, 1) := by decide +kernel
theorem dX2_greatestOfDisc_9 : decode cX2_greatestOfDisc 9 = .ok (.istore 4, 2) := by decide +kernel
theorem dX2_greatestOfDisc_11 : decode cX2_greatestOfDisc 11 = .ok (.iload 4, 2) := by decide +kernel
theorem dX2_greatestOfDisc_13 : decode cX2_greatestOfDisc 13 = .ok (.iload_n 3, 1) := by decide +kernel
theorem dX2_greatestOfDisc_14 : decode cX2_greatestOfDisc 14 = .ok (.bipush 12, 2) := by decide +kernel
theorem dX2_greatestOfDisc_16 : decode cX2_greatestOfDisc 16 = .ok (.iadd, 1) := by decide +kernel
theorem dX2_greatestOfDisc_17 : decode cX2_greatestOfDisc 17 = .ok (.if_icmp .ge 21, 3) := by decide +kernel
theorem dX2_greatestOfDisc_20 : decode cX2_greatestOfDisc 20 = .ok (.iload_n 2, 1) := by decide +kernel
theorem dX2_greatestOfDisc_21 : decode cX2_greatestOfDisc 21 = .ok (.aload_n 0, 1) := by decide +kernel
theorem dX2_greatestOfDisc_22 : decode cX2_greatestOfDisc 22 = .ok (.getfield 15, 3) := by decide +kernel
theorem dX2_greatestOfDisc_25 : decode cX2_greatestOfDisc 25 = .ok (.iload 4, 2) := by decide +kernel
theorem dX2_greatestOfDisc_27 : decode cX2_greatestOfDisc 27 = .ok (.iaload, 1) := by decide +kernel
theorem dX2_greatestOfDisc_28 : decode cX2_greatestOfDisc 28 = .ok (.invokestatic 71, 3) := by decide +kernel
theorem dX2_greatestOfDisc_31 : decode cX2_greatestOfDisc 31 = .ok (.istore_n 2, 1) := by decide +kernel
theorem dX2_greatestOfDisc_32 : decode cX2_greatestOfDisc 32 = .ok (.iinc 4 1, 3) := by decide +kernel
theorem dX2_greatestOfDisc_35 : decode cX2_greatestOfDisc 35 = .ok (.goto (-24), 3) := by decide +kernel
theorem dX2_greatestOfDisc_38 : decode cX2_greatestOfDisc 38 = .ok (.iload_n 2, 1) := by decide +kernel
theorem dX2_greatestOfDisc_39 : decode cX2_greatestOfDisc 39 = .ok (.ireturn, 1) := by decide +kernel
theorem dX2_leastOfDisc_0 : decode cX2_leastOfDisc 0 = .ok (.bipush 99, 2) := by decide +kernel
theorem dX2_leastOfDisc_2 : decode cX2_leastOfDisc 2 = .ok (.istore_n 2, 1) := by decide +kernel
theorem dX2_leastOfDisc_3 : decode cX2_leastOfDisc 3 = .ok (.iload_n 1, 1) := by decide +kernel
theorem dX2_leastOfDisc_4 : decode cX2_leastOfDisc 4 = .ok (.invokestatic 62, 3) := by decide +kernel
theorem dX2_leastOfDisc_7 : decode cX2_leastOfDisc 7 = .ok (.istore_n 3, 1) := by decide +kernel
theorem dX2_leastOfDisc_8 : decode cX2_leastOfDisc 8 = .ok (.iload_n 3, 1) := by decide +kernel
theorem dX2_leastOfDisc_9 : decode cX2_leastOfDisc 9 = .ok (.istore 4, 2) := by decide +kernel
theorem dX2_leastOfDisc_11 : decode cX2_leastOfDisc 11 = .ok (.iload 4, 2) := by decide +kernel
theorem dX2_leastOfDisc_13 : decode cX2_leastOfDisc 13 = .ok (.iload_n 3, 1) := by decide +kernel
theorem dX2_leastOfDisc_14 : decode cX2_leastOfDisc 14 = .ok (.bipush 12, 2) := by decide +kernel
theorem dX2_leastOfDisc_16 : decode cX2_leastOfDisc 16 = .ok (.iadd, 1) := by decide +kernel
theorem dX2_leastOfDisc_17 : decode cX2_leastOfDisc 17 = .ok (.if_icmp .ge 21, 3) := by decide +kernel
theorem dX2_leastOfDisc_20 : decode cX2_leastOfDisc 20 = .ok (.iload_n 2, 1) := by decide +kernel
theorem dX2_leastOfDisc_21 : decode cX2_leastOfDisc 21 = .ok (.aload_n 0, 1) := by decide +kernel
theorem dX2_leastOfDisc_22 : decode cX2_leastOfDisc 22 = .ok (.getfield 15, 3) := by decide +kernel
theorem dX2_leastOfDisc_25 : decode cX2_leastOfDisc 25 = .ok (.iload 4, 2) := by decide +kernel
theorem dX2_leastOfDisc_27 : decode cX2_leastOfDisc 27 = .ok (.iaload, 1) := by decide +kernel
theorem dX2_leastOfDisc_28 : decode cX2_leastOfDisc 28 = .ok (.invokestatic 74, 3) := by decide +kernel
theorem dX2_leastOfDisc_31 : decode cX2_leastOfDisc 31 = .ok (.istore_n 2, 1) := by decide +kernel
theorem dX2_leastOfDisc_32 : decode cX2_leastOfDisc 32 = .ok (.iinc 4 1, 3) := by decide +kernel
theorem dX2_leastOfDisc_35 : decode cX2_leastOfDisc 35 = .ok (.goto (-24), 3) := by decide +kernel
theorem dX2_leastOfDisc_38 : decode cX2_leastOfDisc 38 = .ok (.iload_n 2, 1) := by decide +kernel
theorem dX2_leastOfDisc_39 : decode cX2_leastOfDisc 39 = .ok (.ireturn, 1) := by decide +kernel
theorem dX2_chargeOfAll_0 : decode cX2_chargeOfAll 0 = .ok (.aload_n 0, 1) := by decide +kernel
theorem dX2_chargeOfAll_1 : decode cX2_chargeOfAll 1 = .ok (.iconst 0, 1) := by decide +kernel
theorem dX2_chargeOfAll_2 : decode cX2_chargeOfAll 2 = .ok (.invokevirtual 77, 3) := by decide +kernel
theorem dX2_chargeOfAll_5 : decode cX2_chargeOfAll 5 = .ok (.aload_n 0, 1) := by decide +kernel
theorem dX2_chargeOfAll_6 : decode cX2_chargeOfAll 6 = .ok (.iconst 1, 1) := by decide +kernel
theorem dX2_chargeOfAll_7 : decode cX2_chargeOfAll 7 = .ok (.invokevirtual 77, 3) := by decide +kernel
theorem dX2_chargeOfAll_10 : decode cX2_chargeOfAll 10 = .ok (.iadd, 1) := by decide +kernel
theorem dX2_chargeOfAll_11 : decode cX2_chargeOfAll 11 = .ok (.aload_n 0, 1) := by decide +kernel
theorem dX2_chargeOfAll_12 : decode cX2_chargeOfAll 12 = .ok (.getfield 18, 3) := by decide +kernel
theorem dX2_chargeOfAll_15 : decode cX2_chargeOfAll 15 = .ok (.iconst 0, 1) := by decide +kernel
theorem dX2_chargeOfAll_16 : decode cX2_chargeOfAll 16 = .ok (.iaload, 1) := by decide +kernel
theorem dX2_chargeOfAll_17 : decode cX2_chargeOfAll 17 = .ok (.iadd, 1) := by decide +kernel
theorem dX2_chargeOfAll_18 : decode cX2_chargeOfAll 18 = .ok (.aload_n 0, 1) := by decide +kernel
theorem dX2_chargeOfAll_19 : decode cX2_chargeOfAll 19 = .ok (.getfield 18, 3) := by decide +kernel
theorem dX2_chargeOfAll_22 : decode cX2_chargeOfAll 22 = .ok (.iconst 1, 1) := by decide +kernel
theorem dX2_chargeOfAll_23 : decode cX2_chargeOfAll 23 = .ok (.iaload, 1) := by decide +kernel
theorem dX2_chargeOfAll_24 : decode cX2_chargeOfAll 24 = .ok (.iadd, 1) := by decide +kernel
theorem dX2_chargeOfAll_25 : decode cX2_chargeOfAll 25 = .ok (.ireturn, 1) := by decide +kernel
theorem dX2_fullestJar_0 : decode cX2_fullestJar 0 = .ok (.aload_n 0, 1) := by decide +kernel
theorem dX2_fullestJar_1 : decode cX2_fullestJar 1 = .ok (.getfield 18, 3) := by decide +kernel
theorem dX2_fullestJar_4 : decode cX2_fullestJar 4 = .ok (.iconst 0, 1) := by decide +kernel
theorem dX2_fullestJar_5 : decode cX2_fullestJar 5 = .ok (.iaload, 1) := by decide +kernel
theorem dX2_fullestJar_6 : decode cX2_fullestJar 6 = .ok (.invokestatic 80, 3) := by decide +kernel
theorem dX2_fullestJar_9 : decode cX2_fullestJar 9 = .ok (.aload_n 0, 1) := by decide +kernel
theorem dX2_fullestJar_10 : decode cX2_fullestJar 10 = .ok (.getfield 18, 3) := by decide +kernel
theorem dX2_fullestJar_13 : decode cX2_fullestJar 13 = .ok (.iconst 1, 1) := by decide +kernel
theorem dX2_fullestJar_14 : decode cX2_fullestJar 14 = .ok (.iaload, 1) := by decide +kernel
theorem dX2_fullestJar_15 : decode cX2_fullestJar 15 = .ok (.invokestatic 80, 3) := by decide +kernel
theorem dX2_fullestJar_18 : decode cX2_fullestJar 18 = .ok (.invokestatic 71, 3) := by decide +kernel
theorem dX2_fullestJar_21 : decode cX2_fullestJar 21 = .ok (.ireturn, 1) := by decide +kernel
theorem dX2_difference_0 : decode cX2_difference 0 = .ok (.aload_n 0, 1) := by decide +kernel
theorem dX2_difference_1 : decode cX2_difference 1 = .ok (.getfield 18, 3) := by decide +kernel
theorem dX2_difference_4 : decode cX2_difference 4 = .ok (.iconst 0, 1) := by decide +kernel
theorem dX2_difference_5 : decode cX2_difference 5 = .ok (.iaload, 1) := by decide +kernel
theorem dX2_difference_6 : decode cX2_difference 6 = .ok (.aload_n 0, 1) := by decide +kernel
theorem dX2_difference_7 : decode cX2_difference 7 = .ok (.getfield 18, 3) := by decide +kernel
theorem dX2_difference_10 : decode cX2_difference 10 = .ok (.iconst 1, 1) := by decide +kernel
theorem dX2_difference_11 : decode cX2_difference 11 = .ok (.iaload, 1) := by decide +kernel
theorem dX2_difference_12 : decode cX2_difference 12 = .ok (.isub, 1) := by decide +kernel
theorem dX2_difference_13 : decode cX2_difference 13 = .ok (.invokestatic 80, 3) := by decide +kernel
theorem dX2_difference_16 : decode cX2_difference 16 = .ok (.ireturn, 1) := by decide +kernel
theorem dX2_sign_0 : decode cX2_sign 0 = .ok (.aload_n 0, 1) := by decide +kernel
theorem dX2_sign_1 : decode cX2_sign 1 = .ok (.getfield 18, 3) := by decide +kernel
theorem dX2_sign_4 : decode cX2_sign 4 = .ok (.iconst 0, 1) := by decide +kernel
theorem dX2_sign_5 : decode cX2_sign 5 = .ok (.iaload, 1) := by decide +kernel
theorem dX2_sign_6 : decode cX2_sign 6 = .ok (.aload_n 0, 1) := by decide +kernel
theorem dX2_sign_7 : decode cX2_sign 7 = .ok (.getfield 18, 3) := by decide +kernel
theorem dX2_sign_10 : decode cX2_sign 10 = .ok (.iconst 1, 1) := by decide +kernel
theorem dX2_sign_11 : decode cX2_sign 11 = .ok (.iaload, 1) := by decide +kernel
theorem dX2_sign_12 : decode cX2_sign 12 = .ok (.isub, 1) := by decide +kernel
theorem dX2_sign_13 : decode cX2_sign 13 = .ok (.invokestatic 66, 3) := by decide +kernel
theorem dX2_sign_16 : decode cX2_sign 16 = .ok (.ireturn, 1) := by decide +kernel
theorem dX2_hasTurnsLeft_0 : decode cX2_hasTurnsLeft 0 = .ok (.aload_n 0, 1) := by decide +kernel
theorem dX2_hasTurnsLeft_1 : decode cX2_hasTurnsLeft 1 = .ok (.getfield 34, 3) := by decide +kernel
theorem dX2_hasTurnsLeft_4 : decode cX2_hasTurnsLeft 4 = .ok (.iload_n 1, 1) := by decide +kernel
theorem dX2_hasTurnsLeft_5 : decode cX2_hasTurnsLeft 5 = .ok (.iadd, 1) := by decide +kernel
theorem dX2_hasTurnsLeft_6 : decode cX2_hasTurnsLeft 6 = .ok (.ldc 83, 2) := by decide +kernel
theorem dX2_hasTurnsLeft_8 : decode cX2_hasTurnsLeft 8 = .ok (.if_icmp .gt 7, 3) := by decide +kernel
theorem dX2_hasTurnsLeft_11 : decode cX2_hasTurnsLeft 11 = .ok (.iconst 1, 1) := by decide +kernel
theorem dX2_hasTurnsLeft_12 : decode cX2_hasTurnsLeft 12 = .ok (.goto 4, 3) := by decide +kernel
theorem dX2_hasTurnsLeft_15 : decode cX2_hasTurnsLeft 15 = .ok (.iconst 0, 1) := by decide +kernel
theorem dX2_hasTurnsLeft_16 : decode cX2_hasTurnsLeft 16 = .ok (.ireturn, 1) := by decide +kernel
theorem dX2_putCharge_0 : decode cX2_putCharge 0 = .ok (.iload_n 1, 1) := by decide +kernel
theorem dX2_putCharge_1 : decode cX2_putCharge 1 = .ok (.iload_n 2, 1) := by decide +kernel
theorem dX2_putCharge_2 : decode cX2_putCharge 2 = .ok (.aload_n 0, 1) := by decide +kernel
theorem dX2_putCharge_3 : decode cX2_putCharge 3 = .ok (.getfield 34, 3) := by decide +kernel
theorem dX2_putCharge_6 : decode cX2_putCharge 6 = .ok (.invokestatic 84, 3) := by decide +kernel
theorem dX2_putCharge_9 : decode cX2_putCharge 9 = .ok (.istore 4, 2) := by decide +kernel
theorem dX2_putCharge_11 : decode cX2_putCharge 11 = .ok (.aload_n 0, 1) := by decide +kernel
theorem dX2_putCharge_12 : decode cX2_putCharge 12 = .ok (.getfield 15, 3) := by decide +kernel
theorem dX2_putCharge_15 : decode cX2_putCharge 15 = .ok (.iload 4, 2) := by decide +kernel
theorem dX2_putCharge_17 : decode cX2_putCharge 17 = .ok (.iaload, 1) := by decide +kernel
theorem dX2_putCharge_18 : decode cX2_putCharge 18 = .ok (.istore 5, 2) := by decide +kernel
theorem dX2_putCharge_20 : decode cX2_putCharge 20 = .ok (.aload_n 0, 1) := by decide +kernel
theorem dX2_putCharge_21 : decode cX2_putCharge 21 = .ok (.getfield 15, 3) := by decide +kernel
theorem dX2_putCharge_24 : decode cX2_putCharge 24 = .ok (.iload 4, 2) := by decide +kernel
theorem dX2_putCharge_26 : decode cX2_putCharge 26 = .ok (.iload_n 3, 1) := by decide +kernel
theorem dX2_putCharge_27 : decode cX2_putCharge 27 = .ok (.iastore, 1) := by decide +kernel
theorem dX2_putCharge_28 : decode cX2_putCharge 28 = .ok (.aload_n 0, 1) := by decide +kernel
theorem dX2_putCharge_29 : decode cX2_putCharge 29 = .ok (.dup, 1) := by decide +kernel
theorem dX2_putCharge_30 : decode cX2_putCharge 30 = .ok (.getfield 50, 3) := by decide +kernel
theorem dX2_putCharge_33 : decode cX2_putCharge 33 = .ok (.iload_n 3, 1) := by decide +kernel
theorem dX2_putCharge_34 : decode cX2_putCharge 34 = .ok (.iload 5, 2) := by decide +kernel
theorem dX2_putCharge_36 : decode cX2_putCharge 36 = .ok (.isub, 1) := by decide +kernel
theorem dX2_putCharge_37 : decode cX2_putCharge 37 = .ok (.iadd, 1) := by decide +kernel
theorem dX2_putCharge_38 : decode cX2_putCharge 38 = .ok (.putfield 50, 3) := by decide +kernel
theorem dX2_putCharge_41 : decode cX2_putCharge 41 = .ok (.iload 5, 2) := by decide +kernel
theorem dX2_putCharge_43 : decode cX2_putCharge 43 = .ok (.ireturn, 1) := by decide +kernel
theorem dX2_emptyJars_0 : decode cX2_emptyJars 0 = .ok (.aload_n 0, 1) := by decide +kernel
theorem dX2_emptyJars_1 : decode cX2_emptyJars 1 = .ok (.invokevirtual 88, 3) := by decide +kernel
theorem dX2_emptyJars_4 : decode cX2_emptyJars 4 = .ok (.istore_n 1, 1) := by decide +kernel
theorem dX2_emptyJars_5 : decode cX2_emptyJars 5 = .ok (.aload_n 0, 1) := by decide +kernel
theorem dX2_emptyJars_6 : decode cX2_emptyJars 6 = .ok (.dup, 1) := by decide +kernel
theorem dX2_emptyJars_7 : decode cX2_emptyJars 7 = .ok (.getfield 53, 3) := by decide +kernel
theorem dX2_emptyJars_10 : decode cX2_emptyJars 10 = .ok (.aload_n 0, 1) := by decide +kernel
theorem dX2_emptyJars_11 : decode cX2_emptyJars 11 = .ok (.getfield 18, 3) := by decide +kernel
theorem dX2_emptyJars_14 : decode cX2_emptyJars 14 = .ok (.iconst 0, 1) := by decide +kernel
theorem dX2_emptyJars_15 : decode cX2_emptyJars 15 = .ok (.iaload, 1) := by decide +kernel
theorem dX2_emptyJars_16 : decode cX2_emptyJars 16 = .ok (.aload_n 0, 1) := by decide +kernel
theorem dX2_emptyJars_17 : decode cX2_emptyJars 17 = .ok (.getfield 18, 3) := by decide +kernel
theorem dX2_emptyJars_20 : decode cX2_emptyJars 20 = .ok (.iconst 1, 1) := by decide +kernel
theorem dX2_emptyJars_21 : decode cX2_emptyJars 21 = .ok (.iaload, 1) := by decide +kernel
theorem dX2_emptyJars_22 : decode cX2_emptyJars 22 = .ok (.iadd, 1) := by decide +kernel
theorem dX2_emptyJars_23 : decode cX2_emptyJars 23 = .ok (.iadd, 1) := by decide +kernel
theorem dX2_emptyJars_24 : decode cX2_emptyJars 24 = .ok (.putfield 53, 3) := by decide +kernel
theorem dX2_emptyJars_27 : decode cX2_emptyJars 27 = .ok (.aload_n 0, 1) := by decide +kernel
theorem dX2_emptyJars_28 : decode cX2_emptyJars 28 = .ok (.getfield 18, 3) := by decide +kernel
theorem dX2_emptyJars_31 : decode cX2_emptyJars 31 = .ok (.iconst 0, 1) := by decide +kernel
theorem dX2_emptyJars_32 : decode cX2_emptyJars 32 = .ok (.iconst 0, 1) := by decide +kernel
theorem dX2_emptyJars_33 : decode cX2_emptyJars 33 = .ok (.iastore, 1) := by decide +kernel
theorem dX2_emptyJars_34 : decode cX2_emptyJars 34 = .ok (.aload_n 0, 1) := by decide +kernel
theorem dX2_emptyJars_35 : decode cX2_emptyJars 35 = .ok (.getfield 18, 3) := by decide +kernel
theorem dX2_emptyJars_38 : decode cX2_emptyJars 38 = .ok (.iconst 1, 1) := by decide +kernel
theorem dX2_emptyJars_39 : decode cX2_emptyJars 39 = .ok (.iconst 0, 1) := by decide +kernel
theorem dX2_emptyJars_40 : decode cX2_emptyJars 40 = .ok (.iastore, 1) := by decide +kernel
theorem dX2_emptyJars_41 : decode cX2_emptyJars 41 = .ok (.iload_n 1, 1) := by decide +kernel
theorem dX2_emptyJars_42 : decode cX2_emptyJars 42 = .ok (.ireturn, 1) := by decide +kernel
theorem dX2_emptySectors_0 : decode cX2_emptySectors 0 = .ok (.aload_n 0, 1) := by decide +kernel
theorem dX2_emptySectors_1 : decode cX2_emptySectors 1 = .ok (.iload_n 1, 1) := by decide +kernel
theorem dX2_emptySectors_2 : decode cX2_emptySectors 2 = .ok (.iconst 1, 1) := by decide +kernel
theorem dX2_emptySectors_3 : decode cX2_emptySectors 3 = .ok (.invokevirtual 92, 3) := by decide +kernel
theorem dX2_emptySectors_6 : decode cX2_emptySectors 6 = .ok (.aload_n 0, 1) := by decide +kernel
theorem dX2_emptySectors_7 : decode cX2_emptySectors 7 = .ok (.iload_n 1, 1) := by decide +kernel
theorem dX2_emptySectors_8 : decode cX2_emptySectors 8 = .ok (.iconst (-1), 1) := by decide +kernel
theorem dX2_emptySectors_9 : decode cX2_emptySectors 9 = .ok (.invokevirtual 92, 3) := by decide +kernel
theorem dX2_emptySectors_12 : decode cX2_emptySectors 12 = .ok (.iadd, 1) := by decide +kernel
theorem dX2_emptySectors_13 : decode cX2_emptySectors 13 = .ok (.istore_n 2, 1) := by decide +kernel
theorem dX2_emptySectors_14 : decode cX2_emptySectors 14 = .ok (.aload_n 0, 1) := by decide +kernel
theorem dX2_emptySectors_15 : decode cX2_emptySectors 15 = .ok (.dup, 1) := by decide +kernel
theorem dX2_emptySectors_16 : decode cX2_emptySectors 16 = .ok (.getfield 53, 3) := by decide +kernel
theorem dX2_emptySectors_19 : decode cX2_emptySectors 19 = .ok (.aload_n 0, 1) := by decide +kernel
theorem dX2_emptySectors_20 : decode cX2_emptySectors 20 = .ok (.iload_n 1, 1) := by decide +kernel
theorem dX2_emptySectors_21 : decode cX2_emptySectors 21 = .ok (.invokevirtual 77, 3) := by decide +kernel
theorem dX2_emptySectors_24 : decode cX2_emptySectors 24 = .ok (.iadd, 1) := by decide +kernel
theorem dX2_emptySectors_25 : decode cX2_emptySectors 25 = .ok (.putfield 53, 3) := by decide +kernel
theorem dX2_emptySectors_28 : decode cX2_emptySectors 28 = .ok (.iload_n 1, 1) := by decide +kernel
theorem dX2_emptySectors_29 : decode cX2_emptySectors 29 = .ok (.invokestatic 62, 3) := by decide +kernel
theorem dX2_emptySectors_32 : decode cX2_emptySectors 32 = .ok (.istore_n 3, 1) := by decide +kernel
theorem dX2_emptySectors_33 : decode cX2_emptySectors 33 = .ok (.iload_n 3, 1) := by decide +kernel
theorem dX2_emptySectors_34 : decode cX2_emptySectors 34 = .ok (.istore 4, 2) := by decide +kernel
theorem dX2_emptySectors_36 : decode cX2_emptySectors 36 = .ok (.iload 4, 2) := by decide +kernel
theorem dX2_emptySectors_38 : decode cX2_emptySectors 38 = .ok (.iload_n 3, 1) := by decide +kernel
theorem dX2_emptySectors_39 : decode cX2_emptySectors 39 = .ok (.bipush 12, 2) := by decide +kernel
theorem dX2_emptySectors_41 : decode cX2_emptySectors 41 = .ok (.iadd, 1) := by decide +kernel
theorem dX2_emptySectors_42 : decode cX2_emptySectors 42 = .ok (.if_icmp .ge 17, 3) := by decide +kernel
theorem dX2_emptySectors_45 : decode cX2_emptySectors 45 = .ok (.aload_n 0, 1) := by decide +kernel
theorem dX2_emptySectors_46 : decode cX2_emptySectors 46 = .ok (.getfield 15, 3) := by decide +kernel
theorem dX2_emptySectors_49 : decode cX2_emptySectors 49 = .ok (.iload 4, 2) := by decide +kernel
theorem dX2_emptySectors_51 : decode cX2_emptySectors 51 = .ok (.iconst 0, 1) := by decide +kernel
theorem dX2_emptySectors_52 : decode cX2_emptySectors 52 = .ok (.iastore, 1) := by decide +kernel
theorem dX2_emptySectors_53 : decode cX2_emptySectors 53 = .ok (.iinc 4 1, 3) := by decide +kernel
theorem dX2_emptySectors_56 : decode cX2_emptySectors 56 = .ok (.goto (-20), 3) := by decide +kernel
theorem dX2_emptySectors_59 : decode cX2_emptySectors 59 = .ok (.iload_n 2, 1) := by decide +kernel
theorem dX2_emptySectors_60 : decode cX2_emptySectors 60 = .ok (.ireturn, 1) := by decide +kernel
theorem dX2_turnHandle_0 : decode cX2_turnHandle 0 = .ok (.aload_n 0, 1) := by decide +kernel
theorem dX2_turnHandle_1 : decode cX2_turnHandle 1 = .ok (.getfield 38, 3) := by decide +kernel
theorem dX2_turnHandle_4 : decode cX2_turnHandle 4 = .ok (.istore_n 2, 1) := by decide +kernel
theorem dX2_turnHandle_5 : decode cX2_turnHandle 5 = .ok (.iconst 0, 1) := by decide +kernel
theorem dX2_turnHandle_6 : decode cX2_turnHandle 6 = .ok (.istore_n 3, 1) := by decide +kernel
theorem dX2_turnHandle_7 : decode cX2_turnHandle 7 = .ok (.iload_n 3, 1) := by decide +kernel
theorem dX2_turnHandle_8 : decode cX2_turnHandle 8 = .ok (.iload_n 1, 1) := by decide +kernel
theorem dX2_turnHandle_9 : decode cX2_turnHandle 9 = .ok (.if_icmp .ge 13, 3) := by decide +kernel
theorem dX2_turnHandle_12 : decode cX2_turnHandle 12 = .ok (.aload_n 0, 1) := by decide +kernel
theorem dX2_turnHandle_13 : decode cX2_turnHandle 13 = .ok (.invokevirtual 95, 3) := by decide +kernel
theorem dX2_turnHandle_16 : decode cX2_turnHandle 16 = .ok (.iinc 3 1, 3) := by decide +kernel
theorem dX2_turnHandle_19 : decode cX2_turnHandle 19 = .ok (.goto (-12), 3) := by decide +kernel
theorem dX2_turnHandle_22 : decode cX2_turnHandle 22 = .ok (.aload_n 0, 1) := by decide +kernel
theorem dX2_turnHandle_23 : decode cX2_turnHandle 23 = .ok (.getfield 38, 3) := by decide +kernel
theorem dX2_turnHandle_26 : decode cX2_turnHandle 26 = .ok (.iload_n 2, 1) := by decide +kernel
theorem dX2_turnHandle_27 : decode cX2_turnHandle 27 = .ok (.isub, 1) := by decide +kernel
theorem dX2_turnHandle_28 : decode cX2_turnHandle 28 = .ok (.ireturn, 1) := by decide +kernel
theorem dX2_turnToGreatestDifference_0 : decode cX2_turnToGreatestDifference 0 = .ok (.iconst 0, 1) := by decide +kernel
theorem dX2_turnToGreatestDifference_1 : decode cX2_turnToGreatestDifference 1 = .ok (.istore_n 2, 1) := by decide +kernel
theorem dX2_turnToGreatestDifference_2 : decode cX2_turnToGreatestDifference 2 = .ok (.iconst 0, 1) := by decide +kernel
theorem dX2_turnToGreatestDifference_3 : decode cX2_turnToGreatestDifference 3 = .ok (.istore_n 3, 1) := by decide +kernel
theorem dX2_turnToGreatestDifference_4 : decode cX2_turnToGreatestDifference 4 = .ok (.iload_n 3, 1) := by decide +kernel
theorem dX2_turnToGreatestDifference_5 : decode cX2_turnToGreatestDifference 5 = .ok (.iload_n 1, 1) := by decide +kernel
theorem dX2_turnToGreatestDifference_6 : decode cX2_turnToGreatestDifference 6 = .ok (.if_icmp .ge 22, 3) := by decide +kernel
theorem dX2_turnToGreatestDifference_9 : decode cX2_turnToGreatestDifference 9 = .ok (.aload_n 0, 1) := by decide +kernel
theorem dX2_turnToGreatestDifference_10 : decode cX2_turnToGreatestDifference 10 = .ok (.invokevirtual 95, 3) := by decide +kernel
theorem dX2_turnToGreatestDifference_13 : decode cX2_turnToGreatestDifference 13 = .ok (.iload_n 2, 1) := by decide +kernel
theorem dX2_turnToGreatestDifference_14 : decode cX2_turnToGreatestDifference 14 = .ok (.aload_n 0, 1) := by decide +kernel
theorem dX2_turnToGreatestDifference_15 : decode cX2_turnToGreatestDifference 15 = .ok (.invokevirtual 88, 3) := by decide +kernel
theorem dX2_turnToGreatestDifference_18 : decode cX2_turnToGreatestDifference 18 = .ok (.invokestatic 71, 3) := by decide +kernel
theorem dX2_turnToGreatestDifference_21 : decode cX2_turnToGreatestDifference 21 = .ok (.istore_n 2, 1) := by decide +kernel
theorem dX2_turnToGreatestDifference_22 : decode cX2_turnToGreatestDifference 22 = .ok (.iinc 3 1, 3) := by decide +kernel
theorem dX2_turnToGreatestDifference_25 : decode cX2_turnToGreatestDifference 25 = .ok (.goto (-21), 3) := by decide +kernel
theorem dX2_turnToGreatestDifference_28 : decode cX2_turnToGreatestDifference 28 = .ok (.iload_n 2, 1) := by decide +kernel
theorem dX2_turnToGreatestDifference_29 : decode cX2_turnToGreatestDifference 29 = .ok (.ireturn, 1) := by decide +kernel
theorem dX2_turnToSpark_0 : decode cX2_turnToSpark 0 = .ok (.iconst 1, 1) := by decide +kernel
theorem dX2_turnToSpark_1 : decode cX2_turnToSpark 1 = .ok (.istore_n 2, 1) := by decide +kernel
theorem dX2_turnToSpark_2 : decode cX2_turnToSpark 2 = .ok (.iload_n 2, 1) := by decide +kernel
theorem dX2_turnToSpark_3 : decode cX2_turnToSpark 3 = .ok (.iload_n 1, 1) := by decide +kernel
theorem dX2_turnToSpark_4 : decode cX2_turnToSpark 4 = .ok (.if_icmp .gt 22, 3) := by decide +kernel
theorem dX2_turnToSpark_7 : decode cX2_turnToSpark 7 = .ok (.aload_n 0, 1) := by decide +kernel
theorem dX2_turnToSpark_8 : decode cX2_turnToSpark 8 = .ok (.invokevirtual 98, 3) := by decide +kernel
theorem dX2_turnToSpark_11 : decode cX2_turnToSpark 11 = .ok (.aload_n 0, 1) := by decide +kernel
theorem dX2_turnToSpark_12 : decode cX2_turnToSpark 12 = .ok (.invokevirtual 101, 3) := by decide +kernel
theorem dX2_turnToSpark_15 : decode cX2_turnToSpark 15 = .ok (.ifCond .eq 5, 3) := by decide +kernel
theorem dX2_turnToSpark_18 : decode cX2_turnToSpark 18 = .ok (.iload_n 2, 1) := by decide +kernel
theorem dX2_turnToSpark_19 : decode cX2_turnToSpark 19 = .ok (.ireturn, 1) := by decide +kernel
theorem dX2_turnToSpark_20 : decode cX2_turnToSpark 20 = .ok (.iinc 2 1, 3) := by decide +kernel
theorem dX2_turnToSpark_23 : decode cX2_turnToSpark 23 = .ok (.goto (-21), 3) := by decide +kernel
theorem dX2_turnToSpark_26 : decode cX2_turnToSpark 26 = .ok (.ldc 105, 2) := by decide +kernel
theorem dX2_turnToSpark_28 : decode cX2_turnToSpark 28 = .ok (.ireturn, 1) := by decide +kernel
theorem dX2_turnOnce_0 : decode cX2_turnOnce 0 = .ok (.aload_n 0, 1) := by decide +kernel
theorem dX2_turnOnce_1 : decode cX2_turnOnce 1 = .ok (.invokevirtual 98, 3) := by decide +kernel
theorem dX2_turnOnce_4 : decode cX2_turnOnce 4 = .ok (.aload_n 0, 1) := by decide +kernel
theorem dX2_turnOnce_5 : decode cX2_turnOnce 5 = .ok (.invokevirtual 101, 3) := by decide +kernel
theorem dX2_turnOnce_8 : decode cX2_turnOnce 8 = .ok (.ifCond .eq 7, 3) := by decide +kernel
theorem dX2_turnOnce_11 : decode cX2_turnOnce 11 = .ok (.aload_n 0, 1) := by decide +kernel
theorem dX2_turnOnce_12 : decode cX2_turnOnce 12 = .ok (.invokevirtual 106, 3) := by decide +kernel
theorem dX2_turnOnce_15 : decode cX2_turnOnce 15 = .ok (.aload_n 0, 1) := by decide +kernel
theorem dX2_turnOnce_16 : decode cX2_turnOnce 16 = .ok (.invokevirtual 109, 3) := by decide +kernel
theorem dX2_turnOnce_19 : decode cX2_turnOnce 19 = .ok (.return_, 1) := by decide +kernel
theorem dX2_turnAheadOfSpark_0 : decode cX2_turnAheadOfSpark 0 = .ok (.aload_n 0, 1) := by decide +kernel
theorem dX2_turnAheadOfSpark_1 : decode cX2_turnAheadOfSpark 1 = .ok (.dup, 1) := by decide +kernel
theorem dX2_turnAheadOfSpark_2 : decode cX2_turnAheadOfSpark 2 = .ok (.getfield 34, 3) := by decide +kernel
theorem dX2_turnAheadOfSpark_5 : decode cX2_turnAheadOfSpark 5 = .ok (.iconst 1, 1) := by decide +kernel
theorem dX2_turnAheadOfSpark_6 : decode cX2_turnAheadOfSpark 6 = .ok (.iadd, 1) := by decide +kernel
theorem dX2_turnAheadOfSpark_7 : decode cX2_turnAheadOfSpark 7 = .ok (.putfield 34, 3) := by decide +kernel
theorem dX2_turnAheadOfSpark_10 : decode cX2_turnAheadOfSpark 10 = .ok (.aload_n 0, 1) := by decide +kernel
theorem dX2_turnAheadOfSpark_11 : decode cX2_turnAheadOfSpark 11 = .ok (.iconst 0, 1) := by decide +kernel
theorem dX2_turnAheadOfSpark_12 : decode cX2_turnAheadOfSpark 12 = .ok (.iconst 2, 1) := by decide +kernel
theorem dX2_turnAheadOfSpark_13 : decode cX2_turnAheadOfSpark 13 = .ok (.bipush 8, 2) := by decide +kernel
theorem dX2_turnAheadOfSpark_15 : decode cX2_turnAheadOfSpark 15 = .ok (.invokevirtual 112, 3) := by decide +kernel
theorem dX2_turnAheadOfSpark_18 : decode cX2_turnAheadOfSpark 18 = .ok (.aload_n 0, 1) := by decide +kernel
theorem dX2_turnAheadOfSpark_19 : decode cX2_turnAheadOfSpark 19 = .ok (.iconst 1, 1) := by decide +kernel
theorem dX2_turnAheadOfSpark_20 : decode cX2_turnAheadOfSpark 20 = .ok (.iconst 4, 1) := by decide +kernel
theorem dX2_turnAheadOfSpark_21 : decode cX2_turnAheadOfSpark 21 = .ok (.bipush 10, 2) := by decide +kernel
theorem dX2_turnAheadOfSpark_23 : decode cX2_turnAheadOfSpark 23 = .ok (.invokevirtual 112, 3) := by decide +kernel
theorem dX2_turnAheadOfSpark_26 : decode cX2_turnAheadOfSpark 26 = .ok (.aload_n 0, 1) := by decide +kernel
theorem dX2_turnAheadOfSpark_27 : decode cX2_turnAheadOfSpark 27 = .ok (.iconst 0, 1) := by decide +kernel
theorem dX2_turnAheadOfSpark_28 : decode cX2_turnAheadOfSpark 28 = .ok (.iconst 0, 1) := by decide +kernel
theorem dX2_turnAheadOfSpark_29 : decode cX2_turnAheadOfSpark 29 = .ok (.invokevirtual 116, 3) := by decide +kernel
theorem dX2_turnAheadOfSpark_32 : decode cX2_turnAheadOfSpark 32 = .ok (.aload_n 0, 1) := by decide +kernel
theorem dX2_turnAheadOfSpark_33 : decode cX2_turnAheadOfSpark 33 = .ok (.iconst 1, 1) := by decide +kernel
theorem dX2_turnAheadOfSpark_34 : decode cX2_turnAheadOfSpark 34 = .ok (.bipush 6, 2) := by decide +kernel
theorem dX2_turnAheadOfSpark_36 : decode cX2_turnAheadOfSpark 36 = .ok (.invokevirtual 116, 3) := by decide +kernel
theorem dX2_turnAheadOfSpark_39 : decode cX2_turnAheadOfSpark 39 = .ok (.aload_n 0, 1) := by decide +kernel
theorem dX2_turnAheadOfSpark_40 : decode cX2_turnAheadOfSpark 40 = .ok (.invokevirtual 120, 3) := by decide +kernel
theorem dX2_turnAheadOfSpark_43 : decode cX2_turnAheadOfSpark 43 = .ok (.aload_n 0, 1) := by decide +kernel
theorem dX2_turnAheadOfSpark_44 : decode cX2_turnAheadOfSpark 44 = .ok (.iconst 0, 1) := by decide +kernel
theorem dX2_turnAheadOfSpark_45 : decode cX2_turnAheadOfSpark 45 = .ok (.invokevirtual 123, 3) := by decide +kernel
theorem dX2_turnAheadOfSpark_48 : decode cX2_turnAheadOfSpark 48 = .ok (.aload_n 0, 1) := by decide +kernel
theorem dX2_turnAheadOfSpark_49 : decode cX2_turnAheadOfSpark 49 = .ok (.iconst 1, 1) := by decide +kernel
theorem dX2_turnAheadOfSpark_50 : decode cX2_turnAheadOfSpark 50 = .ok (.invokevirtual 123, 3) := by decide +kernel
theorem dX2_turnAheadOfSpark_53 : decode cX2_turnAheadOfSpark 53 = .ok (.return_, 1) := by decide +kernel
theorem dX2_join_0 : decode cX2_join 0 = .ok (.iload_n 1, 1) := by decide +kernel
theorem dX2_join_1 : decode cX2_join 1 = .ok (.iload_n 2, 1) := by decide +kernel
theorem dX2_join_2 : decode cX2_join 2 = .ok (.aload_n 0, 1) := by decide +kernel
theorem dX2_join_3 : decode cX2_join 3 = .ok (.getfield 34, 3) := by decide +kernel
theorem dX2_join_6 : decode cX2_join 6 = .ok (.invokestatic 84, 3) := by decide +kernel
theorem dX2_join_9 : decode cX2_join 9 = .ok (.istore 4, 2) := by decide +kernel
theorem dX2_join_11 : decode cX2_join 11 = .ok (.iload_n 1, 1) := by decide +kernel
theorem dX2_join_12 : decode cX2_join 12 = .ok (.iload_n 3, 1) := by decide +kernel
theorem dX2_join_13 : decode cX2_join 13 = .ok (.aload_n 0, 1) := by decide +kernel
theorem dX2_join_14 : decode cX2_join 14 = .ok (.getfield 34, 3) := by decide +kernel
theorem dX2_join_17 : decode cX2_join 17 = .ok (.invokestatic 84, 3) := by decide +kernel
theorem dX2_join_20 : decode cX2_join 20 = .ok (.istore 5, 2) := by decide +kernel
theorem dX2_join_22 : decode cX2_join 22 = .ok (.aload_n 0, 1) := by decide +kernel
theorem dX2_join_23 : decode cX2_join 23 = .ok (.getfield 15, 3) := by decide +kernel
theorem dX2_join_26 : decode cX2_join 26 = .ok (.iload 4, 2) := by decide +kernel
theorem dX2_join_28 : decode cX2_join 28 = .ok (.iaload, 1) := by decide +kernel
theorem dX2_join_29 : decode cX2_join 29 = .ok (.istore 6, 2) := by decide +kernel
theorem dX2_join_31 : decode cX2_join 31 = .ok (.aload_n 0, 1) := by decide +kernel
theorem dX2_join_32 : decode cX2_join 32 = .ok (.getfield 15, 3) := by decide +kernel
theorem dX2_join_35 : decode cX2_join 35 = .ok (.iload 5, 2) := by decide +kernel
theorem dX2_join_37 : decode cX2_join 37 = .ok (.iaload, 1) := by decide +kernel
theorem dX2_join_38 : decode cX2_join 38 = .ok (.istore 7, 2) := by decide +kernel
theorem dX2_join_40 : decode cX2_join 40 = .ok (.aload_n 0, 1) := by decide +kernel
theorem dX2_join_41 : decode cX2_join 41 = .ok (.getfield 15, 3) := by decide +kernel
theorem dX2_join_44 : decode cX2_join 44 = .ok (.iconst 1, 1) := by decide +kernel
theorem dX2_join_45 : decode cX2_join 45 = .ok (.iload_n 1, 1) := by decide +kernel
theorem dX2_join_46 : decode cX2_join 46 = .ok (.isub, 1) := by decide +kernel
theorem dX2_join_47 : decode cX2_join 47 = .ok (.iload_n 2, 1) := by decide +kernel
theorem dX2_join_48 : decode cX2_join 48 = .ok (.aload_n 0, 1) := by decide +kernel
theorem dX2_join_49 : decode cX2_join 49 = .ok (.getfield 34, 3) := by decide +kernel
theorem dX2_join_52 : decode cX2_join 52 = .ok (.invokestatic 84, 3) := by decide +kernel
theorem dX2_join_55 : decode cX2_join 55 = .ok (.iaload, 1) := by decide +kernel
theorem dX2_join_56 : decode cX2_join 56 = .ok (.istore 8, 2) := by decide +kernel
theorem dX2_join_58 : decode cX2_join 58 = .ok (.aload_n 0, 1) := by decide +kernel
theorem dX2_join_59 : decode cX2_join 59 = .ok (.getfield 15, 3) := by decide +kernel
theorem dX2_join_62 : decode cX2_join 62 = .ok (.iconst 1, 1) := by decide +kernel
theorem dX2_join_63 : decode cX2_join 63 = .ok (.iload_n 1, 1) := by decide +kernel
theorem dX2_join_64 : decode cX2_join 64 = .ok (.isub, 1) := by decide +kernel
theorem dX2_join_65 : decode cX2_join 65 = .ok (.iload_n 3, 1) := by decide +kernel
theorem dX2_join_66 : decode cX2_join 66 = .ok (.aload_n 0, 1) := by decide +kernel
theorem dX2_join_67 : decode cX2_join 67 = .ok (.getfield 34, 3) := by decide +kernel
theorem dX2_join_70 : decode cX2_join 70 = .ok (.invokestatic 84, 3) := by decide +kernel
theorem dX2_join_73 : decode cX2_join 73 = .ok (.iaload, 1) := by decide +kernel
theorem dX2_join_74 : decode cX2_join 74 = .ok (.istore 9, 2) := by decide +kernel
theorem dX2_join_76 : decode cX2_join 76 = .ok (.iload 6, 2) := by decide +kernel
theorem dX2_join_78 : decode cX2_join 78 = .ok (.iload 7, 2) := by decide +kernel
theorem dX2_join_80 : decode cX2_join 80 = .ok (.iadd, 1) := by decide +kernel
theorem dX2_join_81 : decode cX2_join 81 = .ok (.iconst 2, 1) := by decide +kernel
theorem dX2_join_82 : decode cX2_join 82 = .ok (.idiv, 1) := by decide +kernel
theorem dX2_join_83 : decode cX2_join 83 = .ok (.iload 9, 2) := by decide +kernel
theorem dX2_join_85 : decode cX2_join 85 = .ok (.iload 8, 2) := by decide +kernel
theorem dX2_join_87 : decode cX2_join 87 = .ok (.isub, 1) := by decide +kernel
theorem dX2_join_88 : decode cX2_join 88 = .ok (.aload_n 0, 1) := by decide +kernel
theorem dX2_join_89 : decode cX2_join 89 = .ok (.getfield 9, 3) := by decide +kernel
theorem dX2_join_92 : decode cX2_join 92 = .ok (.iconst 0, 1) := by decide +kernel
theorem dX2_join_93 : decode cX2_join 93 = .ok (.iaload, 1) := by decide +kernel
theorem dX2_join_94 : decode cX2_join 94 = .ok (.imul, 1) := by decide +kernel
theorem dX2_join_95 : decode cX2_join 95 = .ok (.bipush 32, 2) := by decide +kernel
theorem dX2_join_97 : decode cX2_join 97 = .ok (.idiv, 1) := by decide +kernel
theorem dX2_join_98 : decode cX2_join 98 = .ok (.iadd, 1) := by decide +kernel
theorem dX2_join_99 : decode cX2_join 99 = .ok (.istore 10, 2) := by decide +kernel
theorem dX2_join_101 : decode cX2_join 101 = .ok (.bipush (-99), 2) := by decide +kernel
theorem dX2_join_103 : decode cX2_join 103 = .ok (.iload 6, 2) := by decide +kernel
theorem dX2_join_105 : decode cX2_join 105 = .ok (.isub, 1) := by decide +kernel
theorem dX2_join_106 : decode cX2_join 106 = .ok (.iload 7, 2) := by decide +kernel
theorem dX2_join_108 : decode cX2_join 108 = .ok (.bipush 99, 2) := by decide +kernel
theorem dX2_join_110 : decode cX2_join 110 = .ok (.isub, 1) := by decide +kernel
theorem dX2_join_111 : decode cX2_join 111 = .ok (.invokestatic 71, 3) := by decide +kernel
theorem dX2_join_114 : decode cX2_join 114 = .ok (.istore 11, 2) := by decide +kernel
theorem dX2_join_116 : decode cX2_join 116 = .ok (.bipush 99, 2) := by decide +kernel
theorem dX2_join_118 : decode cX2_join 118 = .ok (.iload 6, 2) := by decide +kernel
theorem dX2_join_120 : decode cX2_join 120 = .ok (.isub, 1) := by decide +kernel
theorem dX2_join_121 : decode cX2_join 121 = .ok (.iload 7, 2) := by decide +kernel
theorem dX2_join_123 : decode cX2_join 123 = .ok (.bipush 99, 2) := by decide +kernel
theorem dX2_join_125 : decode cX2_join 125 = .ok (.iadd, 1) := by decide +kernel
theorem dX2_join_126 : decode cX2_join 126 = .ok (.invokestatic 74, 3) := by decide +kernel
theorem dX2_join_129 : decode cX2_join 129 = .ok (.istore 12, 2) := by decide +kernel
theorem dX2_join_131 : decode cX2_join 131 = .ok (.iload 10, 2) := by decide +kernel
theorem dX2_join_133 : decode cX2_join 133 = .ok (.iload 6, 2) := by decide +kernel
theorem dX2_join_135 : decode cX2_join 135 = .ok (.isub, 1) := by decide +kernel
theorem dX2_join_136 : decode cX2_join 136 = .ok (.iload 11, 2) := by decide +kernel
theorem dX2_join_138 : decode cX2_join 138 = .ok (.iload 12, 2) := by decide +kernel
theorem dX2_join_140 : decode cX2_join 140 = .ok (.invokestatic 127, 3) := by decide +kernel
theorem dX2_join_143 : decode cX2_join 143 = .ok (.istore 13, 2) := by decide +kernel
theorem dX2_join_145 : decode cX2_join 145 = .ok (.aload_n 0, 1) := by decide +kernel
theorem dX2_join_146 : decode cX2_join 146 = .ok (.getfield 15, 3) := by decide +kernel
theorem dX2_join_149 : decode cX2_join 149 = .ok (.iload 4, 2) := by decide +kernel
theorem dX2_join_151 : decode cX2_join 151 = .ok (.iload 6, 2) := by decide +kernel
theorem dX2_join_153 : decode cX2_join 153 = .ok (.iload 13, 2) := by decide +kernel
theorem dX2_join_155 : decode cX2_join 155 = .ok (.iadd, 1) := by decide +kernel
theorem dX2_join_156 : decode cX2_join 156 = .ok (.iastore, 1) := by decide +kernel
theorem dX2_join_157 : decode cX2_join 157 = .ok (.aload_n 0, 1) := by decide +kernel
theorem dX2_join_158 : decode cX2_join 158 = .ok (.getfield 15, 3) := by decide +kernel
theorem dX2_join_161 : decode cX2_join 161 = .ok (.iload 5, 2) := by decide +kernel
theorem dX2_join_163 : decode cX2_join 163 = .ok (.iload 7, 2) := by decide +kernel
theorem dX2_join_165 : decode cX2_join 165 = .ok (.iload 13, 2) := by decide +kernel
theorem dX2_join_167 : decode cX2_join 167 = .ok (.isub, 1) := by decide +kernel
theorem dX2_join_168 : decode cX2_join 168 = .ok (.iastore, 1) := by decide +kernel
theorem dX2_join_169 : decode cX2_join 169 = .ok (.return_, 1) := by decide +kernel
theorem dX2_gather_0 : decode cX2_gather 0 = .ok (.iconst 0, 1) := by decide +kernel
theorem dX2_gather_1 : decode cX2_gather 1 = .ok (.istore_n 3, 1) := by decide +kernel
theorem dX2_gather_2 : decode cX2_gather 2 = .ok (.iload_n 3, 1) := by decide +kernel
theorem dX2_gather_3 : decode cX2_gather 3 = .ok (.iconst 2, 1) := by decide +kernel
theorem dX2_gather_4 : decode cX2_gather 4 = .ok (.if_icmp .ge 93, 3) := by decide +kernel
theorem dX2_gather_7 : decode cX2_gather 7 = .ok (.iload_n 3, 1) := by decide +kernel
theorem dX2_gather_8 : decode cX2_gather 8 = .ok (.iload_n 2, 1) := by decide +kernel
theorem dX2_gather_9 : decode cX2_gather 9 = .ok (.aload_n 0, 1) := by decide +kernel
theorem dX2_gather_10 : decode cX2_gather 10 = .ok (.getfield 34, 3) := by decide +kernel
theorem dX2_gather_13 : decode cX2_gather 13 = .ok (.invokestatic 84, 3) := by decide +kernel
theorem dX2_gather_16 : decode cX2_gather 16 = .ok (.istore 4, 2) := by decide +kernel
theorem dX2_gather_18 : decode cX2_gather 18 = .ok (.aload_n 0, 1) := by decide +kernel
theorem dX2_gather_19 : decode cX2_gather 19 = .ok (.getfield 9, 3) := by decide +kernel
theorem dX2_gather_22 : decode cX2_gather 22 = .ok (.iconst 4, 1) := by decide +kernel
theorem dX2_gather_23 : decode cX2_gather 23 = .ok (.iaload, 1) := by decide +kernel
theorem dX2_gather_24 : decode cX2_gather 24 = .ok (.istore 5, 2) := by decide +kernel
theorem dX2_gather_26 : decode cX2_gather 26 = .ok (.aload_n 0, 1) := by decide +kernel
theorem dX2_gather_27 : decode cX2_gather 27 = .ok (.getfield 15, 3) := by decide +kernel
theorem dX2_gather_30 : decode cX2_gather 30 = .ok (.iload 4, 2) := by decide +kernel
theorem dX2_gather_32 : decode cX2_gather 32 = .ok (.iaload, 1) := by decide +kernel
theorem dX2_gather_33 : decode cX2_gather 33 = .ok (.iload 5, 2) := by decide +kernel
theorem dX2_gather_35 : decode cX2_gather 35 = .ok (.ineg, 1) := by decide +kernel
theorem dX2_gather_36 : decode cX2_gather 36 = .ok (.aload_n 0, 1) := by decide +kernel
theorem dX2_gather_37 : decode cX2_gather 37 = .ok (.getfield 18, 3) := by decide +kernel
theorem dX2_gather_40 : decode cX2_gather 40 = .ok (.iload_n 1, 1) := by decide +kernel
theorem dX2_gather_41 : decode cX2_gather 41 = .ok (.iaload, 1) := by decide +kernel
theorem dX2_gather_42 : decode cX2_gather 42 = .ok (.isub, 1) := by decide +kernel
theorem dX2_gather_43 : decode cX2_gather 43 = .ok (.iload 5, 2) := by decide +kernel
theorem dX2_gather_45 : decode cX2_gather 45 = .ok (.aload_n 0, 1) := by decide +kernel
theorem dX2_gather_46 : decode cX2_gather 46 = .ok (.getfield 18, 3) := by decide +kernel
theorem dX2_gather_49 : decode cX2_gather 49 = .ok (.iload_n 1, 1) := by decide +kernel
theorem dX2_gather_50 : decode cX2_gather 50 = .ok (.iaload, 1) := by decide +kernel
theorem dX2_gather_51 : decode cX2_gather 51 = .ok (.isub, 1) := by decide +kernel
theorem dX2_gather_52 : decode cX2_gather 52 = .ok (.invokestatic 127, 3) := by decide +kernel
theorem dX2_gather_55 : decode cX2_gather 55 = .ok (.istore 6, 2) := by decide +kernel
theorem dX2_gather_57 : decode cX2_gather 57 = .ok (.aload_n 0, 1) := by decide +kernel
theorem dX2_gather_58 : decode cX2_gather 58 = .ok (.getfield 15, 3) := by decide +kernel
theorem dX2_gather_61 : decode cX2_gather 61 = .ok (.iload 4, 2) := by decide +kernel
theorem dX2_gather_63 : decode cX2_gather 63 = .ok (.dup2, 1) := by decide +kernel
theorem dX2_gather_64 : decode cX2_gather 64 = .ok (.iaload, 1) := by decide +kernel
theorem dX2_gather_65 : decode cX2_gather 65 = .ok (.iload 6, 2) := by decide +kernel
theorem dX2_gather_67 : decode cX2_gather 67 = .ok (.isub, 1) := by decide +kernel
theorem dX2_gather_68 : decode cX2_gather 68 = .ok (.iastore, 1) := by decide +kernel
theorem dX2_gather_69 : decode cX2_gather 69 = .ok (.aload_n 0, 1) := by decide +kernel
theorem dX2_gather_70 : decode cX2_gather 70 = .ok (.getfield 18, 3) := by decide +kernel
theorem dX2_gather_73 : decode cX2_gather 73 = .ok (.iload_n 1, 1) := by decide +kernel
theorem dX2_gather_74 : decode cX2_gather 74 = .ok (.dup2, 1) := by decide +kernel
theorem dX2_gather_75 : decode cX2_gather 75 = .ok (.iaload, 1) := by decide +kernel
theorem dX2_gather_76 : decode cX2_gather 76 = .ok (.iload 6, 2) := by decide +kernel
theorem dX2_gather_78 : decode cX2_gather 78 = .ok (.iadd, 1) := by decide +kernel
theorem dX2_gather_79 : decode cX2_gather 79 = .ok (.iastore, 1) := by decide +kernel
theorem dX2_gather_80 : decode cX2_gather 80 = .ok (.aload_n 0, 1) := by decide +kernel
theorem dX2_gather_81 : decode cX2_gather 81 = .ok (.getfield 21, 3) := by decide +kernel
theorem dX2_gather_84 : decode cX2_gather 84 = .ok (.iload_n 1, 1) := by decide +kernel
theorem dX2_gather_85 : decode cX2_gather 85 = .ok (.dup2, 1) := by decide +kernel
theorem dX2_gather_86 : decode cX2_gather 86 = .ok (.iaload, 1) := by decide +kernel
theorem dX2_gather_87 : decode cX2_gather 87 = .ok (.iload 6, 2) := by decide +kernel
theorem dX2_gather_89 : decode cX2_gather 89 = .ok (.iadd, 1) := by decide +kernel
theorem dX2_gather_90 : decode cX2_gather 90 = .ok (.iastore, 1) := by decide +kernel
theorem dX2_gather_91 : decode cX2_gather 91 = .ok (.iinc 3 1, 3) := by decide +kernel
theorem dX2_gather_94 : decode cX2_gather 94 = .ok (.goto (-92), 3) := by decide +kernel
theorem dX2_gather_97 : decode cX2_gather 97 = .ok (.return_, 1) := by decide +kernel
theorem dX2_leakFromSectors_0 : decode cX2_leakFromSectors 0 = .ok (.iconst 0, 1) := by decide +kernel
theorem dX2_leakFromSectors_1 : decode cX2_leakFromSectors 1 = .ok (.istore_n 1, 1) := by decide +kernel
theorem dX2_leakFromSectors_2 : decode cX2_leakFromSectors 2 = .ok (.iload_n 1, 1) := by decide +kernel
theorem dX2_leakFromSectors_3 : decode cX2_leakFromSectors 3 = .ok (.aload_n 0, 1) := by decide +kernel
theorem dX2_leakFromSectors_4 : decode cX2_leakFromSectors 4 = .ok (.getfield 15, 3) := by decide +kernel
theorem dX2_leakFromSectors_7 : decode cX2_leakFromSectors 7 = .ok (.arraylength, 1) := by decide +kernel
theorem dX2_leakFromSectors_8 : decode cX2_leakFromSectors 8 = .ok (.if_icmp .ge 46, 3) := by decide +kernel
theorem dX2_leakFromSectors_11 : decode cX2_leakFromSectors 11 = .ok (.aload_n 0, 1) := by decide +kernel
theorem dX2_leakFromSectors_12 : decode cX2_leakFromSectors 12 = .ok (.getfield 15, 3) := by decide +kernel
theorem dX2_leakFromSectors_15 : decode cX2_leakFromSectors 15 = .ok (.iload_n 1, 1) := by decide +kernel
theorem dX2_leakFromSectors_16 : decode cX2_leakFromSectors 16 = .ok (.iaload, 1) := by decide +kernel
theorem dX2_leakFromSectors_17 : decode cX2_leakFromSectors 17 = .ok (.aload_n 0, 1) := by decide +kernel
theorem dX2_leakFromSectors_18 : decode cX2_leakFromSectors 18 = .ok (.getfield 9, 3) := by decide +kernel
theorem dX2_leakFromSectors_21 : decode cX2_leakFromSectors 21 = .ok (.iconst 1, 1) := by decide +kernel
theorem dX2_leakFromSectors_22 : decode cX2_leakFromSectors 22 = .ok (.iaload, 1) := by decide +kernel
theorem dX2_leakFromSectors_23 : decode cX2_leakFromSectors 23 = .ok (.imul, 1) := by decide +kernel
theorem dX2_leakFromSectors_24 : decode cX2_leakFromSectors 24 = .ok (.bipush 100, 2) := by decide +kernel
theorem dX2_leakFromSectors_26 : decode cX2_leakFromSectors 26 = .ok (.idiv, 1) := by decide +kernel
theorem dX2_leakFromSectors_27 : decode cX2_leakFromSectors 27 = .ok (.istore_n 2, 1) := by decide +kernel
theorem dX2_leakFromSectors_28 : decode cX2_leakFromSectors 28 = .ok (.aload_n 0, 1) := by decide +kernel
theorem dX2_leakFromSectors_29 : decode cX2_leakFromSectors 29 = .ok (.getfield 15, 3) := by decide +kernel
theorem dX2_leakFromSectors_32 : decode cX2_leakFromSectors 32 = .ok (.iload_n 1, 1) := by decide +kernel
theorem dX2_leakFromSectors_33 : decode cX2_leakFromSectors 33 = .ok (.dup2, 1) := by decide +kernel
theorem dX2_leakFromSectors_34 : decode cX2_leakFromSectors 34 = .ok (.iaload, 1) := by decide +kernel
theorem dX2_leakFromSectors_35 : decode cX2_leakFromSectors 35 = .ok (.iload_n 2, 1) := by decide +kernel
theorem dX2_leakFromSectors_36 : decode cX2_leakFromSectors 36 = .ok (.isub, 1) := by decide +kernel
theorem dX2_leakFromSectors_37 : decode cX2_leakFromSectors 37 = .ok (.iastore, 1) := by decide +kernel
theorem dX2_leakFromSectors_38 : decode cX2_leakFromSectors 38 = .ok (.aload_n 0, 1) := by decide +kernel
theorem dX2_leakFromSectors_39 : decode cX2_leakFromSectors 39 = .ok (.dup, 1) := by decide +kernel
theorem dX2_leakFromSectors_40 : decode cX2_leakFromSectors 40 = .ok (.getfield 47, 3) := by decide +kernel
theorem dX2_leakFromSectors_43 : decode cX2_leakFromSectors 43 = .ok (.iload_n 2, 1) := by decide +kernel
theorem dX2_leakFromSectors_44 : decode cX2_leakFromSectors 44 = .ok (.iadd, 1) := by decide +kernel
theorem dX2_leakFromSectors_45 : decode cX2_leakFromSectors 45 = .ok (.putfield 47, 3) := by decide +kernel
theorem dX2_leakFromSectors_48 : decode cX2_leakFromSectors 48 = .ok (.iinc 1 1, 3) := by decide +kernel
theorem dX2_leakFromSectors_51 : decode cX2_leakFromSectors 51 = .ok (.goto (-49), 3) := by decide +kernel
theorem dX2_leakFromSectors_54 : decode cX2_leakFromSectors 54 = .ok (.return_, 1) := by decide +kernel
theorem dX2_leakFromJar_0 : decode cX2_leakFromJar 0 = .ok (.aload_n 0, 1) := by decide +kernel
theorem dX2_leakFromJar_1 : decode cX2_leakFromJar 1 = .ok (.getfield 18, 3) := by decide +kernel
theorem dX2_leakFromJar_4 : decode cX2_leakFromJar 4 = .ok (.iload_n 1, 1) := by decide +kernel
theorem dX2_leakFromJar_5 : decode cX2_leakFromJar 5 = .ok (.iaload, 1) := by decide +kernel
theorem dX2_leakFromJar_6 : decode cX2_leakFromJar 6 = .ok (.aload_n 0, 1) := by decide +kernel
theorem dX2_leakFromJar_7 : decode cX2_leakFromJar 7 = .ok (.getfield 9, 3) := by decide +kernel
theorem dX2_leakFromJar_10 : decode cX2_leakFromJar 10 = .ok (.iconst 1, 1) := by decide +kernel
theorem dX2_leakFromJar_11 : decode cX2_leakFromJar 11 = .ok (.iaload, 1) := by decide +kernel
theorem dX2_leakFromJar_12 : decode cX2_leakFromJar 12 = .ok (.imul, 1) := by decide +kernel
theorem dX2_leakFromJar_13 : decode cX2_leakFromJar 13 = .ok (.sipush 200, 3) := by decide +kernel
theorem dX2_leakFromJar_16 : decode cX2_leakFromJar 16 = .ok (.idiv, 1) := by decide +kernel
theorem dX2_leakFromJar_17 : decode cX2_leakFromJar 17 = .ok (.istore_n 2, 1) := by decide +kernel
theorem dX2_leakFromJar_18 : decode cX2_leakFromJar 18 = .ok (.aload_n 0, 1) := by decide +kernel
theorem dX2_leakFromJar_19 : decode cX2_leakFromJar 19 = .ok (.getfield 18, 3) := by decide +kernel
theorem dX2_leakFromJar_22 : decode cX2_leakFromJar 22 = .ok (.iload_n 1, 1) := by decide +kernel
theorem dX2_leakFromJar_23 : decode cX2_leakFromJar 23 = .ok (.dup2, 1) := by decide +kernel
theorem dX2_leakFromJar_24 : decode cX2_leakFromJar 24 = .ok (.iaload, 1) := by decide +kernel
theorem dX2_leakFromJar_25 : decode cX2_leakFromJar 25 = .ok (.iload_n 2, 1) := by decide +kernel
theorem dX2_leakFromJar_26 : decode cX2_leakFromJar 26 = .ok (.isub, 1) := by decide +kernel
theorem dX2_leakFromJar_27 : decode cX2_leakFromJar 27 = .ok (.iastore, 1) := by decide +kernel
theorem dX2_leakFromJar_28 : decode cX2_leakFromJar 28 = .ok (.aload_n 0, 1) := by decide +kernel
theorem dX2_leakFromJar_29 : decode cX2_leakFromJar 29 = .ok (.getfield 24, 3) := by decide +kernel
theorem dX2_leakFromJar_32 : decode cX2_leakFromJar 32 = .ok (.iload_n 1, 1) := by decide +kernel
theorem dX2_leakFromJar_33 : decode cX2_leakFromJar 33 = .ok (.dup2, 1) := by decide +kernel
theorem dX2_leakFromJar_34 : decode cX2_leakFromJar 34 = .ok (.iaload, 1) := by decide +kernel
theorem dX2_leakFromJar_35 : decode cX2_leakFromJar 35 = .ok (.iload_n 2, 1) := by decide +kernel
theorem dX2_leakFromJar_36 : decode cX2_leakFromJar 36 = .ok (.iadd, 1) := by decide +kernel
theorem dX2_leakFromJar_37 : decode cX2_leakFromJar 37 = .ok (.iastore, 1) := by decide +kernel
theorem dX2_leakFromJar_38 : decode cX2_leakFromJar 38 = .ok (.aload_n 0, 1) := by decide +kernel
theorem dX2_leakFromJar_39 : decode cX2_leakFromJar 39 = .ok (.dup, 1) := by decide +kernel
theorem dX2_leakFromJar_40 : decode cX2_leakFromJar 40 = .ok (.getfield 47, 3) := by decide +kernel
theorem dX2_leakFromJar_43 : decode cX2_leakFromJar 43 = .ok (.iload_n 2, 1) := by decide +kernel
theorem dX2_leakFromJar_44 : decode cX2_leakFromJar 44 = .ok (.iadd, 1) := by decide +kernel
theorem dX2_leakFromJar_45 : decode cX2_leakFromJar 45 = .ok (.putfield 47, 3) := by decide +kernel
theorem dX2_leakFromJar_48 : decode cX2_leakFromJar 48 = .ok (.return_, 1) := by decide +kernel
theorem dX2_isSparkDue_0 : decode cX2_isSparkDue 0 = .ok (.aload_n 0, 1) := by decide +kernel
theorem dX2_isSparkDue_1 : decode cX2_isSparkDue 1 = .ok (.invokevirtual 88, 3) := by decide +kernel
theorem dX2_isSparkDue_4 : decode cX2_isSparkDue 4 = .ok (.bipush 10, 2) := by decide +kernel
theorem dX2_isSparkDue_6 : decode cX2_isSparkDue 6 = .ok (.aload_n 0, 1) := by decide +kernel
theorem dX2_isSparkDue_7 : decode cX2_isSparkDue 7 = .ok (.getfield 9, 3) := by decide +kernel
theorem dX2_isSparkDue_10 : decode cX2_isSparkDue 10 = .ok (.iconst 2, 1) := by decide +kernel
theorem dX2_isSparkDue_11 : decode cX2_isSparkDue 11 = .ok (.iaload, 1) := by decide +kernel
theorem dX2_isSparkDue_12 : decode cX2_isSparkDue 12 = .ok (.imul, 1) := by decide +kernel
theorem dX2_isSparkDue_13 : decode cX2_isSparkDue 13 = .ok (.if_icmp .lt 7, 3) := by decide +kernel
theorem dX2_isSparkDue_16 : decode cX2_isSparkDue 16 = .ok (.iconst 1, 1) := by decide +kernel
theorem dX2_isSparkDue_17 : decode cX2_isSparkDue 17 = .ok (.goto 4, 3) := by decide +kernel
theorem dX2_isSparkDue_20 : decode cX2_isSparkDue 20 = .ok (.iconst 0, 1) := by decide +kernel
theorem dX2_isSparkDue_21 : decode cX2_isSparkDue 21 = .ok (.ireturn, 1) := by decide +kernel
theorem dX2_letJump_0 : decode cX2_letJump 0 = .ok (.aload_n 0, 1) := by decide +kernel
theorem dX2_letJump_1 : decode cX2_letJump 1 = .ok (.getfield 38, 3) := by decide +kernel
theorem dX2_letJump_4 : decode cX2_letJump 4 = .ok (.invokestatic 130, 3) := by decide +kernel
theorem dX2_letJump_7 : decode cX2_letJump 7 = .ok (.istore_n 1, 1) := by decide +kernel
theorem dX2_letJump_8 : decode cX2_letJump 8 = .ok (.aload_n 0, 1) := by decide +kernel
theorem dX2_letJump_9 : decode cX2_letJump 9 = .ok (.getfield 27, 3) := by decide +kernel
theorem dX2_letJump_12 : decode cX2_letJump 12 = .ok (.iload_n 1, 1) := by decide +kernel
theorem dX2_letJump_13 : decode cX2_letJump 13 = .ok (.aload_n 0, 1) := by decide +kernel
theorem dX2_letJump_14 : decode cX2_letJump 14 = .ok (.getfield 34, 3) := by decide +kernel
theorem dX2_letJump_17 : decode cX2_letJump 17 = .ok (.iastore, 1) := by decide +kernel
theorem dX2_letJump_18 : decode cX2_letJump 18 = .ok (.aload_n 0, 1) := by decide +kernel
theorem dX2_letJump_19 : decode cX2_letJump 19 = .ok (.getfield 27, 3) := by decide +kernel
theorem dX2_letJump_22 : decode cX2_letJump 22 = .ok (.iload_n 1, 1) := by decide +kernel
theorem dX2_letJump_23 : decode cX2_letJump 23 = .ok (.iconst 1, 1) := by decide +kernel
theorem dX2_letJump_24 : decode cX2_letJump 24 = .ok (.iadd, 1) := by decide +kernel
theorem dX2_letJump_25 : decode cX2_letJump 25 = .ok (.aload_n 0, 1) := by decide +kernel
theorem dX2_letJump_26 : decode cX2_letJump 26 = .ok (.getfield 18, 3) := by decide +kernel
theorem dX2_letJump_29 : decode cX2_letJump 29 = .ok (.iconst 0, 1) := by decide +kernel
theorem dX2_letJump_30 : decode cX2_letJump 30 = .ok (.iaload, 1) := by decide +kernel
theorem dX2_letJump_31 : decode cX2_letJump 31 = .ok (.iastore, 1) := by decide +kernel
theorem dX2_letJump_32 : decode cX2_letJump 32 = .ok (.aload_n 0, 1) := by decide +kernel
theorem dX2_letJump_33 : decode cX2_letJump 33 = .ok (.getfield 27, 3) := by decide +kernel
theorem dX2_letJump_36 : decode cX2_letJump 36 = .ok (.iload_n 1, 1) := by decide +kernel
theorem dX2_letJump_37 : decode cX2_letJump 37 = .ok (.iconst 2, 1) := by decide +kernel
theorem dX2_letJump_38 : decode cX2_letJump 38 = .ok (.iadd, 1) := by decide +kernel
theorem dX2_letJump_39 : decode cX2_letJump 39 = .ok (.aload_n 0, 1) := by decide +kernel
theorem dX2_letJump_40 : decode cX2_letJump 40 = .ok (.getfield 18, 3) := by decide +kernel
theorem dX2_letJump_43 : decode cX2_letJump 43 = .ok (.iconst 1, 1) := by decide +kernel
theorem dX2_letJump_44 : decode cX2_letJump 44 = .ok (.iaload, 1) := by decide +kernel
theorem dX2_letJump_45 : decode cX2_letJump 45 = .ok (.iastore, 1) := by decide +kernel
theorem dX2_letJump_46 : decode cX2_letJump 46 = .ok (.aload_n 0, 1) := by decide +kernel
theorem dX2_letJump_47 : decode cX2_letJump 47 = .ok (.dup, 1) := by decide +kernel
theorem dX2_letJump_48 : decode cX2_letJump 48 = .ok (.getfield 38, 3) := by decide +kernel
theorem dX2_letJump_51 : decode cX2_letJump 51 = .ok (.iconst 1, 1) := by decide +kernel
theorem dX2_letJump_52 : decode cX2_letJump 52 = .ok (.iadd, 1) := by decide +kernel
theorem dX2_letJump_53 : decode cX2_letJump 53 = .ok (.putfield 38, 3) := by decide +kernel
theorem dX2_letJump_56 : decode cX2_letJump 56 = .ok (.aload_n 0, 1) := by decide +kernel
theorem dX2_letJump_57 : decode cX2_letJump 57 = .ok (.getfield 18, 3) := by decide +kernel
theorem dX2_letJump_60 : decode cX2_letJump 60 = .ok (.iconst 0, 1) := by decide +kernel
theorem dX2_letJump_61 : decode cX2_letJump 61 = .ok (.iaload, 1) := by decide +kernel
theorem dX2_letJump_62 : decode cX2_letJump 62 = .ok (.aload_n 0, 1) := by decide +kernel
theorem dX2_letJump_63 : decode cX2_letJump 63 = .ok (.getfield 18, 3) := by decide +kernel
theorem dX2_letJump_66 : decode cX2_letJump 66 = .ok (.iconst 1, 1) := by decide +kernel
theorem dX2_letJump_67 : decode cX2_letJump 67 = .ok (.iaload, 1) := by decide +kernel
theorem dX2_letJump_68 : decode cX2_letJump 68 = .ok (.iadd, 1) := by decide +kernel
theorem dX2_letJump_69 : decode cX2_letJump 69 = .ok (.istore_n 2, 1) := by decide +kernel
theorem dX2_letJump_70 : decode cX2_letJump 70 = .ok (.iload_n 2, 1) := by decide +kernel
theorem dX2_letJump_71 : decode cX2_letJump 71 = .ok (.iconst 2, 1) := by decide +kernel
theorem dX2_letJump_72 : decode cX2_letJump 72 = .ok (.idiv, 1) := by decide +kernel
theorem dX2_letJump_73 : decode cX2_letJump 73 = .ok (.istore_n 3, 1) := by decide +kernel
theorem dX2_letJump_74 : decode cX2_letJump 74 = .ok (.aload_n 0, 1) := by decide +kernel
theorem dX2_letJump_75 : decode cX2_letJump 75 = .ok (.getfield 18, 3) := by decide +kernel
theorem dX2_letJump_78 : decode cX2_letJump 78 = .ok (.iconst 0, 1) := by decide +kernel
theorem dX2_letJump_79 : decode cX2_letJump 79 = .ok (.iload_n 3, 1) := by decide +kernel
theorem dX2_letJump_80 : decode cX2_letJump 80 = .ok (.aload_n 0, 1) := by decide +kernel
theorem dX2_letJump_81 : decode cX2_letJump 81 = .ok (.getfield 18, 3) := by decide +kernel
theorem dX2_letJump_84 : decode cX2_letJump 84 = .ok (.iconst 0, 1) := by decide +kernel
theorem dX2_letJump_85 : decode cX2_letJump 85 = .ok (.iaload, 1) := by decide +kernel
theorem dX2_letJump_86 : decode cX2_letJump 86 = .ok (.iload_n 3, 1) := by decide +kernel
theorem dX2_letJump_87 : decode cX2_letJump 87 = .ok (.isub, 1) := by decide +kernel
theorem dX2_letJump_88 : decode cX2_letJump 88 = .ok (.aload_n 0, 1) := by decide +kernel
theorem dX2_letJump_89 : decode cX2_letJump 89 = .ok (.getfield 9, 3) := by decide +kernel
theorem dX2_letJump_92 : decode cX2_letJump 92 = .ok (.iconst 3, 1) := by decide +kernel
theorem dX2_letJump_93 : decode cX2_letJump 93 = .ok (.iaload, 1) := by decide +kernel
theorem dX2_letJump_94 : decode cX2_letJump 94 = .ok (.imul, 1) := by decide +kernel
theorem dX2_letJump_95 : decode cX2_letJump 95 = .ok (.bipush 100, 2) := by decide +kernel
theorem dX2_letJump_97 : decode cX2_letJump 97 = .ok (.idiv, 1) := by decide +kernel
theorem dX2_letJump_98 : decode cX2_letJump 98 = .ok (.isub, 1) := by decide +kernel
theorem dX2_letJump_99 : decode cX2_letJump 99 = .ok (.iastore, 1) := by decide +kernel
theorem dX2_letJump_100 : decode cX2_letJump 100 = .ok (.aload_n 0, 1) := by decide +kernel
theorem dX2_letJump_101 : decode cX2_letJump 101 = .ok (.getfield 18, 3) := by decide +kernel
theorem dX2_letJump_104 : decode cX2_letJump 104 = .ok (.iconst 1, 1) := by decide +kernel
theorem dX2_letJump_105 : decode cX2_letJump 105 = .ok (.iload_n 2, 1) := by decide +kernel
theorem dX2_letJump_106 : decode cX2_letJump 106 = .ok (.aload_n 0, 1) := by decide +kernel
theorem dX2_letJump_107 : decode cX2_letJump 107 = .ok (.getfield 18, 3) := by decide +kernel
theorem dX2_letJump_110 : decode cX2_letJump 110 = .ok (.iconst 0, 1) := by decide +kernel
theorem dX2_letJump_111 : decode cX2_letJump 111 = .ok (.iaload, 1) := by decide +kernel
theorem dX2_letJump_112 : decode cX2_letJump 112 = .ok (.isub, 1) := by decide +kernel
theorem dX2_letJump_113 : decode cX2_letJump 113 = .ok (.iastore, 1) := by decide +kernel
theorem dX2_letJump_114 : decode cX2_letJump 114 = .ok (.return_, 1) := by decide +kernel
theorem dX2_noteSign_0 : decode cX2_noteSign 0 = .ok (.aload_n 0, 1) := by decide +kernel
theorem dX2_noteSign_1 : decode cX2_noteSign 1 = .ok (.invokevirtual 133, 3) := by decide +kernel
theorem dX2_noteSign_4 : decode cX2_noteSign 4 = .ok (.istore_n 1, 1) := by decide +kernel
theorem dX2_noteSign_5 : decode cX2_noteSign 5 = .ok (.iload_n 1, 1) := by decide +kernel
theorem dX2_noteSign_6 : decode cX2_noteSign 6 = .ok (.ifCond .ne 4, 3) := by decide +kernel
theorem dX2_noteSign_9 : decode cX2_noteSign 9 = .ok (.return_, 1) := by decide +kernel
theorem dX2_noteSign_10 : decode cX2_noteSign 10 = .ok (.iload_n 1, 1) := by decide +kernel
theorem dX2_noteSign_11 : decode cX2_noteSign 11 = .ok (.aload_n 0, 1) := by decide +kernel
theorem dX2_noteSign_12 : decode cX2_noteSign 12 = .ok (.getfield 44, 3) := by decide +kernel
theorem dX2_noteSign_15 : decode cX2_noteSign 15 = .ok (.ineg, 1) := by decide +kernel
theorem dX2_noteSign_16 : decode cX2_noteSign 16 = .ok (.if_icmp .ne 13, 3) := by decide +kernel
theorem dX2_noteSign_19 : decode cX2_noteSign 19 = .ok (.aload_n 0, 1) := by decide +kernel
theorem dX2_noteSign_20 : decode cX2_noteSign 20 = .ok (.dup, 1) := by decide +kernel
theorem dX2_noteSign_21 : decode cX2_noteSign 21 = .ok (.getfield 41, 3) := by decide +kernel
theorem dX2_noteSign_24 : decode cX2_noteSign 24 = .ok (.iconst 1, 1) := by decide +kernel
theorem dX2_noteSign_25 : decode cX2_noteSign 25 = .ok (.iadd, 1) := by decide +kernel
theorem dX2_noteSign_26 : decode cX2_noteSign 26 = .ok (.putfield 41, 3) := by decide +kernel
theorem dX2_noteSign_29 : decode cX2_noteSign 29 = .ok (.aload_n 0, 1) := by decide +kernel
theorem dX2_noteSign_30 : decode cX2_noteSign 30 = .ok (.iload_n 1, 1) := by decide +kernel
theorem dX2_noteSign_31 : decode cX2_noteSign 31 = .ok (.putfield 44, 3) := by decide +kernel
theorem dX2_noteSign_34 : decode cX2_noteSign 34 = .ok (.return_, 1) := by decide +kernel
theorem dX3_init_0 : decode cX3_init 0 = .ok (.aload_n 0, 1) := by decide +kernel
theorem dX3_init_1 : decode cX3_init 1 = .ok (.invokespecial 3, 3) := by decide +kernel
theorem dX3_init_4 : decode cX3_init 4 = .ok (.aload_n 0, 1) := by decide +kernel
theorem dX3_init_5 : decode cX3_init 5 = .ok (.bipush 60, 2) := by decide +kernel
theorem dX3_init_7 : decode cX3_init 7 = .ok (.newarray .char, 2) := by decide +kernel
theorem dX3_init_9 : decode cX3_init 9 = .ok (.putfield 9, 3) := by decide +kernel
theorem dX3_init_12 : decode cX3_init 12 = .ok (.return_, 1) := by decide +kernel
theorem dX3_clear_0 : decode cX3_clear 0 = .ok (.aload_n 0, 1) := by decide +kernel
theorem dX3_clear_1 : decode cX3_clear 1 = .ok (.iconst 0, 1) := by decide +kernel
theorem dX3_clear_2 : decode cX3_clear 2 = .ok (.putfield 15, 3) := by decide +kernel
theorem dX3_clear_5 : decode cX3_clear 5 = .ok (.return_, 1) := by decide +kernel
theorem dX3_append_0 : decode cX3_append 0 = .ok (.iload_n 3, 1) := by decide +kernel
theorem dX3_append_1 : decode cX3_append 1 = .ok (.iconst 1, 1) := by decide +kernel
theorem dX3_append_2 : decode cX3_append 2 = .ok (.isub, 1) := by decide +kernel
theorem dX3_append_3 : decode cX3_append 3 = .ok (.istore 4, 2) := by decide +kernel
theorem dX3_append_5 : decode cX3_append 5 = .ok (.iload 4, 2) := by decide +kernel
theorem dX3_append_7 : decode cX3_append 7 = .ok (.ifCond .lt 53, 3) := by decide +kernel
theorem dX3_append_10 : decode cX3_append 10 = .ok (.aload_n 0, 1) := by decide +kernel
theorem dX3_append_11 : decode cX3_append 11 = .ok (.getfield 15, 3) := by decide +kernel
theorem dX3_append_14 : decode cX3_append 14 = .ok (.aload_n 0, 1) := by decide +kernel
theorem dX3_append_15 : decode cX3_append 15 = .ok (.getfield 9, 3) := by decide +kernel
theorem dX3_append_18 : decode cX3_append 18 = .ok (.arraylength, 1) := by decide +kernel
theorem dX3_append_19 : decode cX3_append 19 = .ok (.if_icmp .ge 41, 3) := by decide +kernel
theorem dX3_append_22 : decode cX3_append 22 = .ok (.aload_n 0, 1) := by decide +kernel
theorem dX3_append_23 : decode cX3_append 23 = .ok (.getfield 9, 3) := by decide +kernel
theorem dX3_append_26 : decode cX3_append 26 = .ok (.aload_n 0, 1) := by decide +kernel
theorem dX3_append_27 : decode cX3_append 27 = .ok (.getfield 15, 3) := by decide +kernel
theorem dX3_append_30 : decode cX3_append 30 = .ok (.lload_n 1, 1) := by decide +kernel
theorem dX3_append_31 : decode cX3_append 31 = .ok (.bipush 8, 2) := by decide +kernel
theorem dX3_append_33 : decode cX3_append 33 = .ok (.iload 4, 2) := by decide +kernel
theorem dX3_append_35 : decode cX3_append 35 = .ok (.imul, 1) := by decide +kernel
theorem dX3_append_36 : decode cX3_append 36 = .ok (.lushr, 1) := by decide +kernel
theorem dX3_append_37 : decode cX3_append 37 = .ok (.ldc2_w 19, 3) := by decide +kernel
theorem dX3_append_40 : decode cX3_append 40 = .ok (.land, 1) := by decide +kernel
theorem dX3_append_41 : decode cX3_append 41 = .ok (.l2i, 1) := by decide +kernel
theorem dX3_append_42 : decode cX3_append 42 = .ok (.i2c, 1) := by decide +kernel
theorem dX3_append_43 : decode cX3_append 43 = .ok (.castore, 1) := by decide +kernel
theorem dX3_append_44 : decode cX3_append 44 = .ok (.aload_n 0, 1) := by decide +kernel
theorem dX3_append_45 : decode cX3_append 45 = .ok (.dup, 1) := by decide +kernel
theorem dX3_append_46 : decode cX3_append 46 = .ok (.getfield 15, 3) := by decide +kernel
theorem dX3_append_49 : decode cX3_append 49 = .ok (.iconst 1, 1) := by decide +kernel
theorem dX3_append_50 : decode cX3_append 50 = .ok (.iadd, 1) := by decide +kernel
theorem dX3_append_51 : decode cX3_append 51 = .ok (.putfield 15, 3) := by decide +kernel
theorem dX3_append_54 : decode cX3_append 54 = .ok (.iinc 4 (-1), 3) := by decide +kernel
theorem dX3_append_57 : decode cX3_append 57 = .ok (.goto (-52), 3) := by decide +kernel
theorem dX3_append_60 : decode cX3_append 60 = .ok (.return_, 1) := by decide +kernel
theorem dX3_signAt_0 : decode cX3_signAt 0 = .ok (.iload_n 1, 1) := by decide +kernel
theorem dX3_signAt_1 : decode cX3_signAt 1 = .ok (.ifCond .lt 20, 3) := by decide +kernel
theorem dX3_signAt_4 : decode cX3_signAt 4 = .ok (.iload_n 1, 1) := by decide +kernel
theorem dX3_signAt_5 : decode cX3_signAt 5 = .ok (.aload_n 0, 1) := by decide +kernel
theorem dX3_signAt_6 : decode cX3_signAt 6 = .ok (.getfield 15, 3) := by decide +kernel
theorem dX3_signAt_9 : decode cX3_signAt 9 = .ok (.if_icmp .ge 12, 3) := by decide +kernel
theorem dX3_signAt_12 : decode cX3_signAt 12 = .ok (.iload_n 1, 1) := by decide +kernel
theorem dX3_signAt_13 : decode cX3_signAt 13 = .ok (.aload_n 0, 1) := by decide +kernel
theorem dX3_signAt_14 : decode cX3_signAt 14 = .ok (.getfield 9, 3) := by decide +kernel
theorem dX3_signAt_17 : decode cX3_signAt 17 = .ok (.arraylength, 1) := by decide +kernel
theorem dX3_signAt_18 : decode cX3_signAt 18 = .ok (.if_icmp .lt 7, 3) := by decide +kernel
theorem dX3_signAt_21 : decode cX3_signAt 21 = .ok (.iconst 0, 1) := by decide +kernel
theorem dX3_signAt_22 : decode cX3_signAt 22 = .ok (.goto 9, 3) := by decide +kernel
theorem dX3_signAt_25 : decode cX3_signAt 25 = .ok (.aload_n 0, 1) := by decide +kernel
theorem dX3_signAt_26 : decode cX3_signAt 26 = .ok (.getfield 9, 3) := by decide +kernel
theorem dX3_signAt_29 : decode cX3_signAt 29 = .ok (.iload_n 1, 1) := by decide +kernel
theorem dX3_signAt_30 : decode cX3_signAt 30 = .ok (.caload, 1) := by decide +kernel
theorem dX3_signAt_31 : decode cX3_signAt 31 = .ok (.ireturn, 1) := by decide +kernel
theorem dX4_init_0 : decode cX4_init 0 = .ok (.aload_n 0, 1) := by decide +kernel
theorem dX4_init_1 : decode cX4_init 1 = .ok (.invokespecial 1, 3) := by decide +kernel
theorem dX4_init_4 : decode cX4_init 4 = .ok (.aload_n 0, 1) := by decide +kernel
theorem dX4_init_5 : decode cX4_init 5 = .ok (.new 7, 3) := by decide +kernel
theorem dX4_init_8 : decode cX4_init 8 = .ok (.dup, 1) := by decide +kernel
theorem dX4_init_9 : decode cX4_init 9 = .ok (.invokespecial 9, 3) := by decide +kernel
theorem dX4_init_12 : decode cX4_init 12 = .ok (.putfield 10, 3) := by decide +kernel
theorem dX4_init_15 : decode cX4_init 15 = .ok (.aload_n 0, 1) := by decide +kernel
theorem dX4_init_16 : decode cX4_init 16 = .ok (.new 7, 3) := by decide +kernel
theorem dX4_init_19 : decode cX4_init 19 = .ok (.dup, 1) := by decide +kernel
theorem dX4_init_20 : decode cX4_init 20 = .ok (.invokespecial 9, 3) := by decide +kernel
theorem dX4_init_23 : decode cX4_init 23 = .ok (.putfield 16, 3) := by decide +kernel
theorem dX4_init_26 : decode cX4_init 26 = .ok (.aload_n 0, 1) := by decide +kernel
theorem dX4_init_27 : decode cX4_init 27 = .ok (.new 19, 3) := by decide +kernel
theorem dX4_init_30 : decode cX4_init 30 = .ok (.dup, 1) := by decide +kernel
theorem dX4_init_31 : decode cX4_init 31 = .ok (.invokespecial 21, 3) := by decide +kernel
theorem dX4_init_34 : decode cX4_init 34 = .ok (.putfield 22, 3) := by decide +kernel
theorem dX4_init_37 : decode cX4_init 37 = .ok (.aload_n 0, 1) := by decide +kernel
theorem dX4_init_38 : decode cX4_init 38 = .ok (.iconst 2, 1) := by decide +kernel
theorem dX4_init_39 : decode cX4_init 39 = .ok (.anewarray 7, 3) := by decide +kernel
theorem dX4_init_42 : decode cX4_init 42 = .ok (.putfield 26, 3) := by decide +kernel
theorem dX4_init_45 : decode cX4_init 45 = .ok (.aload_n 0, 1) := by decide +kernel
theorem dX4_init_46 : decode cX4_init 46 = .ok (.new 30, 3) := by decide +kernel
theorem dX4_init_49 : decode cX4_init 49 = .ok (.dup, 1) := by decide +kernel
theorem dX4_init_50 : decode cX4_init 50 = .ok (.invokespecial 32, 3) := by decide +kernel
theorem dX4_init_53 : decode cX4_init 53 = .ok (.putfield 33, 3) := by decide +kernel
theorem dX4_init_56 : decode cX4_init 56 = .ok (.aload_n 0, 1) := by decide +kernel
theorem dX4_init_57 : decode cX4_init 57 = .ok (.aload_n 0, 1) := by decide +kernel
theorem dX4_init_58 : decode cX4_init 58 = .ok (.getfield 33, 3) := by decide +kernel
theorem dX4_init_61 : decode cX4_init 61 = .ok (.getfield 37, 3) := by decide +kernel
theorem dX4_init_64 : decode cX4_init 64 = .ok (.putfield 41, 3) := by decide +kernel
theorem dX4_init_67 : decode cX4_init 67 = .ok (.return_, 1) := by decide +kernel
theorem dX4_set_0 : decode cX4_set 0 = .ok (.iload_n 1, 1) := by decide +kernel
theorem dX4_set_1 : decode cX4_set 1 = .ok (.ifCond .lt 8, 3) := by decide +kernel
theorem dX4_set_4 : decode cX4_set 4 = .ok (.iload_n 1, 1) := by decide +kernel
theorem dX4_set_5 : decode cX4_set 5 = .ok (.iconst 5, 1) := by decide +kernel
theorem dX4_set_6 : decode cX4_set 6 = .ok (.if_icmp .lt 6, 3) := by decide +kernel
theorem dX4_set_9 : decode cX4_set 9 = .ok (.ldc 42, 2) := by decide +kernel
theorem dX4_set_11 : decode cX4_set 11 = .ok (.ireturn, 1) := by decide +kernel
theorem dX4_set_12 : decode cX4_set 12 = .ok (.iload_n 2, 1) := by decide +kernel
theorem dX4_set_13 : decode cX4_set 13 = .ok (.getstatic 43, 3) := by decide +kernel
theorem dX4_set_16 : decode cX4_set 16 = .ok (.iload_n 1, 1) := by decide +kernel
theorem dX4_set_17 : decode cX4_set 17 = .ok (.iaload, 1) := by decide +kernel
theorem dX4_set_18 : decode cX4_set 18 = .ok (.if_icmp .lt 12, 3) := by decide +kernel
theorem dX4_set_21 : decode cX4_set 21 = .ok (.iload_n 2, 1) := by decide +kernel
theorem dX4_set_22 : decode cX4_set 22 = .ok (.getstatic 47, 3) := by decide +kernel
theorem dX4_set_25 : decode cX4_set 25 = .ok (.iload_n 1, 1) := by decide +kernel
theorem dX4_set_26 : decode cX4_set 26 = .ok (.iaload, 1) := by decide +kernel
theorem dX4_set_27 : decode cX4_set 27 = .ok (.if_icmp .le 6, 3) := by decide +kernel
theorem dX4_set_30 : decode cX4_set 30 = .ok (.ldc 42, 2) := by decide +kernel
theorem dX4_set_32 : decode cX4_set 32 = .ok (.ireturn, 1) := by decide +kernel
theorem dX4_set_33 : decode cX4_set 33 = .ok (.iload_n 1, 1) := by decide +kernel
theorem dX4_set_34 : decode cX4_set 34 = .ok (.iconst 4, 1) := by decide +kernel
theorem dX4_set_35 : decode cX4_set 35 = .ok (.if_icmp .ne 17, 3) := by decide +kernel
theorem dX4_set_38 : decode cX4_set 38 = .ok (.aload_n 0, 1) := by decide +kernel
theorem dX4_set_39 : decode cX4_set 39 = .ok (.getfield 10, 3) := by decide +kernel
theorem dX4_set_42 : decode cX4_set 42 = .ok (.invokevirtual 50, 3) := by decide +kernel
theorem dX4_set_45 : decode cX4_set 45 = .ok (.iload_n 2, 1) := by decide +kernel
theorem dX4_set_46 : decode cX4_set 46 = .ok (.if_icmp .le 6, 3) := by decide +kernel
theorem dX4_set_49 : decode cX4_set 49 = .ok (.ldc 54, 2) := by decide +kernel
theorem dX4_set_51 : decode cX4_set 51 = .ok (.ireturn, 1) := by decide +kernel
theorem dX4_set_52 : decode cX4_set 52 = .ok (.aload_n 0, 1) := by decide +kernel
theorem dX4_set_53 : decode cX4_set 53 = .ok (.getfield 22, 3) := by decide +kernel
theorem dX4_set_56 : decode cX4_set 56 = .ok (.aload_n 0, 1) := by decide +kernel
theorem dX4_set_57 : decode cX4_set 57 = .ok (.getfield 10, 3) := by decide +kernel
theorem dX4_set_60 : decode cX4_set 60 = .ok (.invokevirtual 55, 3) := by decide +kernel
theorem dX4_set_63 : decode cX4_set 63 = .ok (.aload_n 0, 1) := by decide +kernel
theorem dX4_set_64 : decode cX4_set 64 = .ok (.getfield 10, 3) := by decide +kernel
theorem dX4_set_67 : decode cX4_set 67 = .ok (.getfield 59, 3) := by decide +kernel
theorem dX4_set_70 : decode cX4_set 70 = .ok (.iload_n 1, 1) := by decide +kernel
theorem dX4_set_71 : decode cX4_set 71 = .ok (.iaload, 1) := by decide +kernel
theorem dX4_set_72 : decode cX4_set 72 = .ok (.istore_n 3, 1) := by decide +kernel
theorem dX4_set_73 : decode cX4_set 73 = .ok (.aload_n 0, 1) := by decide +kernel
theorem dX4_set_74 : decode cX4_set 74 = .ok (.getfield 10, 3) := by decide +kernel
theorem dX4_set_77 : decode cX4_set 77 = .ok (.getfield 59, 3) := by decide +kernel
theorem dX4_set_80 : decode cX4_set 80 = .ok (.iload_n 1, 1) := by decide +kernel
theorem dX4_set_81 : decode cX4_set 81 = .ok (.iload_n 2, 1) := by decide +kernel
theorem dX4_set_82 : decode cX4_set 82 = .ok (.iastore, 1) := by decide +kernel
theorem dX4_set_83 : decode cX4_set 83 = .ok (.iload_n 3, 1) := by decide +kernel
theorem dX4_set_84 : decode cX4_set 84 = .ok (.ireturn, 1) := by decide +kernel
theorem dX4_touch_0 : decode cX4_touch 0 = .ok (.iload_n 1, 1) := by decide +kernel
theorem dX4_touch_1 : decode cX4_touch 1 = .ok (.invokestatic 62, 3) := by decide +kernel
theorem dX4_touch_4 : decode cX4_touch 4 = .ok (.ifCond .ne 10, 3) := by decide +kernel
theorem dX4_touch_7 : decode cX4_touch 7 = .ok (.iload_n 2, 1) := by decide +kernel
theorem dX4_touch_8 : decode cX4_touch 8 = .ok (.invokestatic 66, 3) := by decide +kernel
theorem dX4_touch_11 : decode cX4_touch 11 = .ok (.ifCond .eq 6, 3) := by decide +kernel
theorem dX4_touch_14 : decode cX4_touch 14 = .ok (.ldc 69, 2) := by decide +kernel
theorem dX4_touch_16 : decode cX4_touch 16 = .ok (.ireturn, 1) := by decide +kernel
theorem dX4_touch_17 : decode cX4_touch 17 = .ok (.iload_n 3, 1) := by decide +kernel
theorem dX4_touch_18 : decode cX4_touch 18 = .ok (.bipush (-99), 2) := by decide +kernel
theorem dX4_touch_20 : decode cX4_touch 20 = .ok (.if_icmp .lt 9, 3) := by decide +kernel
theorem dX4_touch_23 : decode cX4_touch 23 = .ok (.iload_n 3, 1) := by decide +kernel
theorem dX4_touch_24 : decode cX4_touch 24 = .ok (.bipush 99, 2) := by decide +kernel
theorem dX4_touch_26 : decode cX4_touch 26 = .ok (.if_icmp .le 6, 3) := by decide +kernel
theorem dX4_touch_29 : decode cX4_touch 29 = .ok (.ldc 42, 2) := by decide +kernel
theorem dX4_touch_31 : decode cX4_touch 31 = .ok (.ireturn, 1) := by decide +kernel
theorem dX4_touch_32 : decode cX4_touch 32 = .ok (.aload_n 0, 1) := by decide +kernel
theorem dX4_touch_33 : decode cX4_touch 33 = .ok (.getfield 22, 3) := by decide +kernel
theorem dX4_touch_36 : decode cX4_touch 36 = .ok (.aload_n 0, 1) := by decide +kernel
theorem dX4_touch_37 : decode cX4_touch 37 = .ok (.getfield 10, 3) := by decide +kernel
theorem dX4_touch_40 : decode cX4_touch 40 = .ok (.invokevirtual 55, 3) := by decide +kernel
theorem dX4_touch_43 : decode cX4_touch 43 = .ok (.aload_n 0, 1) := by decide +kernel
theorem dX4_touch_44 : decode cX4_touch 44 = .ok (.getfield 10, 3) := by decide +kernel
theorem dX4_touch_47 : decode cX4_touch 47 = .ok (.iload_n 1, 1) := by decide +kernel
theorem dX4_touch_48 : decode cX4_touch 48 = .ok (.iload_n 2, 1) := by decide +kernel
theorem dX4_touch_49 : decode cX4_touch 49 = .ok (.iload_n 3, 1) := by decide +kernel
theorem dX4_touch_50 : decode cX4_touch 50 = .ok (.invokevirtual 70, 3) := by decide +kernel
theorem dX4_touch_53 : decode cX4_touch 53 = .ok (.ireturn, 1) := by decide +kernel
theorem dX4_turn_0 : decode cX4_turn 0 = .ok (.iload_n 1, 1) := by decide +kernel
theorem dX4_turn_1 : decode cX4_turn 1 = .ok (.iconst 1, 1) := by decide +kernel
theorem dX4_turn_2 : decode cX4_turn 2 = .ok (.if_icmp .lt 9, 3) := by decide +kernel
theorem dX4_turn_5 : decode cX4_turn 5 = .ok (.iload_n 1, 1) := by decide +kernel
theorem dX4_turn_6 : decode cX4_turn 6 = .ok (.bipush 99, 2) := by decide +kernel
theorem dX4_turn_8 : decode cX4_turn 8 = .ok (.if_icmp .le 6, 3) := by decide +kernel
theorem dX4_turn_11 : decode cX4_turn 11 = .ok (.ldc 42, 2) := by decide +kernel
theorem dX4_turn_13 : decode cX4_turn 13 = .ok (.ireturn, 1) := by decide +kernel
theorem dX4_turn_14 : decode cX4_turn 14 = .ok (.aload_n 0, 1) := by decide +kernel
theorem dX4_turn_15 : decode cX4_turn 15 = .ok (.getfield 10, 3) := by decide +kernel
theorem dX4_turn_18 : decode cX4_turn 18 = .ok (.iload_n 1, 1) := by decide +kernel
theorem dX4_turn_19 : decode cX4_turn 19 = .ok (.invokevirtual 74, 3) := by decide +kernel
theorem dX4_turn_22 : decode cX4_turn 22 = .ok (.ifCond .ne 6, 3) := by decide +kernel
theorem dX4_turn_25 : decode cX4_turn 25 = .ok (.ldc 77, 2) := by decide +kernel
theorem dX4_turn_27 : decode cX4_turn 27 = .ok (.ireturn, 1) := by decide +kernel
theorem dX4_turn_28 : decode cX4_turn 28 = .ok (.aload_n 0, 1) := by decide +kernel
theorem dX4_turn_29 : decode cX4_turn 29 = .ok (.getfield 22, 3) := by decide +kernel
theorem dX4_turn_32 : decode cX4_turn 32 = .ok (.aload_n 0, 1) := by decide +kernel
theorem dX4_turn_33 : decode cX4_turn 33 = .ok (.getfield 10, 3) := by decide +kernel
theorem dX4_turn_36 : decode cX4_turn 36 = .ok (.invokevirtual 55, 3) := by decide +kernel
theorem dX4_turn_39 : decode cX4_turn 39 = .ok (.aload_n 0, 1) := by decide +kernel
theorem dX4_turn_40 : decode cX4_turn 40 = .ok (.getfield 10, 3) := by decide +kernel
theorem dX4_turn_43 : decode cX4_turn 43 = .ok (.iload_n 1, 1) := by decide +kernel
theorem dX4_turn_44 : decode cX4_turn 44 = .ok (.invokevirtual 78, 3) := by decide +kernel
theorem dX4_turn_47 : decode cX4_turn 47 = .ok (.ireturn, 1) := by decide +kernel
theorem dX4_discharge_0 : decode cX4_discharge 0 = .ok (.aload_n 0, 1) := by decide +kernel
theorem dX4_discharge_1 : decode cX4_discharge 1 = .ok (.getfield 22, 3) := by decide +kernel
theorem dX4_discharge_4 : decode cX4_discharge 4 = .ok (.aload_n 0, 1) := by decide +kernel
theorem dX4_discharge_5 : decode cX4_discharge 5 = .ok (.getfield 10, 3) := by decide +kernel
theorem dX4_discharge_8 : decode cX4_discharge 8 = .ok (.invokevirtual 55, 3) := by decide +kernel
theorem dX4_discharge_11 : decode cX4_discharge 11 = .ok (.aload_n 0, 1) := by decide +kernel
theorem dX4_discharge_12 : decode cX4_discharge 12 = .ok (.getfield 10, 3) := by decide +kernel
theorem dX4_discharge_15 : decode cX4_discharge 15 = .ok (.invokevirtual 82, 3) := by decide +kernel
theorem dX4_discharge_18 : decode cX4_discharge 18 = .ok (.ireturn, 1) := by decide +kernel
theorem dX4_wipeDisc_0 : decode cX4_wipeDisc 0 = .ok (.iload_n 1, 1) := by decide +kernel
theorem dX4_wipeDisc_1 : decode cX4_wipeDisc 1 = .ok (.invokestatic 62, 3) := by decide +kernel
theorem dX4_wipeDisc_4 : decode cX4_wipeDisc 4 = .ok (.ifCond .eq 6, 3) := by decide +kernel
theorem dX4_wipeDisc_7 : decode cX4_wipeDisc 7 = .ok (.ldc 69, 2) := by decide +kernel
theorem dX4_wipeDisc_9 : decode cX4_wipeDisc 9 = .ok (.ireturn, 1) := by decide +kernel
theorem dX4_wipeDisc_10 : decode cX4_wipeDisc 10 = .ok (.aload_n 0, 1) := by decide +kernel
theorem dX4_wipeDisc_11 : decode cX4_wipeDisc 11 = .ok (.getfield 22, 3) := by decide +kernel
theorem dX4_wipeDisc_14 : decode cX4_wipeDisc 14 = .ok (.aload_n 0, 1) := by decide +kernel
theorem dX4_wipeDisc_15 : decode cX4_wipeDisc 15 = .ok (.getfield 10, 3) := by decide +kernel
theorem dX4_wipeDisc_18 : decode cX4_wipeDisc 18 = .ok (.invokevirtual 55, 3) := by decide +kernel
theorem dX4_wipeDisc_21 : decode cX4_wipeDisc 21 = .ok (.aload_n 0, 1) := by decide +kernel
theorem dX4_wipeDisc_22 : decode cX4_wipeDisc 22 = .ok (.getfield 10, 3) := by decide +kernel
theorem dX4_wipeDisc_25 : decode cX4_wipeDisc 25 = .ok (.iload_n 1, 1) := by decide +kernel
theorem dX4_wipeDisc_26 : decode cX4_wipeDisc 26 = .ok (.invokevirtual 85, 3) := by decide +kernel
theorem dX4_wipeDisc_29 : decode cX4_wipeDisc 29 = .ok (.ireturn, 1) := by decide +kernel
theorem dX4_run_0 : decode cX4_run 0 = .ok (.aload_n 0, 1) := by decide +kernel
theorem dX4_run_1 : decode cX4_run 1 = .ok (.getfield 33, 3) := by decide +kernel
theorem dX4_run_4 : decode cX4_run 4 = .ok (.invokevirtual 88, 3) := by decide +kernel
theorem dX4_run_7 : decode cX4_run 7 = .ok (.ldc 91, 2) := by decide +kernel
theorem dX4_run_9 : decode cX4_run 9 = .ok (.if_icmp .eq 6, 3) := by decide +kernel
theorem dX4_run_12 : decode cX4_run 12 = .ok (.ldc 92, 2) := by decide +kernel
theorem dX4_run_14 : decode cX4_run 14 = .ok (.ireturn, 1) := by decide +kernel
theorem dX4_run_15 : decode cX4_run 15 = .ok (.aload_n 0, 1) := by decide +kernel
theorem dX4_run_16 : decode cX4_run 16 = .ok (.getfield 22, 3) := by decide +kernel
theorem dX4_run_19 : decode cX4_run 19 = .ok (.aload_n 0, 1) := by decide +kernel
theorem dX4_run_20 : decode cX4_run 20 = .ok (.getfield 10, 3) := by decide +kernel
theorem dX4_run_23 : decode cX4_run 23 = .ok (.invokevirtual 55, 3) := by decide +kernel
theorem dX4_run_26 : decode cX4_run 26 = .ok (.aload_n 0, 1) := by decide +kernel
theorem dX4_run_27 : decode cX4_run 27 = .ok (.getfield 10, 3) := by decide +kernel
theorem dX4_run_30 : decode cX4_run 30 = .ok (.getfield 93, 3) := by decide +kernel
theorem dX4_run_33 : decode cX4_run 33 = .ok (.istore_n 1, 1) := by decide +kernel
theorem dX4_run_34 : decode cX4_run 34 = .ok (.aload_n 0, 1) := by decide +kernel
theorem dX4_run_35 : decode cX4_run 35 = .ok (.getfield 33, 3) := by decide +kernel
theorem dX4_run_38 : decode cX4_run 38 = .ok (.invokevirtual 97, 3) := by decide +kernel
theorem dX4_run_41 : decode cX4_run 41 = .ok (.iconst 0, 1) := by decide +kernel
theorem dX4_run_42 : decode cX4_run 42 = .ok (.istore_n 2, 1) := by decide +kernel
theorem dX4_run_43 : decode cX4_run 43 = .ok (.iload_n 2, 1) := by decide +kernel
theorem dX4_run_44 : decode cX4_run 44 = .ok (.bipush 60, 2) := by decide +kernel
theorem dX4_run_46 : decode cX4_run 46 = .ok (.if_icmp .ge 33, 3) := by decide +kernel
theorem dX4_run_49 : decode cX4_run 49 = .ok (.aload_n 0, 1) := by decide +kernel
theorem dX4_run_50 : decode cX4_run 50 = .ok (.getfield 33, 3) := by decide +kernel
theorem dX4_run_53 : decode cX4_run 53 = .ok (.invokevirtual 100, 3) := by decide +kernel
theorem dX4_run_56 : decode cX4_run 56 = .ok (.ifCond .eq 23, 3) := by decide +kernel
theorem dX4_run_59 : decode cX4_run 59 = .ok (.aload_n 0, 1) := by decide +kernel
theorem dX4_run_60 : decode cX4_run 60 = .ok (.invokevirtual 104, 3) := by decide +kernel
theorem dX4_run_63 : decode cX4_run 63 = .ok (.aload_n 0, 1) := by decide +kernel
theorem dX4_run_64 : decode cX4_run 64 = .ok (.getfield 33, 3) := by decide +kernel
theorem dX4_run_67 : decode cX4_run 67 = .ok (.bipush 59, 2) := by decide +kernel
theorem dX4_run_69 : decode cX4_run 69 = .ok (.invokevirtual 107, 3) := by decide +kernel
theorem dX4_run_72 : decode cX4_run 72 = .ok (.pop, 1) := by decide +kernel
theorem dX4_run_73 : decode cX4_run 73 = .ok (.iinc 2 1, 3) := by decide +kernel
theorem dX4_run_76 : decode cX4_run 76 = .ok (.goto (-33), 3) := by decide +kernel
theorem dX4_run_79 : decode cX4_run 79 = .ok (.aload_n 0, 1) := by decide +kernel
theorem dX4_run_80 : decode cX4_run 80 = .ok (.getfield 41, 3) := by decide +kernel
theorem dX4_run_83 : decode cX4_run 83 = .ok (.invokevirtual 111, 3) := by decide +kernel
theorem dX4_run_86 : decode cX4_run 86 = .ok (.aload_n 0, 1) := by decide +kernel
theorem dX4_run_87 : decode cX4_run 87 = .ok (.getfield 10, 3) := by decide +kernel
theorem dX4_run_90 : decode cX4_run 90 = .ok (.getfield 93, 3) := by decide +kernel
theorem dX4_run_93 : decode cX4_run 93 = .ok (.iload_n 1, 1) := by decide +kernel
theorem dX4_run_94 : decode cX4_run 94 = .ok (.isub, 1) := by decide +kernel
theorem dX4_run_95 : decode cX4_run 95 = .ok (.ireturn, 1) := by decide +kernel
theorem dX4_doReadDeed_0 : decode cX4_doReadDeed 0 = .ok (.aload_n 0, 1) := by decide +kernel
theorem dX4_doReadDeed_1 : decode cX4_doReadDeed 1 = .ok (.getfield 33, 3) := by decide +kernel
theorem dX4_doReadDeed_4 : decode cX4_doReadDeed 4 = .ok (.getfield 116, 3) := by decide +kernel
theorem dX4_doReadDeed_7 : decode cX4_doReadDeed 7 = .ok (.ifCond .ne 35, 3) := by decide +kernel
theorem dX4_doReadDeed_10 : decode cX4_doReadDeed 10 = .ok (.aload_n 0, 1) := by decide +kernel
theorem dX4_doReadDeed_11 : decode cX4_doReadDeed 11 = .ok (.getfield 10, 3) := by decide +kernel
theorem dX4_doReadDeed_14 : decode cX4_doReadDeed 14 = .ok (.aload_n 0, 1) := by decide +kernel
theorem dX4_doReadDeed_15 : decode cX4_doReadDeed 15 = .ok (.getfield 33, 3) := by decide +kernel
theorem dX4_doReadDeed_18 : decode cX4_doReadDeed 18 = .ok (.getfield 119, 3) := by decide +kernel
theorem dX4_doReadDeed_21 : decode cX4_doReadDeed 21 = .ok (.aload_n 0, 1) := by decide +kernel
theorem dX4_doReadDeed_22 : decode cX4_doReadDeed 22 = .ok (.getfield 33, 3) := by decide +kernel
theorem dX4_doReadDeed_25 : decode cX4_doReadDeed 25 = .ok (.getfield 122, 3) := by decide +kernel
theorem dX4_doReadDeed_28 : decode cX4_doReadDeed 28 = .ok (.aload_n 0, 1) := by decide +kernel
theorem dX4_doReadDeed_29 : decode cX4_doReadDeed 29 = .ok (.getfield 33, 3) := by decide +kernel
theorem dX4_doReadDeed_32 : decode cX4_doReadDeed 32 = .ok (.getfield 125, 3) := by decide +kernel
theorem dX4_doReadDeed_35 : decode cX4_doReadDeed 35 = .ok (.invokevirtual 70, 3) := by decide +kernel
theorem dX4_doReadDeed_38 : decode cX4_doReadDeed 38 = .ok (.pop, 1) := by decide +kernel
theorem dX4_doReadDeed_39 : decode cX4_doReadDeed 39 = .ok (.goto 57, 3) := by decide +kernel
theorem dX4_doReadDeed_42 : decode cX4_doReadDeed 42 = .ok (.aload_n 0, 1) := by decide +kernel
theorem dX4_doReadDeed_43 : decode cX4_doReadDeed 43 = .ok (.getfield 33, 3) := by decide +kernel
theorem dX4_doReadDeed_46 : decode cX4_doReadDeed 46 = .ok (.getfield 116, 3) := by decide +kernel
theorem dX4_doReadDeed_49 : decode cX4_doReadDeed 49 = .ok (.iconst 2, 1) := by decide +kernel
theorem dX4_doReadDeed_50 : decode cX4_doReadDeed 50 = .ok (.if_icmp .ne 14, 3) := by decide +kernel
theorem dX4_doReadDeed_53 : decode cX4_doReadDeed 53 = .ok (.aload_n 0, 1) := by decide +kernel
theorem dX4_doReadDeed_54 : decode cX4_doReadDeed 54 = .ok (.getfield 10, 3) := by decide +kernel
theorem dX4_doReadDeed_57 : decode cX4_doReadDeed 57 = .ok (.invokevirtual 82, 3) := by decide +kernel
theorem dX4_doReadDeed_60 : decode cX4_doReadDeed 60 = .ok (.pop, 1) := by decide +kernel
theorem dX4_doReadDeed_61 : decode cX4_doReadDeed 61 = .ok (.goto 35, 3) := by decide +kernel
theorem dX4_doReadDeed_64 : decode cX4_doReadDeed 64 = .ok (.aload_n 0, 1) := by decide +kernel
theorem dX4_doReadDeed_65 : decode cX4_doReadDeed 65 = .ok (.getfield 10, 3) := by decide +kernel
theorem dX4_doReadDeed_68 : decode cX4_doReadDeed 68 = .ok (.aload_n 0, 1) := by decide +kernel
theorem dX4_doReadDeed_69 : decode cX4_doReadDeed 69 = .ok (.getfield 33, 3) := by decide +kernel
theorem dX4_doReadDeed_72 : decode cX4_doReadDeed 72 = .ok (.getfield 125, 3) := by decide +kernel
theorem dX4_doReadDeed_75 : decode cX4_doReadDeed 75 = .ok (.invokevirtual 74, 3) := by decide +kernel
theorem dX4_doReadDeed_78 : decode cX4_doReadDeed 78 = .ok (.ifCond .eq 18, 3) := by decide +kernel
theorem dX4_doReadDeed_81 : decode cX4_doReadDeed 81 = .ok (.aload_n 0, 1) := by decide +kernel
theorem dX4_doReadDeed_82 : decode cX4_doReadDeed 82 = .ok (.getfield 10, 3) := by decide +kernel
theorem dX4_doReadDeed_85 : decode cX4_doReadDeed 85 = .ok (.aload_n 0, 1) := by decide +kernel
theorem dX4_doReadDeed_86 : decode cX4_doReadDeed 86 = .ok (.getfield 33, 3) := by decide +kernel
theorem dX4_doReadDeed_89 : decode cX4_doReadDeed 89 = .ok (.getfield 125, 3) := by decide +kernel
theorem dX4_doReadDeed_92 : decode cX4_doReadDeed 92 = .ok (.invokevirtual 78, 3) := by decide +kernel
theorem dX4_doReadDeed_95 : decode cX4_doReadDeed 95 = .ok (.pop, 1) := by decide +kernel
theorem dX4_doReadDeed_96 : decode cX4_doReadDeed 96 = .ok (.return_, 1) := by decide +kernel
theorem dX4_sector_0 : decode cX4_sector 0 = .ok (.iload_n 1, 1) := by decide +kernel
theorem dX4_sector_1 : decode cX4_sector 1 = .ok (.invokestatic 62, 3) := by decide +kernel
theorem dX4_sector_4 : decode cX4_sector 4 = .ok (.ifCond .ne 10, 3) := by decide +kernel
theorem dX4_sector_7 : decode cX4_sector 7 = .ok (.iload_n 2, 1) := by decide +kernel
theorem dX4_sector_8 : decode cX4_sector 8 = .ok (.invokestatic 66, 3) := by decide +kernel
theorem dX4_sector_11 : decode cX4_sector 11 = .ok (.ifCond .eq 6, 3) := by decide +kernel
theorem dX4_sector_14 : decode cX4_sector 14 = .ok (.ldc 69, 2) := by decide +kernel
theorem dX4_sector_16 : decode cX4_sector 16 = .ok (.ireturn, 1) := by decide +kernel
theorem dX4_sector_17 : decode cX4_sector 17 = .ok (.aload_n 0, 1) := by decide +kernel
theorem dX4_sector_18 : decode cX4_sector 18 = .ok (.getfield 10, 3) := by decide +kernel
theorem dX4_sector_21 : decode cX4_sector 21 = .ok (.getfield 128, 3) := by decide +kernel
theorem dX4_sector_24 : decode cX4_sector 24 = .ok (.iload_n 1, 1) := by decide +kernel
theorem dX4_sector_25 : decode cX4_sector 25 = .ok (.iload_n 2, 1) := by decide +kernel
theorem dX4_sector_26 : decode cX4_sector 26 = .ok (.aload_n 0, 1) := by decide +kernel
theorem dX4_sector_27 : decode cX4_sector 27 = .ok (.getfield 10, 3) := by decide +kernel
theorem dX4_sector_30 : decode cX4_sector 30 = .ok (.getfield 131, 3) := by decide +kernel
theorem dX4_sector_33 : decode cX4_sector 33 = .ok (.invokestatic 134, 3) := by decide +kernel
theorem dX4_sector_36 : decode cX4_sector 36 = .ok (.iaload, 1) := by decide +kernel
theorem dX4_sector_37 : decode cX4_sector 37 = .ok (.ireturn, 1) := by decide +kernel
theorem dX4_disc_0 : decode cX4_disc 0 = .ok (.iload_n 1, 1) := by decide +kernel
theorem dX4_disc_1 : decode cX4_disc 1 = .ok (.invokestatic 62, 3) := by decide +kernel
theorem dX4_disc_4 : decode cX4_disc 4 = .ok (.ifCond .eq 6, 3) := by decide +kernel
theorem dX4_disc_7 : decode cX4_disc 7 = .ok (.ldc 69, 2) := by decide +kernel
theorem dX4_disc_9 : decode cX4_disc 9 = .ok (.ireturn, 1) := by decide +kernel
theorem dX4_disc_10 : decode cX4_disc 10 = .ok (.iload_n 2, 1) := by decide +kernel
theorem dX4_disc_11 : decode cX4_disc 11 = .ok (.tableswitch 80 0 4 #[33, 42, 52, 62, 71], 33) := by decide +kernel
theorem dX4_disc_44 : decode cX4_disc 44 = .ok (.aload_n 0, 1) := by decide +kernel
theorem dX4_disc_45 : decode cX4_disc 45 = .ok (.getfield 10, 3) := by decide +kernel
theorem dX4_disc_48 : decode cX4_disc 48 = .ok (.iload_n 1, 1) := by decide +kernel
theorem dX4_disc_49 : decode cX4_disc 49 = .ok (.invokevirtual 137, 3) := by decide +kernel
theorem dX4_disc_52 : decode cX4_disc 52 = .ok (.ireturn, 1) := by decide +kernel
theorem dX4_disc_53 : decode cX4_disc 53 = .ok (.aload_n 0, 1) := by decide +kernel
theorem dX4_disc_54 : decode cX4_disc 54 = .ok (.getfield 10, 3) := by decide +kernel
theorem dX4_disc_57 : decode cX4_disc 57 = .ok (.iload_n 1, 1) := by decide +kernel
theorem dX4_disc_58 : decode cX4_disc 58 = .ok (.iconst 1, 1) := by decide +kernel
theorem dX4_disc_59 : decode cX4_disc 59 = .ok (.invokevirtual 140, 3) := by decide +kernel
theorem dX4_disc_62 : decode cX4_disc 62 = .ok (.ireturn, 1) := by decide +kernel
theorem dX4_disc_63 : decode cX4_disc 63 = .ok (.aload_n 0, 1) := by decide +kernel
theorem dX4_disc_64 : decode cX4_disc 64 = .ok (.getfield 10, 3) := by decide +kernel
theorem dX4_disc_67 : decode cX4_disc 67 = .ok (.iload_n 1, 1) := by decide +kernel
theorem dX4_disc_68 : decode cX4_disc 68 = .ok (.iconst (-1), 1) := by decide +kernel
theorem dX4_disc_69 : decode cX4_disc 69 = .ok (.invokevirtual 140, 3) := by decide +kernel
theorem dX4_disc_72 : decode cX4_disc 72 = .ok (.ireturn, 1) := by decide +kernel
theorem dX4_disc_73 : decode cX4_disc 73 = .ok (.aload_n 0, 1) := by decide +kernel
theorem dX4_disc_74 : decode cX4_disc 74 = .ok (.getfield 10, 3) := by decide +kernel
theorem dX4_disc_77 : decode cX4_disc 77 = .ok (.iload_n 1, 1) := by decide +kernel
theorem dX4_disc_78 : decode cX4_disc 78 = .ok (.invokevirtual 144, 3) := by decide +kernel
theorem dX4_disc_81 : decode cX4_disc 81 = .ok (.ireturn, 1) := by decide +kernel
theorem dX4_disc_82 : decode cX4_disc 82 = .ok (.aload_n 0, 1) := by decide +kernel
theorem dX4_disc_83 : decode cX4_disc 83 = .ok (.getfield 10, 3) := by decide +kernel
theorem dX4_disc_86 : decode cX4_disc 86 = .ok (.iload_n 1, 1) := by decide +kernel
theorem dX4_disc_87 : decode cX4_disc 87 = .ok (.invokevirtual 147, 3) := by decide +kernel
theorem dX4_disc_90 : decode cX4_disc 90 = .ok (.ireturn, 1) := by decide +kernel
theorem dX4_disc_91 : decode cX4_disc 91 = .ok (.ldc 42, 2) := by decide +kernel
theorem dX4_disc_93 : decode cX4_disc 93 = .ok (.ireturn, 1) := by decide +kernel
theorem dX4_jar_0 : decode cX4_jar 0 = .ok (.iload_n 1, 1) := by decide +kernel
theorem dX4_jar_1 : decode cX4_jar 1 = .ok (.ifCond .lt 8, 3) := by decide +kernel
theorem dX4_jar_4 : decode cX4_jar 4 = .ok (.iload_n 1, 1) := by decide +kernel
theorem dX4_jar_5 : decode cX4_jar 5 = .ok (.iconst 2, 1) := by decide +kernel
theorem dX4_jar_6 : decode cX4_jar 6 = .ok (.if_icmp .lt 6, 3) := by decide +kernel
theorem dX4_jar_9 : decode cX4_jar 9 = .ok (.ldc 69, 2) := by decide +kernel
theorem dX4_jar_11 : decode cX4_jar 11 = .ok (.ireturn, 1) := by decide +kernel
theorem dX4_jar_12 : decode cX4_jar 12 = .ok (.iload_n 2, 1) := by decide +kernel
theorem dX4_jar_13 : decode cX4_jar 13 = .ok (.tableswitch 57 0 2 #[27, 37, 47], 27) := by decide +kernel
theorem dX4_jar_40 : decode cX4_jar 40 = .ok (.aload_n 0, 1) := by decide +kernel
theorem dX4_jar_41 : decode cX4_jar 41 = .ok (.getfield 10, 3) := by decide +kernel
theorem dX4_jar_44 : decode cX4_jar 44 = .ok (.getfield 150, 3) := by decide +kernel
theorem dX4_jar_47 : decode cX4_jar 47 = .ok (.iload_n 1, 1) := by decide +kernel
theorem dX4_jar_48 : decode cX4_jar 48 = .ok (.iaload, 1) := by decide +kernel
theorem dX4_jar_49 : decode cX4_jar 49 = .ok (.ireturn, 1) := by decide +kernel
theorem dX4_jar_50 : decode cX4_jar 50 = .ok (.aload_n 0, 1) := by decide +kernel
theorem dX4_jar_51 : decode cX4_jar 51 = .ok (.getfield 10, 3) := by decide +kernel
theorem dX4_jar_54 : decode cX4_jar 54 = .ok (.getfield 153, 3) := by decide +kernel
theorem dX4_jar_57 : decode cX4_jar 57 = .ok (.iload_n 1, 1) := by decide +kernel
theorem dX4_jar_58 : decode cX4_jar 58 = .ok (.iaload, 1) := by decide +kernel
theorem dX4_jar_59 : decode cX4_jar 59 = .ok (.ireturn, 1) := by decide +kernel
theorem dX4_jar_60 : decode cX4_jar 60 = .ok (.aload_n 0, 1) := by decide +kernel
theorem dX4_jar_61 : decode cX4_jar 61 = .ok (.getfield 10, 3) := by decide +kernel
theorem dX4_jar_64 : decode cX4_jar 64 = .ok (.getfield 156, 3) := by decide +kernel
theorem dX4_jar_67 : decode cX4_jar 67 = .ok (.iload_n 1, 1) := by decide +kernel
theorem dX4_jar_68 : decode cX4_jar 68 = .ok (.iaload, 1) := by decide +kernel
theorem dX4_jar_69 : decode cX4_jar 69 = .ok (.ireturn, 1) := by decide +kernel
theorem dX4_jar_70 : decode cX4_jar 70 = .ok (.ldc 42, 2) := by decide +kernel
theorem dX4_jar_72 : decode cX4_jar 72 = .ok (.ireturn, 1) := by decide +kernel
theorem dX4_spark_0 : decode cX4_spark 0 = .ok (.iload_n 1, 1) := by decide +kernel
theorem dX4_spark_1 : decode cX4_spark 1 = .ok (.ifCond .lt 12, 3) := by decide +kernel
theorem dX4_spark_4 : decode cX4_spark 4 = .ok (.iload_n 2, 1) := by decide +kernel
theorem dX4_spark_5 : decode cX4_spark 5 = .ok (.ifCond .lt 8, 3) := by decide +kernel
theorem dX4_spark_8 : decode cX4_spark 8 = .ok (.iload_n 2, 1) := by decide +kernel
theorem dX4_spark_9 : decode cX4_spark 9 = .ok (.iconst 3, 1) := by decide +kernel
theorem dX4_spark_10 : decode cX4_spark 10 = .ok (.if_icmp .lt 6, 3) := by decide +kernel
theorem dX4_spark_13 : decode cX4_spark 13 = .ok (.ldc 42, 2) := by decide +kernel
theorem dX4_spark_15 : decode cX4_spark 15 = .ok (.ireturn, 1) := by decide +kernel
theorem dX4_spark_16 : decode cX4_spark 16 = .ok (.iload_n 1, 1) := by decide +kernel
theorem dX4_spark_17 : decode cX4_spark 17 = .ok (.bipush 8, 2) := by decide +kernel
theorem dX4_spark_19 : decode cX4_spark 19 = .ok (.if_icmp .ge 14, 3) := by decide +kernel
theorem dX4_spark_22 : decode cX4_spark 22 = .ok (.iload_n 1, 1) := by decide +kernel
theorem dX4_spark_23 : decode cX4_spark 23 = .ok (.aload_n 0, 1) := by decide +kernel
theorem dX4_spark_24 : decode cX4_spark 24 = .ok (.getfield 10, 3) := by decide +kernel
theorem dX4_spark_27 : decode cX4_spark 27 = .ok (.getfield 93, 3) := by decide +kernel
theorem dX4_spark_30 : decode cX4_spark 30 = .ok (.if_icmp .lt 6, 3) := by decide +kernel
theorem dX4_spark_33 : decode cX4_spark 33 = .ok (.ldc 91, 2) := by decide +kernel
theorem dX4_spark_35 : decode cX4_spark 35 = .ok (.ireturn, 1) := by decide +kernel
theorem dX4_spark_36 : decode cX4_spark 36 = .ok (.aload_n 0, 1) := by decide +kernel
theorem dX4_spark_37 : decode cX4_spark 37 = .ok (.getfield 10, 3) := by decide +kernel
theorem dX4_spark_40 : decode cX4_spark 40 = .ok (.getfield 159, 3) := by decide +kernel
theorem dX4_spark_43 : decode cX4_spark 43 = .ok (.aload_n 0, 1) := by decide +kernel
theorem dX4_spark_44 : decode cX4_spark 44 = .ok (.getfield 10, 3) := by decide +kernel
theorem dX4_spark_47 : decode cX4_spark 47 = .ok (.getfield 93, 3) := by decide +kernel
theorem dX4_spark_50 : decode cX4_spark 50 = .ok (.iconst 1, 1) := by decide +kernel
theorem dX4_spark_51 : decode cX4_spark 51 = .ok (.isub, 1) := by decide +kernel
theorem dX4_spark_52 : decode cX4_spark 52 = .ok (.iload_n 1, 1) := by decide +kernel
theorem dX4_spark_53 : decode cX4_spark 53 = .ok (.isub, 1) := by decide +kernel
theorem dX4_spark_54 : decode cX4_spark 54 = .ok (.invokestatic 162, 3) := by decide +kernel
theorem dX4_spark_57 : decode cX4_spark 57 = .ok (.iload_n 2, 1) := by decide +kernel
theorem dX4_spark_58 : decode cX4_spark 58 = .ok (.iadd, 1) := by decide +kernel
theorem dX4_spark_59 : decode cX4_spark 59 = .ok (.iaload, 1) := by decide +kernel
theorem dX4_spark_60 : decode cX4_spark 60 = .ok (.ireturn, 1) := by decide +kernel
theorem dX4_count_0 : decode cX4_count 0 = .ok (.iload_n 1, 1) := by decide +kernel
theorem dX4_count_1 : decode cX4_count 1 = .ok (.ifCond .lt 18, 3) := by decide +kernel
theorem dX4_count_4 : decode cX4_count 4 = .ok (.iload_n 1, 1) := by decide +kernel
theorem dX4_count_5 : decode cX4_count 5 = .ok (.iconst 5, 1) := by decide +kernel
theorem dX4_count_6 : decode cX4_count 6 = .ok (.if_icmp .ge 13, 3) := by decide +kernel
theorem dX4_count_9 : decode cX4_count 9 = .ok (.aload_n 0, 1) := by decide +kernel
theorem dX4_count_10 : decode cX4_count 10 = .ok (.getfield 10, 3) := by decide +kernel
theorem dX4_count_13 : decode cX4_count 13 = .ok (.getfield 59, 3) := by decide +kernel
theorem dX4_count_16 : decode cX4_count 16 = .ok (.iload_n 1, 1) := by decide +kernel
theorem dX4_count_17 : decode cX4_count 17 = .ok (.iaload, 1) := by decide +kernel
theorem dX4_count_18 : decode cX4_count 18 = .ok (.ireturn, 1) := by decide +kernel
theorem dX4_count_19 : decode cX4_count 19 = .ok (.iload_n 1, 1) := by decide +kernel
theorem dX4_count_20 : decode cX4_count 20 = .ok (.tableswitch 136 5 14 #[56, 64, 72, 80, 88, 96, 104, 112, 120, 128], 56) := by decide +kernel
theorem dX4_count_76 : decode cX4_count 76 = .ok (.aload_n 0, 1) := by decide +kernel
theorem dX4_count_77 : decode cX4_count 77 = .ok (.getfield 10, 3) := by decide +kernel
theorem dX4_count_80 : decode cX4_count 80 = .ok (.getfield 131, 3) := by decide +kernel
theorem dX4_count_83 : decode cX4_count 83 = .ok (.ireturn, 1) := by decide +kernel
theorem dX4_count_84 : decode cX4_count 84 = .ok (.aload_n 0, 1) := by decide +kernel
theorem dX4_count_85 : decode cX4_count 85 = .ok (.getfield 10, 3) := by decide +kernel
theorem dX4_count_88 : decode cX4_count 88 = .ok (.getfield 93, 3) := by decide +kernel
theorem dX4_count_91 : decode cX4_count 91 = .ok (.ireturn, 1) := by decide +kernel
theorem dX4_count_92 : decode cX4_count 92 = .ok (.aload_n 0, 1) := by decide +kernel
theorem dX4_count_93 : decode cX4_count 93 = .ok (.getfield 10, 3) := by decide +kernel
theorem dX4_count_96 : decode cX4_count 96 = .ok (.getfield 165, 3) := by decide +kernel
theorem dX4_count_99 : decode cX4_count 99 = .ok (.ireturn, 1) := by decide +kernel
theorem dX4_count_100 : decode cX4_count 100 = .ok (.aload_n 0, 1) := by decide +kernel
theorem dX4_count_101 : decode cX4_count 101 = .ok (.getfield 10, 3) := by decide +kernel
theorem dX4_count_104 : decode cX4_count 104 = .ok (.invokevirtual 168, 3) := by decide +kernel
theorem dX4_count_107 : decode cX4_count 107 = .ok (.ireturn, 1) := by decide +kernel
theorem dX4_count_108 : decode cX4_count 108 = .ok (.aload_n 0, 1) := by decide +kernel
theorem dX4_count_109 : decode cX4_count 109 = .ok (.getfield 10, 3) := by decide +kernel
theorem dX4_count_112 : decode cX4_count 112 = .ok (.invokevirtual 171, 3) := by decide +kernel
theorem dX4_count_115 : decode cX4_count 115 = .ok (.ireturn, 1) := by decide +kernel
theorem dX4_count_116 : decode cX4_count 116 = .ok (.aload_n 0, 1) := by decide +kernel
theorem dX4_count_117 : decode cX4_count 117 = .ok (.getfield 10, 3) := by decide +kernel
theorem dX4_count_120 : decode cX4_count 120 = .ok (.getfield 174, 3) := by decide +kernel
theorem dX4_count_123 : decode cX4_count 123 = .ok (.ireturn, 1) := by decide +kernel
theorem dX4_count_124 : decode cX4_count 124 = .ok (.aload_n 0, 1) := by decide +kernel
theorem dX4_count_125 : decode cX4_count 125 = .ok (.getfield 10, 3) := by decide +kernel
theorem dX4_count_128 : decode cX4_count 128 = .ok (.getfield 177, 3) := by decide +kernel
theorem dX4_count_131 : decode cX4_count 131 = .ok (.ireturn, 1) := by decide +kernel
theorem dX4_count_132 : decode cX4_count 132 = .ok (.aload_n 0, 1) := by decide +kernel
theorem dX4_count_133 : decode cX4_count 133 = .ok (.getfield 10, 3) := by decide +kernel
theorem dX4_count_136 : decode cX4_count 136 = .ok (.getfield 180, 3) := by decide +kernel
theorem dX4_count_139 : decode cX4_count 139 = .ok (.ireturn, 1) := by decide +kernel
theorem dX4_count_140 : decode cX4_count 140 = .ok (.aload_n 0, 1) := by decide +kernel
theorem dX4_count_141 : decode cX4_count 141 = .ok (.getfield 41, 3) := by decide +kernel
theorem dX4_count_144 : decode cX4_count 144 = .ok (.getfield 183, 3) := by decide +kernel
theorem dX4_count_147 : decode cX4_count 147 = .ok (.ireturn, 1) := by decide +kernel
theorem dX4_count_148 : decode cX4_count 148 = .ok (.aload_n 0, 1) := by decide +kernel
theorem dX4_count_149 : decode cX4_count 149 = .ok (.getfield 22, 3) := by decide +kernel
theorem dX4_count_152 : decode cX4_count 152 = .ok (.getfield 186, 3) := by decide +kernel
theorem dX4_count_155 : decode cX4_count 155 = .ok (.ireturn, 1) := by decide +kernel
theorem dX4_count_156 : decode cX4_count 156 = .ok (.ldc 42, 2) := by decide +kernel
theorem dX4_count_158 : decode cX4_count 158 = .ok (.ireturn, 1) := by decide +kernel
theorem dX4_untilSpark_0 : decode cX4_untilSpark 0 = .ok (.aload_n 0, 1) := by decide +kernel
theorem dX4_untilSpark_1 : decode cX4_untilSpark 1 = .ok (.getfield 16, 3) := by decide +kernel
theorem dX4_untilSpark_4 : decode cX4_untilSpark 4 = .ok (.aload_n 0, 1) := by decide +kernel
theorem dX4_untilSpark_5 : decode cX4_untilSpark 5 = .ok (.getfield 10, 3) := by decide +kernel
theorem dX4_untilSpark_8 : decode cX4_untilSpark 8 = .ok (.invokevirtual 189, 3) := by decide +kernel
theorem dX4_untilSpark_11 : decode cX4_untilSpark 11 = .ok (.aload_n 0, 1) := by decide +kernel
theorem dX4_untilSpark_12 : decode cX4_untilSpark 12 = .ok (.getfield 16, 3) := by decide +kernel
theorem dX4_untilSpark_15 : decode cX4_untilSpark 15 = .ok (.sipush 400, 3) := by decide +kernel
theorem dX4_untilSpark_18 : decode cX4_untilSpark 18 = .ok (.invokevirtual 192, 3) := by decide +kernel
theorem dX4_untilSpark_21 : decode cX4_untilSpark 21 = .ok (.ireturn, 1) := by decide +kernel
theorem dX4_ifTurned_0 : decode cX4_ifTurned 0 = .ok (.iload_n 1, 1) := by decide +kernel
theorem dX4_ifTurned_1 : decode cX4_ifTurned 1 = .ok (.iconst 1, 1) := by decide +kernel
theorem dX4_ifTurned_2 : decode cX4_ifTurned 2 = .ok (.if_icmp .lt 19, 3) := by decide +kernel
theorem dX4_ifTurned_5 : decode cX4_ifTurned 5 = .ok (.iload_n 1, 1) := by decide +kernel
theorem dX4_ifTurned_6 : decode cX4_ifTurned 6 = .ok (.sipush 400, 3) := by decide +kernel
theorem dX4_ifTurned_9 : decode cX4_ifTurned 9 = .ok (.if_icmp .gt 12, 3) := by decide +kernel
theorem dX4_ifTurned_12 : decode cX4_ifTurned 12 = .ok (.iload_n 2, 1) := by decide +kernel
theorem dX4_ifTurned_13 : decode cX4_ifTurned 13 = .ok (.ifCond .lt 8, 3) := by decide +kernel
theorem dX4_ifTurned_16 : decode cX4_ifTurned 16 = .ok (.iload_n 2, 1) := by decide +kernel
theorem dX4_ifTurned_17 : decode cX4_ifTurned 17 = .ok (.iconst 5, 1) := by decide +kernel
theorem dX4_ifTurned_18 : decode cX4_ifTurned 18 = .ok (.if_icmp .le 6, 3) := by decide +kernel
theorem dX4_ifTurned_21 : decode cX4_ifTurned 21 = .ok (.ldc 42, 2) := by decide +kernel
theorem dX4_ifTurned_23 : decode cX4_ifTurned 23 = .ok (.ireturn, 1) := by decide +kernel
theorem dX4_ifTurned_24 : decode cX4_ifTurned 24 = .ok (.aload_n 0, 1) := by decide +kernel
theorem dX4_ifTurned_25 : decode cX4_ifTurned 25 = .ok (.getfield 16, 3) := by decide +kernel
theorem dX4_ifTurned_28 : decode cX4_ifTurned 28 = .ok (.aload_n 0, 1) := by decide +kernel
theorem dX4_ifTurned_29 : decode cX4_ifTurned 29 = .ok (.getfield 10, 3) := by decide +kernel
theorem dX4_ifTurned_32 : decode cX4_ifTurned 32 = .ok (.invokevirtual 189, 3) := by decide +kernel
theorem dX4_ifTurned_35 : decode cX4_ifTurned 35 = .ok (.aload_n 0, 1) := by decide +kernel
theorem dX4_ifTurned_36 : decode cX4_ifTurned 36 = .ok (.getfield 16, 3) := by decide +kernel
theorem dX4_ifTurned_39 : decode cX4_ifTurned 39 = .ok (.iload_n 1, 1) := by decide +kernel
theorem dX4_ifTurned_40 : decode cX4_ifTurned 40 = .ok (.invokevirtual 195, 3) := by decide +kernel
theorem dX4_ifTurned_43 : decode cX4_ifTurned 43 = .ok (.istore_n 3, 1) := by decide +kernel
theorem dX4_ifTurned_44 : decode cX4_ifTurned 44 = .ok (.iload_n 2, 1) := by decide +kernel
theorem dX4_ifTurned_45 : decode cX4_ifTurned 45 = .ok (.tableswitch 89 0 4 #[35, 51, 67, 77, 87], 35) := by decide +kernel
theorem dX4_ifTurned_80 : decode cX4_ifTurned 80 = .ok (.aload_n 0, 1) := by decide +kernel
theorem dX4_ifTurned_81 : decode cX4_ifTurned 81 = .ok (.getfield 16, 3) := by decide +kernel
theorem dX4_ifTurned_84 : decode cX4_ifTurned 84 = .ok (.getfield 93, 3) := by decide +kernel
theorem dX4_ifTurned_87 : decode cX4_ifTurned 87 = .ok (.aload_n 0, 1) := by decide +kernel
theorem dX4_ifTurned_88 : decode cX4_ifTurned 88 = .ok (.getfield 10, 3) := by decide +kernel
theorem dX4_ifTurned_91 : decode cX4_ifTurned 91 = .ok (.getfield 93, 3) := by decide +kernel
theorem dX4_ifTurned_94 : decode cX4_ifTurned 94 = .ok (.isub, 1) := by decide +kernel
theorem dX4_ifTurned_95 : decode cX4_ifTurned 95 = .ok (.ireturn, 1) := by decide +kernel
theorem dX4_ifTurned_96 : decode cX4_ifTurned 96 = .ok (.aload_n 0, 1) := by decide +kernel
theorem dX4_ifTurned_97 : decode cX4_ifTurned 97 = .ok (.getfield 16, 3) := by decide +kernel
theorem dX4_ifTurned_100 : decode cX4_ifTurned 100 = .ok (.getfield 165, 3) := by decide +kernel
theorem dX4_ifTurned_103 : decode cX4_ifTurned 103 = .ok (.aload_n 0, 1) := by decide +kernel
theorem dX4_ifTurned_104 : decode cX4_ifTurned 104 = .ok (.getfield 10, 3) := by decide +kernel
theorem dX4_ifTurned_107 : decode cX4_ifTurned 107 = .ok (.getfield 165, 3) := by decide +kernel
theorem dX4_ifTurned_110 : decode cX4_ifTurned 110 = .ok (.isub, 1) := by decide +kernel
theorem dX4_ifTurned_111 : decode cX4_ifTurned 111 = .ok (.ireturn, 1) := by decide +kernel
theorem dX4_ifTurned_112 : decode cX4_ifTurned 112 = .ok (.aload_n 0, 1) := by decide +kernel
theorem dX4_ifTurned_113 : decode cX4_ifTurned 113 = .ok (.getfield 16, 3) := by decide +kernel
theorem dX4_ifTurned_116 : decode cX4_ifTurned 116 = .ok (.getfield 150, 3) := by decide +kernel
theorem dX4_ifTurned_119 : decode cX4_ifTurned 119 = .ok (.iconst 0, 1) := by decide +kernel
theorem dX4_ifTurned_120 : decode cX4_ifTurned 120 = .ok (.iaload, 1) := by decide +kernel
theorem dX4_ifTurned_121 : decode cX4_ifTurned 121 = .ok (.ireturn, 1) := by decide +kernel
theorem dX4_ifTurned_122 : decode cX4_ifTurned 122 = .ok (.aload_n 0, 1) := by decide +kernel
theorem dX4_ifTurned_123 : decode cX4_ifTurned 123 = .ok (.getfield 16, 3) := by decide +kernel
theorem dX4_ifTurned_126 : decode cX4_ifTurned 126 = .ok (.getfield 150, 3) := by decide +kernel
theorem dX4_ifTurned_129 : decode cX4_ifTurned 129 = .ok (.iconst 1, 1) := by decide +kernel
theorem dX4_ifTurned_130 : decode cX4_ifTurned 130 = .ok (.iaload, 1) := by decide +kernel
theorem dX4_ifTurned_131 : decode cX4_ifTurned 131 = .ok (.ireturn, 1) := by decide +kernel
theorem dX4_ifTurned_132 : decode cX4_ifTurned 132 = .ok (.iload_n 3, 1) := by decide +kernel
theorem dX4_ifTurned_133 : decode cX4_ifTurned 133 = .ok (.ireturn, 1) := by decide +kernel
theorem dX4_ifTurned_134 : decode cX4_ifTurned 134 = .ok (.aload_n 0, 1) := by decide +kernel
theorem dX4_ifTurned_135 : decode cX4_ifTurned 135 = .ok (.getfield 16, 3) := by decide +kernel
theorem dX4_ifTurned_138 : decode cX4_ifTurned 138 = .ok (.invokevirtual 171, 3) := by decide +kernel
theorem dX4_ifTurned_141 : decode cX4_ifTurned 141 = .ok (.ireturn, 1) := by decide +kernel
theorem dX4_widestGap_0 : decode cX4_widestGap 0 = .ok (.aload_n 0, 1) := by decide +kernel
theorem dX4_widestGap_1 : decode cX4_widestGap 1 = .ok (.getfield 16, 3) := by decide +kernel
theorem dX4_widestGap_4 : decode cX4_widestGap 4 = .ok (.aload_n 0, 1) := by decide +kernel
theorem dX4_widestGap_5 : decode cX4_widestGap 5 = .ok (.getfield 10, 3) := by decide +kernel
theorem dX4_widestGap_8 : decode cX4_widestGap 8 = .ok (.invokevirtual 189, 3) := by decide +kernel
theorem dX4_widestGap_11 : decode cX4_widestGap 11 = .ok (.iconst 0, 1) := by decide +kernel
theorem dX4_widestGap_12 : decode cX4_widestGap 12 = .ok (.istore_n 1, 1) := by decide +kernel
theorem dX4_widestGap_13 : decode cX4_widestGap 13 = .ok (.iconst 0, 1) := by decide +kernel
theorem dX4_widestGap_14 : decode cX4_widestGap 14 = .ok (.istore_n 2, 1) := by decide +kernel
theorem dX4_widestGap_15 : decode cX4_widestGap 15 = .ok (.iload_n 2, 1) := by decide +kernel
theorem dX4_widestGap_16 : decode cX4_widestGap 16 = .ok (.sipush 200, 3) := by decide +kernel
theorem dX4_widestGap_19 : decode cX4_widestGap 19 = .ok (.if_icmp .ge 28, 3) := by decide +kernel
theorem dX4_widestGap_22 : decode cX4_widestGap 22 = .ok (.aload_n 0, 1) := by decide +kernel
theorem dX4_widestGap_23 : decode cX4_widestGap 23 = .ok (.getfield 16, 3) := by decide +kernel
theorem dX4_widestGap_26 : decode cX4_widestGap 26 = .ok (.invokevirtual 198, 3) := by decide +kernel
theorem dX4_widestGap_29 : decode cX4_widestGap 29 = .ok (.iload_n 1, 1) := by decide +kernel
theorem dX4_widestGap_30 : decode cX4_widestGap 30 = .ok (.aload_n 0, 1) := by decide +kernel
theorem dX4_widestGap_31 : decode cX4_widestGap 31 = .ok (.getfield 16, 3) := by decide +kernel
theorem dX4_widestGap_34 : decode cX4_widestGap 34 = .ok (.invokevirtual 201, 3) := by decide +kernel
theorem dX4_widestGap_37 : decode cX4_widestGap 37 = .ok (.invokestatic 204, 3) := by decide +kernel
theorem dX4_widestGap_40 : decode cX4_widestGap 40 = .ok (.istore_n 1, 1) := by decide +kernel
theorem dX4_widestGap_41 : decode cX4_widestGap 41 = .ok (.iinc 2 1, 3) := by decide +kernel
theorem dX4_widestGap_44 : decode cX4_widestGap 44 = .ok (.goto (-29), 3) := by decide +kernel
theorem dX4_widestGap_47 : decode cX4_widestGap 47 = .ok (.iload_n 1, 1) := by decide +kernel
theorem dX4_widestGap_48 : decode cX4_widestGap 48 = .ok (.bipush 10, 2) := by decide +kernel
theorem dX4_widestGap_50 : decode cX4_widestGap 50 = .ok (.idiv, 1) := by decide +kernel
theorem dX4_widestGap_51 : decode cX4_widestGap 51 = .ok (.getstatic 47, 3) := by decide +kernel
theorem dX4_widestGap_54 : decode cX4_widestGap 54 = .ok (.iconst 2, 1) := by decide +kernel
theorem dX4_widestGap_55 : decode cX4_widestGap 55 = .ok (.iaload, 1) := by decide +kernel
theorem dX4_widestGap_56 : decode cX4_widestGap 56 = .ok (.invokestatic 209, 3) := by decide +kernel
theorem dX4_widestGap_59 : decode cX4_widestGap 59 = .ok (.istore_n 2, 1) := by decide +kernel
theorem dX4_widestGap_60 : decode cX4_widestGap 60 = .ok (.iload_n 2, 1) := by decide +kernel
theorem dX4_widestGap_61 : decode cX4_widestGap 61 = .ok (.getstatic 43, 3) := by decide +kernel
theorem dX4_widestGap_64 : decode cX4_widestGap 64 = .ok (.iconst 2, 1) := by decide +kernel
theorem dX4_widestGap_65 : decode cX4_widestGap 65 = .ok (.iaload, 1) := by decide +kernel
theorem dX4_widestGap_66 : decode cX4_widestGap 66 = .ok (.if_icmp .ge 8, 3) := by decide +kernel
theorem dX4_widestGap_69 : decode cX4_widestGap 69 = .ok (.ldc 91, 2) := by decide +kernel
theorem dX4_widestGap_71 : decode cX4_widestGap 71 = .ok (.goto 4, 3) := by decide +kernel
theorem dX4_widestGap_74 : decode cX4_widestGap 74 = .ok (.iload_n 2, 1) := by decide +kernel
theorem dX4_widestGap_75 : decode cX4_widestGap 75 = .ok (.ireturn, 1) := by decide +kernel
theorem dX4_mostDamp_0 : decode cX4_mostDamp 0 = .ok (.getstatic 47, 3) := by decide +kernel
theorem dX4_mostDamp_3 : decode cX4_mostDamp 3 = .ok (.iconst 1, 1) := by decide +kernel
theorem dX4_mostDamp_4 : decode cX4_mostDamp 4 = .ok (.iaload, 1) := by decide +kernel
theorem dX4_mostDamp_5 : decode cX4_mostDamp 5 = .ok (.istore_n 1, 1) := by decide +kernel
theorem dX4_mostDamp_6 : decode cX4_mostDamp 6 = .ok (.iload_n 1, 1) := by decide +kernel
theorem dX4_mostDamp_7 : decode cX4_mostDamp 7 = .ok (.getstatic 43, 3) := by decide +kernel
theorem dX4_mostDamp_10 : decode cX4_mostDamp 10 = .ok (.iconst 1, 1) := by decide +kernel
theorem dX4_mostDamp_11 : decode cX4_mostDamp 11 = .ok (.iaload, 1) := by decide +kernel
theorem dX4_mostDamp_12 : decode cX4_mostDamp 12 = .ok (.if_icmp .lt 47, 3) := by decide +kernel
theorem dX4_mostDamp_15 : decode cX4_mostDamp 15 = .ok (.aload_n 0, 1) := by decide +kernel
theorem dX4_mostDamp_16 : decode cX4_mostDamp 16 = .ok (.getfield 16, 3) := by decide +kernel
theorem dX4_mostDamp_19 : decode cX4_mostDamp 19 = .ok (.aload_n 0, 1) := by decide +kernel
theorem dX4_mostDamp_20 : decode cX4_mostDamp 20 = .ok (.getfield 10, 3) := by decide +kernel
theorem dX4_mostDamp_23 : decode cX4_mostDamp 23 = .ok (.invokevirtual 189, 3) := by decide +kernel
theorem dX4_mostDamp_26 : decode cX4_mostDamp 26 = .ok (.aload_n 0, 1) := by decide +kernel
theorem dX4_mostDamp_27 : decode cX4_mostDamp 27 = .ok (.getfield 16, 3) := by decide +kernel
theorem dX4_mostDamp_30 : decode cX4_mostDamp 30 = .ok (.getfield 59, 3) := by decide +kernel
theorem dX4_mostDamp_33 : decode cX4_mostDamp 33 = .ok (.iconst 1, 1) := by decide +kernel
theorem dX4_mostDamp_34 : decode cX4_mostDamp 34 = .ok (.iload_n 1, 1) := by decide +kernel
theorem dX4_mostDamp_35 : decode cX4_mostDamp 35 = .ok (.iastore, 1) := by decide +kernel
theorem dX4_mostDamp_36 : decode cX4_mostDamp 36 = .ok (.aload_n 0, 1) := by decide +kernel
theorem dX4_mostDamp_37 : decode cX4_mostDamp 37 = .ok (.getfield 16, 3) := by decide +kernel
theorem dX4_mostDamp_40 : decode cX4_mostDamp 40 = .ok (.sipush 200, 3) := by decide +kernel
theorem dX4_mostDamp_43 : decode cX4_mostDamp 43 = .ok (.invokevirtual 192, 3) := by decide +kernel
theorem dX4_mostDamp_46 : decode cX4_mostDamp 46 = .ok (.ldc 91, 2) := by decide +kernel
theorem dX4_mostDamp_48 : decode cX4_mostDamp 48 = .ok (.if_icmp .eq 5, 3) := by decide +kernel
theorem dX4_mostDamp_51 : decode cX4_mostDamp 51 = .ok (.iload_n 1, 1) := by decide +kernel
theorem dX4_mostDamp_52 : decode cX4_mostDamp 52 = .ok (.ireturn, 1) := by decide +kernel
theorem dX4_mostDamp_53 : decode cX4_mostDamp 53 = .ok (.iinc 1 (-1), 3) := by decide +kernel
theorem dX4_mostDamp_56 : decode cX4_mostDamp 56 = .ok (.goto (-50), 3) := by decide +kernel
theorem dX4_mostDamp_59 : decode cX4_mostDamp 59 = .ok (.ldc 91, 2) := by decide +kernel
theorem dX4_mostDamp_61 : decode cX4_mostDamp 61 = .ok (.ireturn, 1) := by decide +kernel
theorem dX4_put_0 : decode cX4_put 0 = .ok (.lload_n 1, 1) := by decide +kernel
theorem dX4_put_1 : decode cX4_put 1 = .ok (.invokestatic 212, 3) := by decide +kernel
theorem dX4_put_4 : decode cX4_put 4 = .ok (.istore_n 3, 1) := by decide +kernel
theorem dX4_put_5 : decode cX4_put 5 = .ok (.iload_n 3, 1) := by decide +kernel
theorem dX4_put_6 : decode cX4_put 6 = .ok (.ifCond .ne 6, 3) := by decide +kernel
theorem dX4_put_9 : decode cX4_put 9 = .ok (.ldc 42, 2) := by decide +kernel
theorem dX4_put_11 : decode cX4_put 11 = .ok (.ireturn, 1) := by decide +kernel
theorem dX4_put_12 : decode cX4_put 12 = .ok (.aload_n 0, 1) := by decide +kernel
theorem dX4_put_13 : decode cX4_put 13 = .ok (.getfield 41, 3) := by decide +kernel
theorem dX4_put_16 : decode cX4_put 16 = .ok (.getfield 183, 3) := by decide +kernel
theorem dX4_put_19 : decode cX4_put 19 = .ok (.iload_n 3, 1) := by decide +kernel
theorem dX4_put_20 : decode cX4_put 20 = .ok (.iadd, 1) := by decide +kernel
theorem dX4_put_21 : decode cX4_put 21 = .ok (.bipush 60, 2) := by decide +kernel
theorem dX4_put_23 : decode cX4_put 23 = .ok (.if_icmp .le 6, 3) := by decide +kernel
theorem dX4_put_26 : decode cX4_put 26 = .ok (.ldc 77, 2) := by decide +kernel
theorem dX4_put_28 : decode cX4_put 28 = .ok (.ireturn, 1) := by decide +kernel
theorem dX4_put_29 : decode cX4_put 29 = .ok (.aload_n 0, 1) := by decide +kernel
theorem dX4_put_30 : decode cX4_put 30 = .ok (.getfield 41, 3) := by decide +kernel
theorem dX4_put_33 : decode cX4_put 33 = .ok (.lload_n 1, 1) := by decide +kernel
theorem dX4_put_34 : decode cX4_put 34 = .ok (.iload_n 3, 1) := by decide +kernel
theorem dX4_put_35 : decode cX4_put 35 = .ok (.invokevirtual 216, 3) := by decide +kernel
theorem dX4_put_38 : decode cX4_put 38 = .ok (.aload_n 0, 1) := by decide +kernel
theorem dX4_put_39 : decode cX4_put 39 = .ok (.getfield 41, 3) := by decide +kernel
theorem dX4_put_42 : decode cX4_put 42 = .ok (.getfield 183, 3) := by decide +kernel
theorem dX4_put_45 : decode cX4_put 45 = .ok (.ireturn, 1) := by decide +kernel
theorem dX4_wipe_0 : decode cX4_wipe 0 = .ok (.aload_n 0, 1) := by decide +kernel
theorem dX4_wipe_1 : decode cX4_wipe 1 = .ok (.getfield 41, 3) := by decide +kernel
theorem dX4_wipe_4 : decode cX4_wipe 4 = .ok (.getfield 183, 3) := by decide +kernel
theorem dX4_wipe_7 : decode cX4_wipe 7 = .ok (.istore_n 1, 1) := by decide +kernel
theorem dX4_wipe_8 : decode cX4_wipe 8 = .ok (.aload_n 0, 1) := by decide +kernel
theorem dX4_wipe_9 : decode cX4_wipe 9 = .ok (.getfield 41, 3) := by decide +kernel
theorem dX4_wipe_12 : decode cX4_wipe 12 = .ok (.invokevirtual 111, 3) := by decide +kernel
theorem dX4_wipe_15 : decode cX4_wipe 15 = .ok (.iload_n 1, 1) := by decide +kernel
theorem dX4_wipe_16 : decode cX4_wipe 16 = .ok (.ireturn, 1) := by decide +kernel
theorem dX4_fault_0 : decode cX4_fault 0 = .ok (.aload_n 0, 1) := by decide +kernel
theorem dX4_fault_1 : decode cX4_fault 1 = .ok (.getfield 33, 3) := by decide +kernel
theorem dX4_fault_4 : decode cX4_fault 4 = .ok (.invokevirtual 88, 3) := by decide +kernel
theorem dX4_fault_7 : decode cX4_fault 7 = .ok (.ireturn, 1) := by decide +kernel
theorem dX4_undo_0 : decode cX4_undo 0 = .ok (.aload_n 0, 1) := by decide +kernel
theorem dX4_undo_1 : decode cX4_undo 1 = .ok (.getfield 22, 3) := by decide +kernel
theorem dX4_undo_4 : decode cX4_undo 4 = .ok (.aload_n 0, 1) := by decide +kernel
theorem dX4_undo_5 : decode cX4_undo 5 = .ok (.getfield 10, 3) := by decide +kernel
theorem dX4_undo_8 : decode cX4_undo 8 = .ok (.invokevirtual 220, 3) := by decide +kernel
theorem dX4_undo_11 : decode cX4_undo 11 = .ok (.ifCond .ne 6, 3) := by decide +kernel
theorem dX4_undo_14 : decode cX4_undo 14 = .ok (.ldc 54, 2) := by decide +kernel
theorem dX4_undo_16 : decode cX4_undo 16 = .ok (.ireturn, 1) := by decide +kernel
theorem dX4_undo_17 : decode cX4_undo 17 = .ok (.aload_n 0, 1) := by decide +kernel
theorem dX4_undo_18 : decode cX4_undo 18 = .ok (.getfield 22, 3) := by decide +kernel
theorem dX4_undo_21 : decode cX4_undo 21 = .ok (.getfield 186, 3) := by decide +kernel
theorem dX4_undo_24 : decode cX4_undo 24 = .ok (.ireturn, 1) := by decide +kernel
theorem dX4_save_0 : decode cX4_save 0 = .ok (.iload_n 1, 1) := by decide +kernel
theorem dX4_save_1 : decode cX4_save 1 = .ok (.ifCond .lt 8, 3) := by decide +kernel
theorem dX4_save_4 : decode cX4_save 4 = .ok (.iload_n 1, 1) := by decide +kernel
theorem dX4_save_5 : decode cX4_save 5 = .ok (.iconst 2, 1) := by decide +kernel
theorem dX4_save_6 : decode cX4_save 6 = .ok (.if_icmp .lt 6, 3) := by decide +kernel
theorem dX4_save_9 : decode cX4_save 9 = .ok (.ldc 42, 2) := by decide +kernel
theorem dX4_save_11 : decode cX4_save 11 = .ok (.ireturn, 1) := by decide +kernel
theorem dX4_save_12 : decode cX4_save 12 = .ok (.aload_n 0, 1) := by decide +kernel
theorem dX4_save_13 : decode cX4_save 13 = .ok (.getfield 26, 3) := by decide +kernel
theorem dX4_save_16 : decode cX4_save 16 = .ok (.iload_n 1, 1) := by decide +kernel
theorem dX4_save_17 : decode cX4_save 17 = .ok (.aaload, 1) := by decide +kernel
theorem dX4_save_18 : decode cX4_save 18 = .ok (.astore_n 2, 1) := by decide +kernel
theorem dX4_save_19 : decode cX4_save 19 = .ok (.aload_n 2, 1) := by decide +kernel
theorem dX4_save_20 : decode cX4_save 20 = .ok (.ifnonnull 18, 3) := by decide +kernel
theorem dX4_save_23 : decode cX4_save 23 = .ok (.new 7, 3) := by decide +kernel
theorem dX4_save_26 : decode cX4_save 26 = .ok (.dup, 1) := by decide +kernel
theorem dX4_save_27 : decode cX4_save 27 = .ok (.invokespecial 9, 3) := by decide +kernel
theorem dX4_save_30 : decode cX4_save 30 = .ok (.astore_n 2, 1) := by decide +kernel
theorem dX4_save_31 : decode cX4_save 31 = .ok (.aload_n 0, 1) := by decide +kernel
theorem dX4_save_32 : decode cX4_save 32 = .ok (.getfield 26, 3) := by decide +kernel
theorem dX4_save_35 : decode cX4_save 35 = .ok (.iload_n 1, 1) := by decide +kernel
theorem dX4_save_36 : decode cX4_save 36 = .ok (.aload_n 2, 1) := by decide +kernel
theorem dX4_save_37 : decode cX4_save 37 = .ok (.aastore, 1) := by decide +kernel
theorem dX4_save_38 : decode cX4_save 38 = .ok (.aload_n 2, 1) := by decide +kernel
theorem dX4_save_39 : decode cX4_save 39 = .ok (.aload_n 0, 1) := by decide +kernel
theorem dX4_save_40 : decode cX4_save 40 = .ok (.getfield 10, 3) := by decide +kernel
theorem dX4_save_43 : decode cX4_save 43 = .ok (.invokevirtual 189, 3) := by decide +kernel
theorem dX4_save_46 : decode cX4_save 46 = .ok (.aload_n 0, 1) := by decide +kernel
theorem dX4_save_47 : decode cX4_save 47 = .ok (.getfield 10, 3) := by decide +kernel
theorem dX4_save_50 : decode cX4_save 50 = .ok (.getfield 131, 3) := by decide +kernel
theorem dX4_save_53 : decode cX4_save 53 = .ok (.ireturn, 1) := by decide +kernel
theorem dX4_restore_0 : decode cX4_restore 0 = .ok (.iload_n 1, 1) := by decide +kernel
theorem dX4_restore_1 : decode cX4_restore 1 = .ok (.ifCond .lt 8, 3) := by decide +kernel
theorem dX4_restore_4 : decode cX4_restore 4 = .ok (.iload_n 1, 1) := by decide +kernel
theorem dX4_restore_5 : decode cX4_restore 5 = .ok (.iconst 2, 1) := by decide +kernel
theorem dX4_restore_6 : decode cX4_restore 6 = .ok (.if_icmp .lt 6, 3) := by decide +kernel
theorem dX4_restore_9 : decode cX4_restore 9 = .ok (.ldc 42, 2) := by decide +kernel
theorem dX4_restore_11 : decode cX4_restore 11 = .ok (.ireturn, 1) := by decide +kernel
theorem dX4_restore_12 : decode cX4_restore 12 = .ok (.aload_n 0, 1) := by decide +kernel
theorem dX4_restore_13 : decode cX4_restore 13 = .ok (.getfield 26, 3) := by decide +kernel
theorem dX4_restore_16 : decode cX4_restore 16 = .ok (.iload_n 1, 1) := by decide +kernel
theorem dX4_restore_17 : decode cX4_restore 17 = .ok (.aaload, 1) := by decide +kernel
theorem dX4_restore_18 : decode cX4_restore 18 = .ok (.astore_n 2, 1) := by decide +kernel
theorem dX4_restore_19 : decode cX4_restore 19 = .ok (.aload_n 2, 1) := by decide +kernel
theorem dX4_restore_20 : decode cX4_restore 20 = .ok (.ifnonnull 6, 3) := by decide +kernel
theorem dX4_restore_23 : decode cX4_restore 23 = .ok (.ldc 54, 2) := by decide +kernel
theorem dX4_restore_25 : decode cX4_restore 25 = .ok (.ireturn, 1) := by decide +kernel
theorem dX4_restore_26 : decode cX4_restore 26 = .ok (.aload_n 0, 1) := by decide +kernel
theorem dX4_restore_27 : decode cX4_restore 27 = .ok (.getfield 22, 3) := by decide +kernel
theorem dX4_restore_30 : decode cX4_restore 30 = .ok (.aload_n 0, 1) := by decide +kernel
theorem dX4_restore_31 : decode cX4_restore 31 = .ok (.getfield 10, 3) := by decide +kernel
theorem dX4_restore_34 : decode cX4_restore 34 = .ok (.invokevirtual 55, 3) := by decide +kernel
theorem dX4_restore_37 : decode cX4_restore 37 = .ok (.aload_n 0, 1) := by decide +kernel
theorem dX4_restore_38 : decode cX4_restore 38 = .ok (.getfield 10, 3) := by decide +kernel
theorem dX4_restore_41 : decode cX4_restore 41 = .ok (.aload_n 2, 1) := by decide +kernel
theorem dX4_restore_42 : decode cX4_restore 42 = .ok (.invokevirtual 189, 3) := by decide +kernel
theorem dX4_restore_45 : decode cX4_restore 45 = .ok (.aload_n 0, 1) := by decide +kernel
theorem dX4_restore_46 : decode cX4_restore 46 = .ok (.getfield 10, 3) := by decide +kernel
theorem dX4_restore_49 : decode cX4_restore 49 = .ok (.getfield 131, 3) := by decide +kernel
theorem dX4_restore_52 : decode cX4_restore 52 = .ok (.ireturn, 1) := by decide +kernel
theorem dX4_isNoDisc_0 : decode cX4_isNoDisc 0 = .ok (.iload_n 0, 1) := by decide +kernel
theorem dX4_isNoDisc_1 : decode cX4_isNoDisc 1 = .ok (.ifCond .lt 8, 3) := by decide +kernel
theorem dX4_isNoDisc_4 : decode cX4_isNoDisc 4 = .ok (.iload_n 0, 1) := by decide +kernel
theorem dX4_isNoDisc_5 : decode cX4_isNoDisc 5 = .ok (.iconst 2, 1) := by decide +kernel
theorem dX4_isNoDisc_6 : decode cX4_isNoDisc 6 = .ok (.if_icmp .lt 7, 3) := by decide +kernel
theorem dX4_isNoDisc_9 : decode cX4_isNoDisc 9 = .ok (.iconst 1, 1) := by decide +kernel
theorem dX4_isNoDisc_10 : decode cX4_isNoDisc 10 = .ok (.goto 4, 3) := by decide +kernel
theorem dX4_isNoDisc_13 : decode cX4_isNoDisc 13 = .ok (.iconst 0, 1) := by decide +kernel
theorem dX4_isNoDisc_14 : decode cX4_isNoDisc 14 = .ok (.ireturn, 1) := by decide +kernel
theorem dX4_isNoPlace_0 : decode cX4_isNoPlace 0 = .ok (.iload_n 0, 1) := by decide +kernel
theorem dX4_isNoPlace_1 : decode cX4_isNoPlace 1 = .ok (.ifCond .lt 9, 3) := by decide +kernel
theorem dX4_isNoPlace_4 : decode cX4_isNoPlace 4 = .ok (.iload_n 0, 1) := by decide +kernel
theorem dX4_isNoPlace_5 : decode cX4_isNoPlace 5 = .ok (.bipush 12, 2) := by decide +kernel
theorem dX4_isNoPlace_7 : decode cX4_isNoPlace 7 = .ok (.if_icmp .lt 7, 3) := by decide +kernel
theorem dX4_isNoPlace_10 : decode cX4_isNoPlace 10 = .ok (.iconst 1, 1) := by decide +kernel
theorem dX4_isNoPlace_11 : decode cX4_isNoPlace 11 = .ok (.goto 4, 3) := by decide +kernel
theorem dX4_isNoPlace_14 : decode cX4_isNoPlace 14 = .ok (.iconst 0, 1) := by decide +kernel
theorem dX4_isNoPlace_15 : decode cX4_isNoPlace 15 = .ok (.ireturn, 1) := by decide +kernel
theorem dX4_charactersIn_0 : decode cX4_charactersIn 0 = .ok (.iconst 0, 1) := by decide +kernel
theorem dX4_charactersIn_1 : decode cX4_charactersIn 1 = .ok (.istore_n 2, 1) := by decide +kernel
theorem dX4_charactersIn_2 : decode cX4_charactersIn 2 = .ok (.lload_n 0, 1) := by decide +kernel
theorem dX4_charactersIn_3 : decode cX4_charactersIn 3 = .ok (.lstore_n 3, 1) := by decide +kernel
theorem dX4_charactersIn_4 : decode cX4_charactersIn 4 = .ok (.iconst 0, 1) := by decide +kernel
theorem dX4_charactersIn_5 : decode cX4_charactersIn 5 = .ok (.istore 5, 2) := by decide +kernel
theorem dX4_charactersIn_7 : decode cX4_charactersIn 7 = .ok (.iload 5, 2) := by decide +kernel
theorem dX4_charactersIn_9 : decode cX4_charactersIn 9 = .ok (.bipush 8, 2) := by decide +kernel
theorem dX4_charactersIn_11 : decode cX4_charactersIn 11 = .ok (.if_icmp .ge 47, 3) := by decide +kernel
theorem dX4_charactersIn_14 : decode cX4_charactersIn 14 = .ok (.lload_n 3, 1) := by decide +kernel
theorem dX4_charactersIn_15 : decode cX4_charactersIn 15 = .ok (.lconst 0, 1) := by decide +kernel
theorem dX4_charactersIn_16 : decode cX4_charactersIn 16 = .ok (.lcmp, 1) := by decide +kernel
theorem dX4_charactersIn_17 : decode cX4_charactersIn 17 = .ok (.ifCond .eq 41, 3) := by decide +kernel
theorem dX4_charactersIn_20 : decode cX4_charactersIn 20 = .ok (.lload_n 3, 1) := by decide +kernel
theorem dX4_charactersIn_21 : decode cX4_charactersIn 21 = .ok (.ldc2_w 224, 3) := by decide +kernel
theorem dX4_charactersIn_24 : decode cX4_charactersIn 24 = .ok (.land, 1) := by decide +kernel
theorem dX4_charactersIn_25 : decode cX4_charactersIn 25 = .ok (.l2i, 1) := by decide +kernel
theorem dX4_charactersIn_26 : decode cX4_charactersIn 26 = .ok (.istore 6, 2) := by decide +kernel
theorem dX4_charactersIn_28 : decode cX4_charactersIn 28 = .ok (.iload 6, 2) := by decide +kernel
theorem dX4_charactersIn_30 : decode cX4_charactersIn 30 = .ok (.bipush 33, 2) := by decide +kernel
theorem dX4_charactersIn_32 : decode cX4_charactersIn 32 = .ok (.if_icmp .lt 10, 3) := by decide +kernel
theorem dX4_charactersIn_35 : decode cX4_charactersIn 35 = .ok (.iload 6, 2) := by decide +kernel
theorem dX4_charactersIn_37 : decode cX4_charactersIn 37 = .ok (.bipush 126, 2) := by decide +kernel
theorem dX4_charactersIn_39 : decode cX4_charactersIn 39 = .ok (.if_icmp .le 5, 3) := by decide +kernel
theorem dX4_charactersIn_42 : decode cX4_charactersIn 42 = .ok (.iconst 0, 1) := by decide +kernel
theorem dX4_charactersIn_43 : decode cX4_charactersIn 43 = .ok (.ireturn, 1) := by decide +kernel
theorem dX4_charactersIn_44 : decode cX4_charactersIn 44 = .ok (.iinc 2 1, 3) := by decide +kernel
theorem dX4_charactersIn_47 : decode cX4_charactersIn 47 = .ok (.lload_n 3, 1) := by decide +kernel
theorem dX4_charactersIn_48 : decode cX4_charactersIn 48 = .ok (.bipush 8, 2) := by decide +kernel
theorem dX4_charactersIn_50 : decode cX4_charactersIn 50 = .ok (.lushr, 1) := by decide +kernel
theorem dX4_charactersIn_51 : decode cX4_charactersIn 51 = .ok (.lstore_n 3, 1) := by decide +kernel
theorem dX4_charactersIn_52 : decode cX4_charactersIn 52 = .ok (.iinc 5 1, 3) := by decide +kernel
theorem dX4_charactersIn_55 : decode cX4_charactersIn 55 = .ok (.goto (-48), 3) := by decide +kernel
theorem dX4_charactersIn_58 : decode cX4_charactersIn 58 = .ok (.iload_n 2, 1) := by decide +kernel
theorem dX4_charactersIn_59 : decode cX4_charactersIn 59 = .ok (.ireturn, 1) := by decide +kernel
theorem dX4_limited_0 : decode cX4_limited 0 = .ok (.iload_n 1, 1) := by decide +kernel
theorem dX4_limited_1 : decode cX4_limited 1 = .ok (.iload_n 2, 1) := by decide +kernel
theorem dX4_limited_2 : decode cX4_limited 2 = .ok (.iload_n 0, 1) := by decide +kernel
theorem dX4_limited_3 : decode cX4_limited 3 = .ok (.invokestatic 209, 3) := by decide +kernel
theorem dX4_limited_6 : decode cX4_limited 6 = .ok (.invokestatic 204, 3) := by decide +kernel
theorem dX4_limited_9 : decode cX4_limited 9 = .ok (.ireturn, 1) := by decide +kernel
theorem dX4_copyNumbers_0 : decode cX4_copyNumbers 0 = .ok (.aload_n 0, 1) := by decide +kernel
theorem dX4_copyNumbers_1 : decode cX4_copyNumbers 1 = .ok (.iconst 0, 1) := by decide +kernel
theorem dX4_copyNumbers_2 : decode cX4_copyNumbers 2 = .ok (.aload_n 1, 1) := by decide +kernel
theorem dX4_copyNumbers_3 : decode cX4_copyNumbers 3 = .ok (.iconst 0, 1) := by decide +kernel
theorem dX4_copyNumbers_4 : decode cX4_copyNumbers 4 = .ok (.aload_n 0, 1) := by decide +kernel
theorem dX4_copyNumbers_5 : decode cX4_copyNumbers 5 = .ok (.arraylength, 1) := by decide +kernel
theorem dX4_copyNumbers_6 : decode cX4_copyNumbers 6 = .ok (.aload_n 1, 1) := by decide +kernel
theorem dX4_copyNumbers_7 : decode cX4_copyNumbers 7 = .ok (.arraylength, 1) := by decide +kernel
theorem dX4_copyNumbers_8 : decode cX4_copyNumbers 8 = .ok (.invokestatic 209, 3) := by decide +kernel
theorem dX4_copyNumbers_11 : decode cX4_copyNumbers 11 = .ok (.invokestatic 226, 3) := by decide +kernel
theorem dX4_copyNumbers_14 : decode cX4_copyNumbers 14 = .ok (.return_, 1) := by decide +kernel
theorem dX5_init_0 : decode cX5_init 0 = .ok (.aload_n 0, 1) := by decide +kernel
theorem dX5_init_1 : decode cX5_init 1 = .ok (.invokespecial 1, 3) := by decide +kernel
theorem dX5_init_4 : decode cX5_init 4 = .ok (.aload_n 0, 1) := by decide +kernel
theorem dX5_init_5 : decode cX5_init 5 = .ok (.bipush 67, 2) := by decide +kernel
theorem dX5_init_7 : decode cX5_init 7 = .ok (.newarray .int, 2) := by decide +kernel
theorem dX5_init_9 : decode cX5_init 9 = .ok (.putfield 7, 3) := by decide +kernel
theorem dX5_init_12 : decode cX5_init 12 = .ok (.aload_n 0, 1) := by decide +kernel
theorem dX5_init_13 : decode cX5_init 13 = .ok (.bipush 67, 2) := by decide +kernel
theorem dX5_init_15 : decode cX5_init 15 = .ok (.newarray .int, 2) := by decide +kernel
theorem dX5_init_17 : decode cX5_init 17 = .ok (.putfield 13, 3) := by decide +kernel
theorem dX5_init_20 : decode cX5_init 20 = .ok (.aload_n 0, 1) := by decide +kernel
theorem dX5_init_21 : decode cX5_init 21 = .ok (.sipush 402, 3) := by decide +kernel
theorem dX5_init_24 : decode cX5_init 24 = .ok (.newarray .int, 2) := by decide +kernel
theorem dX5_init_26 : decode cX5_init 26 = .ok (.putfield 16, 3) := by decide +kernel
theorem dX5_init_29 : decode cX5_init 29 = .ok (.aload_n 0, 1) := by decide +kernel
theorem dX5_init_30 : decode cX5_init 30 = .ok (.sipush 134, 3) := by decide +kernel
theorem dX5_init_33 : decode cX5_init 33 = .ok (.newarray .int, 2) := by decide +kernel
theorem dX5_init_35 : decode cX5_init 35 = .ok (.putfield 19, 3) := by decide +kernel
theorem dX5_init_38 : decode cX5_init 38 = .ok (.aload_n 0, 1) := by decide +kernel
theorem dX5_init_39 : decode cX5_init 39 = .ok (.iconst 2, 1) := by decide +kernel
theorem dX5_init_40 : decode cX5_init 40 = .ok (.newarray .int, 2) := by decide +kernel
theorem dX5_init_42 : decode cX5_init 42 = .ok (.putfield 22, 3) := by decide +kernel
theorem dX5_init_45 : decode cX5_init 45 = .ok (.aload_n 0, 1) := by decide +kernel
theorem dX5_init_46 : decode cX5_init 46 = .ok (.bipush 60, 2) := by decide +kernel
theorem dX5_init_48 : decode cX5_init 48 = .ok (.newarray .int, 2) := by decide +kernel
theorem dX5_init_50 : decode cX5_init 50 = .ok (.putfield 25, 3) := by decide +kernel
theorem dX5_init_53 : decode cX5_init 53 = .ok (.aload_n 0, 1) := by decide +kernel
theorem dX5_init_54 : decode cX5_init 54 = .ok (.getfield 7, 3) := by decide +kernel
theorem dX5_init_57 : decode cX5_init 57 = .ok (.iconst 0, 1) := by decide +kernel
theorem dX5_init_58 : decode cX5_init 58 = .ok (.bipush 12, 2) := by decide +kernel
theorem dX5_init_60 : decode cX5_init 60 = .ok (.iastore, 1) := by decide +kernel
theorem dX5_init_61 : decode cX5_init 61 = .ok (.aload_n 0, 1) := by decide +kernel
theorem dX5_init_62 : decode cX5_init 62 = .ok (.getfield 7, 3) := by decide +kernel
theorem dX5_init_65 : decode cX5_init 65 = .ok (.iconst 1, 1) := by decide +kernel
theorem dX5_init_66 : decode cX5_init 66 = .ok (.iconst 2, 1) := by decide +kernel
theorem dX5_init_67 : decode cX5_init 67 = .ok (.iastore, 1) := by decide +kernel
theorem dX5_init_68 : decode cX5_init 68 = .ok (.aload_n 0, 1) := by decide +kernel
theorem dX5_init_69 : decode cX5_init 69 = .ok (.getfield 7, 3) := by decide +kernel
theorem dX5_init_72 : decode cX5_init 72 = .ok (.iconst 2, 1) := by decide +kernel
theorem dX5_init_73 : decode cX5_init 73 = .ok (.bipush 30, 2) := by decide +kernel
theorem dX5_init_75 : decode cX5_init 75 = .ok (.iastore, 1) := by decide +kernel
theorem dX5_init_76 : decode cX5_init 76 = .ok (.aload_n 0, 1) := by decide +kernel
theorem dX5_init_77 : decode cX5_init 77 = .ok (.getfield 7, 3) := by decide +kernel
theorem dX5_init_80 : decode cX5_init 80 = .ok (.iconst 3, 1) := by decide +kernel
theorem dX5_init_81 : decode cX5_init 81 = .ok (.bipush 20, 2) := by decide +kernel
theorem dX5_init_83 : decode cX5_init 83 = .ok (.iastore, 1) := by decide +kernel
theorem dX5_init_84 : decode cX5_init 84 = .ok (.aload_n 0, 1) := by decide +kernel
theorem dX5_init_85 : decode cX5_init 85 = .ok (.getfield 7, 3) := by decide +kernel
theorem dX5_init_88 : decode cX5_init 88 = .ok (.iconst 4, 1) := by decide +kernel
theorem dX5_init_89 : decode cX5_init 89 = .ok (.sipush 1000, 3) := by decide +kernel
theorem dX5_init_92 : decode cX5_init 92 = .ok (.iastore, 1) := by decide +kernel
theorem dX5_init_93 : decode cX5_init 93 = .ok (.return_, 1) := by decide +kernel
theorem dX5_in_0 : decode cX5_in 0 = .ok (.lload_n 0, 1) := by decide +kernel
theorem dX5_in_1 : decode cX5_in 1 = .ok (.lload_n 2, 1) := by decide +kernel
theorem dX5_in_2 : decode cX5_in 2 = .ok (.lcmp, 1) := by decide +kernel
theorem dX5_in_3 : decode cX5_in 3 = .ok (.ifCond .lt 14, 3) := by decide +kernel
theorem dX5_in_6 : decode cX5_in 6 = .ok (.lload_n 0, 1) := by decide +kernel
theorem dX5_in_7 : decode cX5_in 7 = .ok (.lload 4, 2) := by decide +kernel
theorem dX5_in_9 : decode cX5_in 9 = .ok (.lcmp, 1) := by decide +kernel
theorem dX5_in_10 : decode cX5_in 10 = .ok (.ifCond .gt 7, 3) := by decide +kernel
theorem dX5_in_13 : decode cX5_in 13 = .ok (.iconst 1, 1) := by decide +kernel
theorem dX5_in_14 : decode cX5_in 14 = .ok (.goto 4, 3) := by decide +kernel
theorem dX5_in_17 : decode cX5_in 17 = .ok (.iconst 0, 1) := by decide +kernel
theorem dX5_in_18 : decode cX5_in 18 = .ok (.ireturn, 1) := by decide +kernel
theorem dX5_changes_0 : decode cX5_changes 0 = .ok (.aload_n 0, 1) := by decide +kernel
theorem dX5_changes_1 : decode cX5_changes 1 = .ok (.getfield 28, 3) := by decide +kernel
theorem dX5_changes_4 : decode cX5_changes 4 = .ok (.bipush 6, 2) := by decide +kernel
theorem dX5_changes_6 : decode cX5_changes 6 = .ok (.if_icmp .ne 43, 3) := by decide +kernel
theorem dX5_changes_9 : decode cX5_changes 9 = .ok (.iconst 0, 1) := by decide +kernel
theorem dX5_changes_10 : decode cX5_changes 10 = .ok (.istore_n 1, 1) := by decide +kernel
theorem dX5_changes_11 : decode cX5_changes 11 = .ok (.iload_n 1, 1) := by decide +kernel
theorem dX5_changes_12 : decode cX5_changes 12 = .ok (.sipush 335, 3) := by decide +kernel
theorem dX5_changes_15 : decode cX5_changes 15 = .ok (.if_icmp .ge 24, 3) := by decide +kernel
theorem dX5_changes_18 : decode cX5_changes 18 = .ok (.aload_n 0, 1) := by decide +kernel
theorem dX5_changes_19 : decode cX5_changes 19 = .ok (.getfield 16, 3) := by decide +kernel
theorem dX5_changes_22 : decode cX5_changes 22 = .ok (.iload_n 1, 1) := by decide +kernel
theorem dX5_changes_23 : decode cX5_changes 23 = .ok (.aload_n 0, 1) := by decide +kernel
theorem dX5_changes_24 : decode cX5_changes 24 = .ok (.getfield 16, 3) := by decide +kernel
theorem dX5_changes_27 : decode cX5_changes 27 = .ok (.iload_n 1, 1) := by decide +kernel
theorem dX5_changes_28 : decode cX5_changes 28 = .ok (.bipush 67, 2) := by decide +kernel
theorem dX5_changes_30 : decode cX5_changes 30 = .ok (.iadd, 1) := by decide +kernel
theorem dX5_changes_31 : decode cX5_changes 31 = .ok (.iaload, 1) := by decide +kernel
theorem dX5_changes_32 : decode cX5_changes 32 = .ok (.iastore, 1) := by decide +kernel
theorem dX5_changes_33 : decode cX5_changes 33 = .ok (.iinc 1 1, 3) := by decide +kernel
theorem dX5_changes_36 : decode cX5_changes 36 = .ok (.goto (-25), 3) := by decide +kernel
theorem dX5_changes_39 : decode cX5_changes 39 = .ok (.aload_n 0, 1) := by decide +kernel
theorem dX5_changes_40 : decode cX5_changes 40 = .ok (.dup, 1) := by decide +kernel
theorem dX5_changes_41 : decode cX5_changes 41 = .ok (.getfield 28, 3) := by decide +kernel
theorem dX5_changes_44 : decode cX5_changes 44 = .ok (.iconst 1, 1) := by decide +kernel
theorem dX5_changes_45 : decode cX5_changes 45 = .ok (.isub, 1) := by decide +kernel
theorem dX5_changes_46 : decode cX5_changes 46 = .ok (.putfield 28, 3) := by decide +kernel
theorem dX5_changes_49 : decode cX5_changes 49 = .ok (.iconst 0, 1) := by decide +kernel
theorem dX5_changes_50 : decode cX5_changes 50 = .ok (.istore_n 1, 1) := by decide +kernel
theorem dX5_changes_51 : decode cX5_changes 51 = .ok (.iload_n 1, 1) := by decide +kernel
theorem dX5_changes_52 : decode cX5_changes 52 = .ok (.bipush 67, 2) := by decide +kernel
theorem dX5_changes_54 : decode cX5_changes 54 = .ok (.if_icmp .ge 29, 3) := by decide +kernel
theorem dX5_changes_57 : decode cX5_changes 57 = .ok (.aload_n 0, 1) := by decide +kernel
theorem dX5_changes_58 : decode cX5_changes 58 = .ok (.getfield 16, 3) := by decide +kernel
theorem dX5_changes_61 : decode cX5_changes 61 = .ok (.bipush 67, 2) := by decide +kernel
theorem dX5_changes_63 : decode cX5_changes 63 = .ok (.aload_n 0, 1) := by decide +kernel
theorem dX5_changes_64 : decode cX5_changes 64 = .ok (.getfield 28, 3) := by decide +kernel
theorem dX5_changes_67 : decode cX5_changes 67 = .ok (.imul, 1) := by decide +kernel
theorem dX5_changes_68 : decode cX5_changes 68 = .ok (.iload_n 1, 1) := by decide +kernel
theorem dX5_changes_69 : decode cX5_changes 69 = .ok (.iadd, 1) := by decide +kernel
theorem dX5_changes_70 : decode cX5_changes 70 = .ok (.aload_n 0, 1) := by decide +kernel
theorem dX5_changes_71 : decode cX5_changes 71 = .ok (.getfield 7, 3) := by decide +kernel
theorem dX5_changes_74 : decode cX5_changes 74 = .ok (.iload_n 1, 1) := by decide +kernel
theorem dX5_changes_75 : decode cX5_changes 75 = .ok (.iaload, 1) := by decide +kernel
theorem dX5_changes_76 : decode cX5_changes 76 = .ok (.iastore, 1) := by decide +kernel
theorem dX5_changes_77 : decode cX5_changes 77 = .ok (.iinc 1 1, 3) := by decide +kernel
theorem dX5_changes_80 : decode cX5_changes 80 = .ok (.goto (-29), 3) := by decide +kernel
theorem dX5_changes_83 : decode cX5_changes 83 = .ok (.aload_n 0, 1) := by decide +kernel
theorem dX5_changes_84 : decode cX5_changes 84 = .ok (.dup, 1) := by decide +kernel
theorem dX5_changes_85 : decode cX5_changes 85 = .ok (.getfield 28, 3) := by decide +kernel
theorem dX5_changes_88 : decode cX5_changes 88 = .ok (.iconst 1, 1) := by decide +kernel
theorem dX5_changes_89 : decode cX5_changes 89 = .ok (.iadd, 1) := by decide +kernel
theorem dX5_changes_90 : decode cX5_changes 90 = .ok (.putfield 28, 3) := by decide +kernel
theorem dX5_changes_93 : decode cX5_changes 93 = .ok (.return_, 1) := by decide +kernel
theorem dX5_keeps_0 : decode cX5_keeps 0 = .ok (.iconst 0, 1) := by decide +kernel
theorem dX5_keeps_1 : decode cX5_keeps 1 = .ok (.istore_n 1, 1) := by decide +kernel
theorem dX5_keeps_2 : decode cX5_keeps 2 = .ok (.iload_n 1, 1) := by decide +kernel
theorem dX5_keeps_3 : decode cX5_keeps 3 = .ok (.bipush 67, 2) := by decide +kernel
theorem dX5_keeps_5 : decode cX5_keeps 5 = .ok (.if_icmp .ge 21, 3) := by decide +kernel
theorem dX5_keeps_8 : decode cX5_keeps 8 = .ok (.aload_n 0, 1) := by decide +kernel
theorem dX5_keeps_9 : decode cX5_keeps 9 = .ok (.getfield 13, 3) := by decide +kernel
theorem dX5_keeps_12 : decode cX5_keeps 12 = .ok (.iload_n 1, 1) := by decide +kernel
theorem dX5_keeps_13 : decode cX5_keeps 13 = .ok (.aload_n 0, 1) := by decide +kernel
theorem dX5_keeps_14 : decode cX5_keeps 14 = .ok (.getfield 7, 3) := by decide +kernel
theorem dX5_keeps_17 : decode cX5_keeps 17 = .ok (.iload_n 1, 1) := by decide +kernel
theorem dX5_keeps_18 : decode cX5_keeps 18 = .ok (.iaload, 1) := by decide +kernel
theorem dX5_keeps_19 : decode cX5_keeps 19 = .ok (.iastore, 1) := by decide +kernel
theorem dX5_keeps_20 : decode cX5_keeps 20 = .ok (.iinc 1 1, 3) := by decide +kernel
theorem dX5_keeps_23 : decode cX5_keeps 23 = .ok (.goto (-21), 3) := by decide +kernel
theorem dX5_keeps_26 : decode cX5_keeps 26 = .ok (.return_, 1) := by decide +kernel
theorem dX5_comesBack_0 : decode cX5_comesBack 0 = .ok (.iconst 0, 1) := by decide +kernel
theorem dX5_comesBack_1 : decode cX5_comesBack 1 = .ok (.istore_n 1, 1) := by decide +kernel
theorem dX5_comesBack_2 : decode cX5_comesBack 2 = .ok (.iload_n 1, 1) := by decide +kernel
theorem dX5_comesBack_3 : decode cX5_comesBack 3 = .ok (.bipush 67, 2) := by decide +kernel
theorem dX5_comesBack_5 : decode cX5_comesBack 5 = .ok (.if_icmp .ge 21, 3) := by decide +kernel
theorem dX5_comesBack_8 : decode cX5_comesBack 8 = .ok (.aload_n 0, 1) := by decide +kernel
theorem dX5_comesBack_9 : decode cX5_comesBack 9 = .ok (.getfield 7, 3) := by decide +kernel
theorem dX5_comesBack_12 : decode cX5_comesBack 12 = .ok (.iload_n 1, 1) := by decide +kernel
theorem dX5_comesBack_13 : decode cX5_comesBack 13 = .ok (.aload_n 0, 1) := by decide +kernel
theorem dX5_comesBack_14 : decode cX5_comesBack 14 = .ok (.getfield 13, 3) := by decide +kernel
theorem dX5_comesBack_17 : decode cX5_comesBack 17 = .ok (.iload_n 1, 1) := by decide +kernel
theorem dX5_comesBack_18 : decode cX5_comesBack 18 = .ok (.iaload, 1) := by decide +kernel
theorem dX5_comesBack_19 : decode cX5_comesBack 19 = .ok (.iastore, 1) := by decide +kernel
theorem dX5_comesBack_20 : decode cX5_comesBack 20 = .ok (.iinc 1 1, 3) := by decide +kernel
theorem dX5_comesBack_23 : decode cX5_comesBack 23 = .ok (.goto (-21), 3) := by decide +kernel
theorem dX5_comesBack_26 : decode cX5_comesBack 26 = .ok (.return_, 1) := by decide +kernel
theorem dX5_isDisc_0 : decode cX5_isDisc 0 = .ok (.iload_n 0, 1) := by decide +kernel
theorem dX5_isDisc_1 : decode cX5_isDisc 1 = .ok (.ifCond .eq 8, 3) := by decide +kernel
theorem dX5_isDisc_4 : decode cX5_isDisc 4 = .ok (.iload_n 0, 1) := by decide +kernel
theorem dX5_isDisc_5 : decode cX5_isDisc 5 = .ok (.iconst 1, 1) := by decide +kernel
theorem dX5_isDisc_6 : decode cX5_isDisc 6 = .ok (.if_icmp .ne 7, 3) := by decide +kernel
theorem dX5_isDisc_9 : decode cX5_isDisc 9 = .ok (.iconst 1, 1) := by decide +kernel
theorem dX5_isDisc_10 : decode cX5_isDisc 10 = .ok (.goto 4, 3) := by decide +kernel
theorem dX5_isDisc_13 : decode cX5_isDisc 13 = .ok (.iconst 0, 1) := by decide +kernel
theorem dX5_isDisc_14 : decode cX5_isDisc 14 = .ok (.ireturn, 1) := by decide +kernel
theorem dX5_cell_0 : decode cX5_cell 0 = .ok (.bipush 13, 2) := by decide +kernel
theorem dX5_cell_2 : decode cX5_cell 2 = .ok (.bipush 12, 2) := by decide +kernel
theorem dX5_cell_4 : decode cX5_cell 4 = .ok (.iload_n 0, 1) := by decide +kernel
theorem dX5_cell_5 : decode cX5_cell 5 = .ok (.imul, 1) := by decide +kernel
theorem dX5_cell_6 : decode cX5_cell 6 = .ok (.iadd, 1) := by decide +kernel
theorem dX5_cell_7 : decode cX5_cell 7 = .ok (.iload_n 1, 1) := by decide +kernel
theorem dX5_cell_8 : decode cX5_cell 8 = .ok (.iadd, 1) := by decide +kernel
theorem dX5_cell_9 : decode cX5_cell 9 = .ok (.ireturn, 1) := by decide +kernel
theorem dX5_cut_0 : decode cX5_cut 0 = .ok (.iload_n 0, 1) := by decide +kernel
theorem dX5_cut_1 : decode cX5_cut 1 = .ok (.iload_n 1, 1) := by decide +kernel
theorem dX5_cut_2 : decode cX5_cut 2 = .ok (.if_icmp .ge 7, 3) := by decide +kernel
theorem dX5_cut_5 : decode cX5_cut 5 = .ok (.iload_n 1, 1) := by decide +kernel
theorem dX5_cut_6 : decode cX5_cut 6 = .ok (.goto 13, 3) := by decide +kernel
theorem dX5_cut_9 : decode cX5_cut 9 = .ok (.iload_n 0, 1) := by decide +kernel
theorem dX5_cut_10 : decode cX5_cut 10 = .ok (.iload_n 2, 1) := by decide +kernel
theorem dX5_cut_11 : decode cX5_cut 11 = .ok (.if_icmp .le 7, 3) := by decide +kernel
theorem dX5_cut_14 : decode cX5_cut 14 = .ok (.iload_n 2, 1) := by decide +kernel
theorem dX5_cut_15 : decode cX5_cut 15 = .ok (.goto 4, 3) := by decide +kernel
theorem dX5_cut_18 : decode cX5_cut 18 = .ok (.iload_n 0, 1) := by decide +kernel
theorem dX5_cut_19 : decode cX5_cut 19 = .ok (.ireturn, 1) := by decide +kernel
theorem dX5_discsTurn_0 : decode cX5_discsTurn 0 = .ok (.aload_n 0, 1) := by decide +kernel
theorem dX5_discsTurn_1 : decode cX5_discsTurn 1 = .ok (.getfield 7, 3) := by decide +kernel
theorem dX5_discsTurn_4 : decode cX5_discsTurn 4 = .ok (.iconst 0, 1) := by decide +kernel
theorem dX5_discsTurn_5 : decode cX5_discsTurn 5 = .ok (.bipush 11, 2) := by decide +kernel
theorem dX5_discsTurn_7 : decode cX5_discsTurn 7 = .ok (.invokestatic 32, 3) := by decide +kernel
theorem dX5_discsTurn_10 : decode cX5_discsTurn 10 = .ok (.iaload, 1) := by decide +kernel
theorem dX5_discsTurn_11 : decode cX5_discsTurn 11 = .ok (.istore_n 1, 1) := by decide +kernel
theorem dX5_discsTurn_12 : decode cX5_discsTurn 12 = .ok (.bipush 11, 2) := by decide +kernel
theorem dX5_discsTurn_14 : decode cX5_discsTurn 14 = .ok (.istore_n 2, 1) := by decide +kernel
theorem dX5_discsTurn_15 : decode cX5_discsTurn 15 = .ok (.iload_n 2, 1) := by decide +kernel
theorem dX5_discsTurn_16 : decode cX5_discsTurn 16 = .ok (.ifCond .le 31, 3) := by decide +kernel
theorem dX5_discsTurn_19 : decode cX5_discsTurn 19 = .ok (.aload_n 0, 1) := by decide +kernel
theorem dX5_discsTurn_20 : decode cX5_discsTurn 20 = .ok (.getfield 7, 3) := by decide +kernel
theorem dX5_discsTurn_23 : decode cX5_discsTurn 23 = .ok (.iconst 0, 1) := by decide +kernel
theorem dX5_discsTurn_24 : decode cX5_discsTurn 24 = .ok (.iload_n 2, 1) := by decide +kernel
theorem dX5_discsTurn_25 : decode cX5_discsTurn 25 = .ok (.invokestatic 32, 3) := by decide +kernel
theorem dX5_discsTurn_28 : decode cX5_discsTurn 28 = .ok (.aload_n 0, 1) := by decide +kernel
theorem dX5_discsTurn_29 : decode cX5_discsTurn 29 = .ok (.getfield 7, 3) := by decide +kernel
theorem dX5_discsTurn_32 : decode cX5_discsTurn 32 = .ok (.iconst 0, 1) := by decide +kernel
theorem dX5_discsTurn_33 : decode cX5_discsTurn 33 = .ok (.iload_n 2, 1) := by decide +kernel
theorem dX5_discsTurn_34 : decode cX5_discsTurn 34 = .ok (.iconst 1, 1) := by decide +kernel
theorem dX5_discsTurn_35 : decode cX5_discsTurn 35 = .ok (.isub, 1) := by decide +kernel
theorem dX5_discsTurn_36 : decode cX5_discsTurn 36 = .ok (.invokestatic 32, 3) := by decide +kernel
theorem dX5_discsTurn_39 : decode cX5_discsTurn 39 = .ok (.iaload, 1) := by decide +kernel
theorem dX5_discsTurn_40 : decode cX5_discsTurn 40 = .ok (.iastore, 1) := by decide +kernel
theorem dX5_discsTurn_41 : decode cX5_discsTurn 41 = .ok (.iinc 2 (-1), 3) := by decide +kernel
theorem dX5_discsTurn_44 : decode cX5_discsTurn 44 = .ok (.goto (-29), 3) := by decide +kernel
theorem dX5_discsTurn_47 : decode cX5_discsTurn 47 = .ok (.aload_n 0, 1) := by decide +kernel
theorem dX5_discsTurn_48 : decode cX5_discsTurn 48 = .ok (.getfield 7, 3) := by decide +kernel
theorem dX5_discsTurn_51 : decode cX5_discsTurn 51 = .ok (.iconst 0, 1) := by decide +kernel
theorem dX5_discsTurn_52 : decode cX5_discsTurn 52 = .ok (.iconst 0, 1) := by decide +kernel
theorem dX5_discsTurn_53 : decode cX5_discsTurn 53 = .ok (.invokestatic 32, 3) := by decide +kernel
theorem dX5_discsTurn_56 : decode cX5_discsTurn 56 = .ok (.iload_n 1, 1) := by decide +kernel
theorem dX5_discsTurn_57 : decode cX5_discsTurn 57 = .ok (.iastore, 1) := by decide +kernel
theorem dX5_discsTurn_58 : decode cX5_discsTurn 58 = .ok (.aload_n 0, 1) := by decide +kernel
theorem dX5_discsTurn_59 : decode cX5_discsTurn 59 = .ok (.getfield 7, 3) := by decide +kernel
theorem dX5_discsTurn_62 : decode cX5_discsTurn 62 = .ok (.iconst 1, 1) := by decide +kernel
theorem dX5_discsTurn_63 : decode cX5_discsTurn 63 = .ok (.iconst 0, 1) := by decide +kernel
theorem dX5_discsTurn_64 : decode cX5_discsTurn 64 = .ok (.invokestatic 32, 3) := by decide +kernel
theorem dX5_discsTurn_67 : decode cX5_discsTurn 67 = .ok (.iaload, 1) := by decide +kernel
theorem dX5_discsTurn_68 : decode cX5_discsTurn 68 = .ok (.istore_n 2, 1) := by decide +kernel
theorem dX5_discsTurn_69 : decode cX5_discsTurn 69 = .ok (.iconst 0, 1) := by decide +kernel
theorem dX5_discsTurn_70 : decode cX5_discsTurn 70 = .ok (.istore_n 3, 1) := by decide +kernel
theorem dX5_discsTurn_71 : decode cX5_discsTurn 71 = .ok (.iload_n 3, 1) := by decide +kernel
theorem dX5_discsTurn_72 : decode cX5_discsTurn 72 = .ok (.bipush 11, 2) := by decide +kernel
theorem dX5_discsTurn_74 : decode cX5_discsTurn 74 = .ok (.if_icmp .ge 31, 3) := by decide +kernel
theorem dX5_discsTurn_77 : decode cX5_discsTurn 77 = .ok (.aload_n 0, 1) := by decide +kernel
theorem dX5_discsTurn_78 : decode cX5_discsTurn 78 = .ok (.getfield 7, 3) := by decide +kernel
theorem dX5_discsTurn_81 : decode cX5_discsTurn 81 = .ok (.iconst 1, 1) := by decide +kernel
theorem dX5_discsTurn_82 : decode cX5_discsTurn 82 = .ok (.iload_n 3, 1) := by decide +kernel
theorem dX5_discsTurn_83 : decode cX5_discsTurn 83 = .ok (.invokestatic 32, 3) := by decide +kernel
theorem dX5_discsTurn_86 : decode cX5_discsTurn 86 = .ok (.aload_n 0, 1) := by decide +kernel
theorem dX5_discsTurn_87 : decode cX5_discsTurn 87 = .ok (.getfield 7, 3) := by decide +kernel
theorem dX5_discsTurn_90 : decode cX5_discsTurn 90 = .ok (.iconst 1, 1) := by decide +kernel
theorem dX5_discsTurn_91 : decode cX5_discsTurn 91 = .ok (.iload_n 3, 1) := by decide +kernel
theorem dX5_discsTurn_92 : decode cX5_discsTurn 92 = .ok (.iconst 1, 1) := by decide +kernel
theorem dX5_discsTurn_93 : decode cX5_discsTurn 93 = .ok (.iadd, 1) := by decide +kernel
theorem dX5_discsTurn_94 : decode cX5_discsTurn 94 = .ok (.invokestatic 32, 3) := by decide +kernel
theorem dX5_discsTurn_97 : decode cX5_discsTurn 97 = .ok (.iaload, 1) := by decide +kernel
theorem dX5_discsTurn_98 : decode cX5_discsTurn 98 = .ok (.iastore, 1) := by decide +kernel
theorem dX5_discsTurn_99 : decode cX5_discsTurn 99 = .ok (.iinc 3 1, 3) := by decide +kernel
theorem dX5_discsTurn_102 : decode cX5_discsTurn 102 = .ok (.goto (-31), 3) := by decide +kernel
theorem dX5_discsTurn_105 : decode cX5_discsTurn 105 = .ok (.aload_n 0, 1) := by decide +kernel
theorem dX5_discsTurn_106 : decode cX5_discsTurn 106 = .ok (.getfield 7, 3) := by decide +kernel
theorem dX5_discsTurn_109 : decode cX5_discsTurn 109 = .ok (.iconst 1, 1) := by decide +kernel
theorem dX5_discsTurn_110 : decode cX5_discsTurn 110 = .ok (.bipush 11, 2) := by decide +kernel
theorem dX5_discsTurn_112 : decode cX5_discsTurn 112 = .ok (.invokestatic 32, 3) := by decide +kernel
theorem dX5_discsTurn_115 : decode cX5_discsTurn 115 = .ok (.iload_n 2, 1) := by decide +kernel
theorem dX5_discsTurn_116 : decode cX5_discsTurn 116 = .ok (.iastore, 1) := by decide +kernel
theorem dX5_discsTurn_117 : decode cX5_discsTurn 117 = .ok (.return_, 1) := by decide +kernel
theorem dX5_joins_0 : decode cX5_joins 0 = .ok (.aload_n 0, 1) := by decide +kernel
theorem dX5_joins_1 : decode cX5_joins 1 = .ok (.getfield 7, 3) := by decide +kernel
theorem dX5_joins_4 : decode cX5_joins 4 = .ok (.iload_n 1, 1) := by decide +kernel
theorem dX5_joins_5 : decode cX5_joins 5 = .ok (.iload_n 2, 1) := by decide +kernel
theorem dX5_joins_6 : decode cX5_joins 6 = .ok (.invokestatic 32, 3) := by decide +kernel
theorem dX5_joins_9 : decode cX5_joins 9 = .ok (.iaload, 1) := by decide +kernel
theorem dX5_joins_10 : decode cX5_joins 10 = .ok (.istore 4, 2) := by decide +kernel
theorem dX5_joins_12 : decode cX5_joins 12 = .ok (.aload_n 0, 1) := by decide +kernel
theorem dX5_joins_13 : decode cX5_joins 13 = .ok (.getfield 7, 3) := by decide +kernel
theorem dX5_joins_16 : decode cX5_joins 16 = .ok (.iload_n 1, 1) := by decide +kernel
theorem dX5_joins_17 : decode cX5_joins 17 = .ok (.iload_n 3, 1) := by decide +kernel
theorem dX5_joins_18 : decode cX5_joins 18 = .ok (.invokestatic 32, 3) := by decide +kernel
theorem dX5_joins_21 : decode cX5_joins 21 = .ok (.iaload, 1) := by decide +kernel
theorem dX5_joins_22 : decode cX5_joins 22 = .ok (.istore 5, 2) := by decide +kernel
theorem dX5_joins_24 : decode cX5_joins 24 = .ok (.iload 4, 2) := by decide +kernel
theorem dX5_joins_26 : decode cX5_joins 26 = .ok (.iload 5, 2) := by decide +kernel
theorem dX5_joins_28 : decode cX5_joins 28 = .ok (.iadd, 1) := by decide +kernel
theorem dX5_joins_29 : decode cX5_joins 29 = .ok (.iconst 2, 1) := by decide +kernel
theorem dX5_joins_30 : decode cX5_joins 30 = .ok (.idiv, 1) := by decide +kernel
theorem dX5_joins_31 : decode cX5_joins 31 = .ok (.aload_n 0, 1) := by decide +kernel
theorem dX5_joins_32 : decode cX5_joins 32 = .ok (.getfield 7, 3) := by decide +kernel
theorem dX5_joins_35 : decode cX5_joins 35 = .ok (.iconst 1, 1) := by decide +kernel
theorem dX5_joins_36 : decode cX5_joins 36 = .ok (.iload_n 1, 1) := by decide +kernel
theorem dX5_joins_37 : decode cX5_joins 37 = .ok (.isub, 1) := by decide +kernel
theorem dX5_joins_38 : decode cX5_joins 38 = .ok (.iload_n 3, 1) := by decide +kernel
theorem dX5_joins_39 : decode cX5_joins 39 = .ok (.invokestatic 32, 3) := by decide +kernel
theorem dX5_joins_42 : decode cX5_joins 42 = .ok (.iaload, 1) := by decide +kernel
theorem dX5_joins_43 : decode cX5_joins 43 = .ok (.aload_n 0, 1) := by decide +kernel
theorem dX5_joins_44 : decode cX5_joins 44 = .ok (.getfield 7, 3) := by decide +kernel
theorem dX5_joins_47 : decode cX5_joins 47 = .ok (.iconst 1, 1) := by decide +kernel
theorem dX5_joins_48 : decode cX5_joins 48 = .ok (.iload_n 1, 1) := by decide +kernel
theorem dX5_joins_49 : decode cX5_joins 49 = .ok (.isub, 1) := by decide +kernel
theorem dX5_joins_50 : decode cX5_joins 50 = .ok (.iload_n 2, 1) := by decide +kernel
theorem dX5_joins_51 : decode cX5_joins 51 = .ok (.invokestatic 32, 3) := by decide +kernel
theorem dX5_joins_54 : decode cX5_joins 54 = .ok (.iaload, 1) := by decide +kernel
theorem dX5_joins_55 : decode cX5_joins 55 = .ok (.isub, 1) := by decide +kernel
theorem dX5_joins_56 : decode cX5_joins 56 = .ok (.aload_n 0, 1) := by decide +kernel
theorem dX5_joins_57 : decode cX5_joins 57 = .ok (.getfield 7, 3) := by decide +kernel
theorem dX5_joins_60 : decode cX5_joins 60 = .ok (.iconst 0, 1) := by decide +kernel
theorem dX5_joins_61 : decode cX5_joins 61 = .ok (.iaload, 1) := by decide +kernel
theorem dX5_joins_62 : decode cX5_joins 62 = .ok (.imul, 1) := by decide +kernel
theorem dX5_joins_63 : decode cX5_joins 63 = .ok (.bipush 32, 2) := by decide +kernel
theorem dX5_joins_65 : decode cX5_joins 65 = .ok (.idiv, 1) := by decide +kernel
theorem dX5_joins_66 : decode cX5_joins 66 = .ok (.iadd, 1) := by decide +kernel
theorem dX5_joins_67 : decode cX5_joins 67 = .ok (.istore 6, 2) := by decide +kernel
theorem dX5_joins_69 : decode cX5_joins 69 = .ok (.iload 6, 2) := by decide +kernel
theorem dX5_joins_71 : decode cX5_joins 71 = .ok (.iload 4, 2) := by decide +kernel
theorem dX5_joins_73 : decode cX5_joins 73 = .ok (.isub, 1) := by decide +kernel
theorem dX5_joins_74 : decode cX5_joins 74 = .ok (.bipush (-99), 2) := by decide +kernel
theorem dX5_joins_76 : decode cX5_joins 76 = .ok (.iload 4, 2) := by decide +kernel
theorem dX5_joins_78 : decode cX5_joins 78 = .ok (.isub, 1) := by decide +kernel
theorem dX5_joins_79 : decode cX5_joins 79 = .ok (.bipush 99, 2) := by decide +kernel
theorem dX5_joins_81 : decode cX5_joins 81 = .ok (.iload 4, 2) := by decide +kernel
theorem dX5_joins_83 : decode cX5_joins 83 = .ok (.isub, 1) := by decide +kernel
theorem dX5_joins_84 : decode cX5_joins 84 = .ok (.invokestatic 36, 3) := by decide +kernel
theorem dX5_joins_87 : decode cX5_joins 87 = .ok (.iload 5, 2) := by decide +kernel
theorem dX5_joins_89 : decode cX5_joins 89 = .ok (.bipush 99, 2) := by decide +kernel
theorem dX5_joins_91 : decode cX5_joins 91 = .ok (.isub, 1) := by decide +kernel
theorem dX5_joins_92 : decode cX5_joins 92 = .ok (.iload 5, 2) := by decide +kernel
theorem dX5_joins_94 : decode cX5_joins 94 = .ok (.bipush 99, 2) := by decide +kernel
theorem dX5_joins_96 : decode cX5_joins 96 = .ok (.iadd, 1) := by decide +kernel
theorem dX5_joins_97 : decode cX5_joins 97 = .ok (.invokestatic 36, 3) := by decide +kernel
theorem dX5_joins_100 : decode cX5_joins 100 = .ok (.istore 7, 2) := by decide +kernel
theorem dX5_joins_102 : decode cX5_joins 102 = .ok (.aload_n 0, 1) := by decide +kernel
theorem dX5_joins_103 : decode cX5_joins 103 = .ok (.getfield 7, 3) := by decide +kernel
theorem dX5_joins_106 : decode cX5_joins 106 = .ok (.iload_n 1, 1) := by decide +kernel
theorem dX5_joins_107 : decode cX5_joins 107 = .ok (.iload_n 2, 1) := by decide +kernel
theorem dX5_joins_108 : decode cX5_joins 108 = .ok (.invokestatic 32, 3) := by decide +kernel
theorem dX5_joins_111 : decode cX5_joins 111 = .ok (.dup2, 1) := by decide +kernel
theorem dX5_joins_112 : decode cX5_joins 112 = .ok (.iaload, 1) := by decide +kernel
theorem dX5_joins_113 : decode cX5_joins 113 = .ok (.iload 7, 2) := by decide +kernel
theorem dX5_joins_115 : decode cX5_joins 115 = .ok (.iadd, 1) := by decide +kernel
theorem dX5_joins_116 : decode cX5_joins 116 = .ok (.iastore, 1) := by decide +kernel
theorem dX5_joins_117 : decode cX5_joins 117 = .ok (.aload_n 0, 1) := by decide +kernel
theorem dX5_joins_118 : decode cX5_joins 118 = .ok (.getfield 7, 3) := by decide +kernel
theorem dX5_joins_121 : decode cX5_joins 121 = .ok (.iload_n 1, 1) := by decide +kernel
theorem dX5_joins_122 : decode cX5_joins 122 = .ok (.iload_n 3, 1) := by decide +kernel
theorem dX5_joins_123 : decode cX5_joins 123 = .ok (.invokestatic 32, 3) := by decide +kernel
theorem dX5_joins_126 : decode cX5_joins 126 = .ok (.dup2, 1) := by decide +kernel
theorem dX5_joins_127 : decode cX5_joins 127 = .ok (.iaload, 1) := by decide +kernel
theorem dX5_joins_128 : decode cX5_joins 128 = .ok (.iload 7, 2) := by decide +kernel
theorem dX5_joins_130 : decode cX5_joins 130 = .ok (.isub, 1) := by decide +kernel
theorem dX5_joins_131 : decode cX5_joins 131 = .ok (.iastore, 1) := by decide +kernel
theorem dX5_joins_132 : decode cX5_joins 132 = .ok (.return_, 1) := by decide +kernel
theorem dX5_takes_0 : decode cX5_takes 0 = .ok (.iload_n 2, 1) := by decide +kernel
theorem dX5_takes_1 : decode cX5_takes 1 = .ok (.bipush 6, 2) := by decide +kernel
theorem dX5_takes_3 : decode cX5_takes 3 = .ok (.iload_n 1, 1) := by decide +kernel
theorem dX5_takes_4 : decode cX5_takes 4 = .ok (.imul, 1) := by decide +kernel
theorem dX5_takes_5 : decode cX5_takes 5 = .ok (.invokestatic 32, 3) := by decide +kernel
theorem dX5_takes_8 : decode cX5_takes 8 = .ok (.istore_n 3, 1) := by decide +kernel
theorem dX5_takes_9 : decode cX5_takes 9 = .ok (.aload_n 0, 1) := by decide +kernel
theorem dX5_takes_10 : decode cX5_takes 10 = .ok (.getfield 7, 3) := by decide +kernel
theorem dX5_takes_13 : decode cX5_takes 13 = .ok (.iload_n 3, 1) := by decide +kernel
theorem dX5_takes_14 : decode cX5_takes 14 = .ok (.iaload, 1) := by decide +kernel
theorem dX5_takes_15 : decode cX5_takes 15 = .ok (.aload_n 0, 1) := by decide +kernel
theorem dX5_takes_16 : decode cX5_takes 16 = .ok (.getfield 7, 3) := by decide +kernel
theorem dX5_takes_19 : decode cX5_takes 19 = .ok (.iconst 4, 1) := by decide +kernel
theorem dX5_takes_20 : decode cX5_takes 20 = .ok (.iaload, 1) := by decide +kernel
theorem dX5_takes_21 : decode cX5_takes 21 = .ok (.ineg, 1) := by decide +kernel
theorem dX5_takes_22 : decode cX5_takes 22 = .ok (.aload_n 0, 1) := by decide +kernel
theorem dX5_takes_23 : decode cX5_takes 23 = .ok (.getfield 7, 3) := by decide +kernel
theorem dX5_takes_26 : decode cX5_takes 26 = .ok (.bipush 37, 2) := by decide +kernel
theorem dX5_takes_28 : decode cX5_takes 28 = .ok (.iload_n 1, 1) := by decide +kernel
theorem dX5_takes_29 : decode cX5_takes 29 = .ok (.iadd, 1) := by decide +kernel
theorem dX5_takes_30 : decode cX5_takes 30 = .ok (.iaload, 1) := by decide +kernel
theorem dX5_takes_31 : decode cX5_takes 31 = .ok (.isub, 1) := by decide +kernel
theorem dX5_takes_32 : decode cX5_takes 32 = .ok (.aload_n 0, 1) := by decide +kernel
theorem dX5_takes_33 : decode cX5_takes 33 = .ok (.getfield 7, 3) := by decide +kernel
theorem dX5_takes_36 : decode cX5_takes 36 = .ok (.iconst 4, 1) := by decide +kernel
theorem dX5_takes_37 : decode cX5_takes 37 = .ok (.iaload, 1) := by decide +kernel
theorem dX5_takes_38 : decode cX5_takes 38 = .ok (.aload_n 0, 1) := by decide +kernel
theorem dX5_takes_39 : decode cX5_takes 39 = .ok (.getfield 7, 3) := by decide +kernel
theorem dX5_takes_42 : decode cX5_takes 42 = .ok (.bipush 37, 2) := by decide +kernel
theorem dX5_takes_44 : decode cX5_takes 44 = .ok (.iload_n 1, 1) := by decide +kernel
theorem dX5_takes_45 : decode cX5_takes 45 = .ok (.iadd, 1) := by decide +kernel
theorem dX5_takes_46 : decode cX5_takes 46 = .ok (.iaload, 1) := by decide +kernel
theorem dX5_takes_47 : decode cX5_takes 47 = .ok (.isub, 1) := by decide +kernel
theorem dX5_takes_48 : decode cX5_takes 48 = .ok (.invokestatic 36, 3) := by decide +kernel
theorem dX5_takes_51 : decode cX5_takes 51 = .ok (.istore 4, 2) := by decide +kernel
theorem dX5_takes_53 : decode cX5_takes 53 = .ok (.aload_n 0, 1) := by decide +kernel
theorem dX5_takes_54 : decode cX5_takes 54 = .ok (.getfield 7, 3) := by decide +kernel
theorem dX5_takes_57 : decode cX5_takes 57 = .ok (.iload_n 3, 1) := by decide +kernel
theorem dX5_takes_58 : decode cX5_takes 58 = .ok (.dup2, 1) := by decide +kernel
theorem dX5_takes_59 : decode cX5_takes 59 = .ok (.iaload, 1) := by decide +kernel
theorem dX5_takes_60 : decode cX5_takes 60 = .ok (.iload 4, 2) := by decide +kernel
theorem dX5_takes_62 : decode cX5_takes 62 = .ok (.isub, 1) := by decide +kernel
theorem dX5_takes_63 : decode cX5_takes 63 = .ok (.iastore, 1) := by decide +kernel
theorem dX5_takes_64 : decode cX5_takes 64 = .ok (.aload_n 0, 1) := by decide +kernel
theorem dX5_takes_65 : decode cX5_takes 65 = .ok (.getfield 7, 3) := by decide +kernel
theorem dX5_takes_68 : decode cX5_takes 68 = .ok (.bipush 37, 2) := by decide +kernel
theorem dX5_takes_70 : decode cX5_takes 70 = .ok (.iload_n 1, 1) := by decide +kernel
theorem dX5_takes_71 : decode cX5_takes 71 = .ok (.iadd, 1) := by decide +kernel
theorem dX5_takes_72 : decode cX5_takes 72 = .ok (.dup2, 1) := by decide +kernel
theorem dX5_takes_73 : decode cX5_takes 73 = .ok (.iaload, 1) := by decide +kernel
theorem dX5_takes_74 : decode cX5_takes 74 = .ok (.iload 4, 2) := by decide +kernel
theorem dX5_takes_76 : decode cX5_takes 76 = .ok (.iadd, 1) := by decide +kernel
theorem dX5_takes_77 : decode cX5_takes 77 = .ok (.iastore, 1) := by decide +kernel
theorem dX5_takes_78 : decode cX5_takes 78 = .ok (.aload_n 0, 1) := by decide +kernel
theorem dX5_takes_79 : decode cX5_takes 79 = .ok (.getfield 7, 3) := by decide +kernel
theorem dX5_takes_82 : decode cX5_takes 82 = .ok (.bipush 39, 2) := by decide +kernel
theorem dX5_takes_84 : decode cX5_takes 84 = .ok (.iload_n 1, 1) := by decide +kernel
theorem dX5_takes_85 : decode cX5_takes 85 = .ok (.iadd, 1) := by decide +kernel
theorem dX5_takes_86 : decode cX5_takes 86 = .ok (.dup2, 1) := by decide +kernel
theorem dX5_takes_87 : decode cX5_takes 87 = .ok (.iaload, 1) := by decide +kernel
theorem dX5_takes_88 : decode cX5_takes 88 = .ok (.iload 4, 2) := by decide +kernel
theorem dX5_takes_90 : decode cX5_takes 90 = .ok (.iadd, 1) := by decide +kernel
theorem dX5_takes_91 : decode cX5_takes 91 = .ok (.iastore, 1) := by decide +kernel
theorem dX5_takes_92 : decode cX5_takes 92 = .ok (.return_, 1) := by decide +kernel
theorem dX5_leaks_0 : decode cX5_leaks 0 = .ok (.bipush 13, 2) := by decide +kernel
theorem dX5_leaks_2 : decode cX5_leaks 2 = .ok (.istore_n 1, 1) := by decide +kernel
theorem dX5_leaks_3 : decode cX5_leaks 3 = .ok (.iload_n 1, 1) := by decide +kernel
theorem dX5_leaks_4 : decode cX5_leaks 4 = .ok (.bipush 37, 2) := by decide +kernel
theorem dX5_leaks_6 : decode cX5_leaks 6 = .ok (.if_icmp .ge 47, 3) := by decide +kernel
theorem dX5_leaks_9 : decode cX5_leaks 9 = .ok (.aload_n 0, 1) := by decide +kernel
theorem dX5_leaks_10 : decode cX5_leaks 10 = .ok (.getfield 7, 3) := by decide +kernel
theorem dX5_leaks_13 : decode cX5_leaks 13 = .ok (.iload_n 1, 1) := by decide +kernel
theorem dX5_leaks_14 : decode cX5_leaks 14 = .ok (.iaload, 1) := by decide +kernel
theorem dX5_leaks_15 : decode cX5_leaks 15 = .ok (.aload_n 0, 1) := by decide +kernel
theorem dX5_leaks_16 : decode cX5_leaks 16 = .ok (.getfield 7, 3) := by decide +kernel
theorem dX5_leaks_19 : decode cX5_leaks 19 = .ok (.iconst 1, 1) := by decide +kernel
theorem dX5_leaks_20 : decode cX5_leaks 20 = .ok (.iaload, 1) := by decide +kernel
theorem dX5_leaks_21 : decode cX5_leaks 21 = .ok (.imul, 1) := by decide +kernel
theorem dX5_leaks_22 : decode cX5_leaks 22 = .ok (.bipush 100, 2) := by decide +kernel
theorem dX5_leaks_24 : decode cX5_leaks 24 = .ok (.idiv, 1) := by decide +kernel
theorem dX5_leaks_25 : decode cX5_leaks 25 = .ok (.istore_n 2, 1) := by decide +kernel
theorem dX5_leaks_26 : decode cX5_leaks 26 = .ok (.aload_n 0, 1) := by decide +kernel
theorem dX5_leaks_27 : decode cX5_leaks 27 = .ok (.getfield 7, 3) := by decide +kernel
theorem dX5_leaks_30 : decode cX5_leaks 30 = .ok (.iload_n 1, 1) := by decide +kernel
theorem dX5_leaks_31 : decode cX5_leaks 31 = .ok (.dup2, 1) := by decide +kernel
theorem dX5_leaks_32 : decode cX5_leaks 32 = .ok (.iaload, 1) := by decide +kernel
theorem dX5_leaks_33 : decode cX5_leaks 33 = .ok (.iload_n 2, 1) := by decide +kernel
theorem dX5_leaks_34 : decode cX5_leaks 34 = .ok (.isub, 1) := by decide +kernel
theorem dX5_leaks_35 : decode cX5_leaks 35 = .ok (.iastore, 1) := by decide +kernel
theorem dX5_leaks_36 : decode cX5_leaks 36 = .ok (.aload_n 0, 1) := by decide +kernel
theorem dX5_leaks_37 : decode cX5_leaks 37 = .ok (.getfield 7, 3) := by decide +kernel
theorem dX5_leaks_40 : decode cX5_leaks 40 = .ok (.bipush 9, 2) := by decide +kernel
theorem dX5_leaks_42 : decode cX5_leaks 42 = .ok (.dup2, 1) := by decide +kernel
theorem dX5_leaks_43 : decode cX5_leaks 43 = .ok (.iaload, 1) := by decide +kernel
theorem dX5_leaks_44 : decode cX5_leaks 44 = .ok (.iload_n 2, 1) := by decide +kernel
theorem dX5_leaks_45 : decode cX5_leaks 45 = .ok (.iadd, 1) := by decide +kernel
theorem dX5_leaks_46 : decode cX5_leaks 46 = .ok (.iastore, 1) := by decide +kernel
theorem dX5_leaks_47 : decode cX5_leaks 47 = .ok (.iinc 1 1, 3) := by decide +kernel
theorem dX5_leaks_50 : decode cX5_leaks 50 = .ok (.goto (-47), 3) := by decide +kernel
theorem dX5_leaks_53 : decode cX5_leaks 53 = .ok (.iconst 0, 1) := by decide +kernel
theorem dX5_leaks_54 : decode cX5_leaks 54 = .ok (.istore_n 1, 1) := by decide +kernel
theorem dX5_leaks_55 : decode cX5_leaks 55 = .ok (.iload_n 1, 1) := by decide +kernel
theorem dX5_leaks_56 : decode cX5_leaks 56 = .ok (.iconst 2, 1) := by decide +kernel
theorem dX5_leaks_57 : decode cX5_leaks 57 = .ok (.if_icmp .ge 67, 3) := by decide +kernel
theorem dX5_leaks_60 : decode cX5_leaks 60 = .ok (.aload_n 0, 1) := by decide +kernel
theorem dX5_leaks_61 : decode cX5_leaks 61 = .ok (.getfield 7, 3) := by decide +kernel
theorem dX5_leaks_64 : decode cX5_leaks 64 = .ok (.bipush 37, 2) := by decide +kernel
theorem dX5_leaks_66 : decode cX5_leaks 66 = .ok (.iload_n 1, 1) := by decide +kernel
theorem dX5_leaks_67 : decode cX5_leaks 67 = .ok (.iadd, 1) := by decide +kernel
theorem dX5_leaks_68 : decode cX5_leaks 68 = .ok (.iaload, 1) := by decide +kernel
theorem dX5_leaks_69 : decode cX5_leaks 69 = .ok (.aload_n 0, 1) := by decide +kernel
theorem dX5_leaks_70 : decode cX5_leaks 70 = .ok (.getfield 7, 3) := by decide +kernel
theorem dX5_leaks_73 : decode cX5_leaks 73 = .ok (.iconst 1, 1) := by decide +kernel
theorem dX5_leaks_74 : decode cX5_leaks 74 = .ok (.iaload, 1) := by decide +kernel
theorem dX5_leaks_75 : decode cX5_leaks 75 = .ok (.imul, 1) := by decide +kernel
theorem dX5_leaks_76 : decode cX5_leaks 76 = .ok (.sipush 200, 3) := by decide +kernel
theorem dX5_leaks_79 : decode cX5_leaks 79 = .ok (.idiv, 1) := by decide +kernel
theorem dX5_leaks_80 : decode cX5_leaks 80 = .ok (.istore_n 2, 1) := by decide +kernel
theorem dX5_leaks_81 : decode cX5_leaks 81 = .ok (.aload_n 0, 1) := by decide +kernel
theorem dX5_leaks_82 : decode cX5_leaks 82 = .ok (.getfield 7, 3) := by decide +kernel
theorem dX5_leaks_85 : decode cX5_leaks 85 = .ok (.bipush 37, 2) := by decide +kernel
theorem dX5_leaks_87 : decode cX5_leaks 87 = .ok (.iload_n 1, 1) := by decide +kernel
theorem dX5_leaks_88 : decode cX5_leaks 88 = .ok (.iadd, 1) := by decide +kernel
theorem dX5_leaks_89 : decode cX5_leaks 89 = .ok (.dup2, 1) := by decide +kernel
theorem dX5_leaks_90 : decode cX5_leaks 90 = .ok (.iaload, 1) := by decide +kernel
theorem dX5_leaks_91 : decode cX5_leaks 91 = .ok (.iload_n 2, 1) := by decide +kernel
theorem dX5_leaks_92 : decode cX5_leaks 92 = .ok (.isub, 1) := by decide +kernel
theorem dX5_leaks_93 : decode cX5_leaks 93 = .ok (.iastore, 1) := by decide +kernel
theorem dX5_leaks_94 : decode cX5_leaks 94 = .ok (.aload_n 0, 1) := by decide +kernel
theorem dX5_leaks_95 : decode cX5_leaks 95 = .ok (.getfield 7, 3) := by decide +kernel
theorem dX5_leaks_98 : decode cX5_leaks 98 = .ok (.bipush 41, 2) := by decide +kernel
theorem dX5_leaks_100 : decode cX5_leaks 100 = .ok (.iload_n 1, 1) := by decide +kernel
theorem dX5_leaks_101 : decode cX5_leaks 101 = .ok (.iadd, 1) := by decide +kernel
theorem dX5_leaks_102 : decode cX5_leaks 102 = .ok (.dup2, 1) := by decide +kernel
theorem dX5_leaks_103 : decode cX5_leaks 103 = .ok (.iaload, 1) := by decide +kernel
theorem dX5_leaks_104 : decode cX5_leaks 104 = .ok (.iload_n 2, 1) := by decide +kernel
theorem dX5_leaks_105 : decode cX5_leaks 105 = .ok (.iadd, 1) := by decide +kernel
theorem dX5_leaks_106 : decode cX5_leaks 106 = .ok (.iastore, 1) := by decide +kernel
theorem dX5_leaks_107 : decode cX5_leaks 107 = .ok (.aload_n 0, 1) := by decide +kernel
theorem dX5_leaks_108 : decode cX5_leaks 108 = .ok (.getfield 7, 3) := by decide +kernel
theorem dX5_leaks_111 : decode cX5_leaks 111 = .ok (.bipush 9, 2) := by decide +kernel
theorem dX5_leaks_113 : decode cX5_leaks 113 = .ok (.dup2, 1) := by decide +kernel
theorem dX5_leaks_114 : decode cX5_leaks 114 = .ok (.iaload, 1) := by decide +kernel
theorem dX5_leaks_115 : decode cX5_leaks 115 = .ok (.iload_n 2, 1) := by decide +kernel
theorem dX5_leaks_116 : decode cX5_leaks 116 = .ok (.iadd, 1) := by decide +kernel
theorem dX5_leaks_117 : decode cX5_leaks 117 = .ok (.iastore, 1) := by decide +kernel
theorem dX5_leaks_118 : decode cX5_leaks 118 = .ok (.iinc 1 1, 3) := by decide +kernel
theorem dX5_leaks_121 : decode cX5_leaks 121 = .ok (.goto (-66), 3) := by decide +kernel
theorem dX5_leaks_124 : decode cX5_leaks 124 = .ok (.return_, 1) := by decide +kernel
theorem dX5_difference_0 : decode cX5_difference 0 = .ok (.aload_n 0, 1) := by decide +kernel
theorem dX5_difference_1 : decode cX5_difference 1 = .ok (.getfield 7, 3) := by decide +kernel
theorem dX5_difference_4 : decode cX5_difference 4 = .ok (.bipush 37, 2) := by decide +kernel
theorem dX5_difference_6 : decode cX5_difference 6 = .ok (.iaload, 1) := by decide +kernel
theorem dX5_difference_7 : decode cX5_difference 7 = .ok (.aload_n 0, 1) := by decide +kernel
theorem dX5_difference_8 : decode cX5_difference 8 = .ok (.getfield 7, 3) := by decide +kernel
theorem dX5_difference_11 : decode cX5_difference 11 = .ok (.bipush 38, 2) := by decide +kernel
theorem dX5_difference_13 : decode cX5_difference 13 = .ok (.iaload, 1) := by decide +kernel
theorem dX5_difference_14 : decode cX5_difference 14 = .ok (.isub, 1) := by decide +kernel
theorem dX5_difference_15 : decode cX5_difference 15 = .ok (.istore_n 1, 1) := by decide +kernel
theorem dX5_difference_16 : decode cX5_difference 16 = .ok (.iload_n 1, 1) := by decide +kernel
theorem dX5_difference_17 : decode cX5_difference 17 = .ok (.ifCond .ge 8, 3) := by decide +kernel
theorem dX5_difference_20 : decode cX5_difference 20 = .ok (.iload_n 1, 1) := by decide +kernel
theorem dX5_difference_21 : decode cX5_difference 21 = .ok (.ineg, 1) := by decide +kernel
theorem dX5_difference_22 : decode cX5_difference 22 = .ok (.goto 4, 3) := by decide +kernel
theorem dX5_difference_25 : decode cX5_difference 25 = .ok (.iload_n 1, 1) := by decide +kernel
theorem dX5_difference_26 : decode cX5_difference 26 = .ok (.ireturn, 1) := by decide +kernel
theorem dX5_logs_0 : decode cX5_logs 0 = .ok (.aload_n 0, 1) := by decide +kernel
theorem dX5_logs_1 : decode cX5_logs 1 = .ok (.getfield 7, 3) := by decide +kernel
theorem dX5_logs_4 : decode cX5_logs 4 = .ok (.bipush 12, 2) := by decide +kernel
theorem dX5_logs_6 : decode cX5_logs 6 = .ok (.iaload, 1) := by decide +kernel
theorem dX5_logs_7 : decode cX5_logs 7 = .ok (.bipush 8, 2) := by decide +kernel
theorem dX5_logs_9 : decode cX5_logs 9 = .ok (.if_icmp .ne 48, 3) := by decide +kernel
theorem dX5_logs_12 : decode cX5_logs 12 = .ok (.iconst 0, 1) := by decide +kernel
theorem dX5_logs_13 : decode cX5_logs 13 = .ok (.istore_n 1, 1) := by decide +kernel
theorem dX5_logs_14 : decode cX5_logs 14 = .ok (.iload_n 1, 1) := by decide +kernel
theorem dX5_logs_15 : decode cX5_logs 15 = .ok (.bipush 21, 2) := by decide +kernel
theorem dX5_logs_17 : decode cX5_logs 17 = .ok (.if_icmp .ge 29, 3) := by decide +kernel
theorem dX5_logs_20 : decode cX5_logs 20 = .ok (.aload_n 0, 1) := by decide +kernel
theorem dX5_logs_21 : decode cX5_logs 21 = .ok (.getfield 7, 3) := by decide +kernel
theorem dX5_logs_24 : decode cX5_logs 24 = .ok (.bipush 43, 2) := by decide +kernel
theorem dX5_logs_26 : decode cX5_logs 26 = .ok (.iload_n 1, 1) := by decide +kernel
theorem dX5_logs_27 : decode cX5_logs 27 = .ok (.iadd, 1) := by decide +kernel
theorem dX5_logs_28 : decode cX5_logs 28 = .ok (.aload_n 0, 1) := by decide +kernel
theorem dX5_logs_29 : decode cX5_logs 29 = .ok (.getfield 7, 3) := by decide +kernel
theorem dX5_logs_32 : decode cX5_logs 32 = .ok (.bipush 43, 2) := by decide +kernel
theorem dX5_logs_34 : decode cX5_logs 34 = .ok (.iload_n 1, 1) := by decide +kernel
theorem dX5_logs_35 : decode cX5_logs 35 = .ok (.iadd, 1) := by decide +kernel
theorem dX5_logs_36 : decode cX5_logs 36 = .ok (.iconst 3, 1) := by decide +kernel
theorem dX5_logs_37 : decode cX5_logs 37 = .ok (.iadd, 1) := by decide +kernel
theorem dX5_logs_38 : decode cX5_logs 38 = .ok (.iaload, 1) := by decide +kernel
theorem dX5_logs_39 : decode cX5_logs 39 = .ok (.iastore, 1) := by decide +kernel
theorem dX5_logs_40 : decode cX5_logs 40 = .ok (.iinc 1 1, 3) := by decide +kernel
theorem dX5_logs_43 : decode cX5_logs 43 = .ok (.goto (-29), 3) := by decide +kernel
theorem dX5_logs_46 : decode cX5_logs 46 = .ok (.aload_n 0, 1) := by decide +kernel
theorem dX5_logs_47 : decode cX5_logs 47 = .ok (.getfield 7, 3) := by decide +kernel
theorem dX5_logs_50 : decode cX5_logs 50 = .ok (.bipush 12, 2) := by decide +kernel
theorem dX5_logs_52 : decode cX5_logs 52 = .ok (.dup2, 1) := by decide +kernel
theorem dX5_logs_53 : decode cX5_logs 53 = .ok (.iaload, 1) := by decide +kernel
theorem dX5_logs_54 : decode cX5_logs 54 = .ok (.iconst 1, 1) := by decide +kernel
theorem dX5_logs_55 : decode cX5_logs 55 = .ok (.isub, 1) := by decide +kernel
theorem dX5_logs_56 : decode cX5_logs 56 = .ok (.iastore, 1) := by decide +kernel
theorem dX5_logs_57 : decode cX5_logs 57 = .ok (.bipush 43, 2) := by decide +kernel
theorem dX5_logs_59 : decode cX5_logs 59 = .ok (.iconst 3, 1) := by decide +kernel
theorem dX5_logs_60 : decode cX5_logs 60 = .ok (.aload_n 0, 1) := by decide +kernel
theorem dX5_logs_61 : decode cX5_logs 61 = .ok (.getfield 7, 3) := by decide +kernel
theorem dX5_logs_64 : decode cX5_logs 64 = .ok (.bipush 12, 2) := by decide +kernel
theorem dX5_logs_66 : decode cX5_logs 66 = .ok (.iaload, 1) := by decide +kernel
theorem dX5_logs_67 : decode cX5_logs 67 = .ok (.imul, 1) := by decide +kernel
theorem dX5_logs_68 : decode cX5_logs 68 = .ok (.iadd, 1) := by decide +kernel
theorem dX5_logs_69 : decode cX5_logs 69 = .ok (.istore_n 1, 1) := by decide +kernel
theorem dX5_logs_70 : decode cX5_logs 70 = .ok (.aload_n 0, 1) := by decide +kernel
theorem dX5_logs_71 : decode cX5_logs 71 = .ok (.getfield 7, 3) := by decide +kernel
theorem dX5_logs_74 : decode cX5_logs 74 = .ok (.iload_n 1, 1) := by decide +kernel
theorem dX5_logs_75 : decode cX5_logs 75 = .ok (.aload_n 0, 1) := by decide +kernel
theorem dX5_logs_76 : decode cX5_logs 76 = .ok (.getfield 7, 3) := by decide +kernel
theorem dX5_logs_79 : decode cX5_logs 79 = .ok (.iconst 5, 1) := by decide +kernel
theorem dX5_logs_80 : decode cX5_logs 80 = .ok (.iaload, 1) := by decide +kernel
theorem dX5_logs_81 : decode cX5_logs 81 = .ok (.iastore, 1) := by decide +kernel
theorem dX5_logs_82 : decode cX5_logs 82 = .ok (.aload_n 0, 1) := by decide +kernel
theorem dX5_logs_83 : decode cX5_logs 83 = .ok (.getfield 7, 3) := by decide +kernel
theorem dX5_logs_86 : decode cX5_logs 86 = .ok (.iload_n 1, 1) := by decide +kernel
theorem dX5_logs_87 : decode cX5_logs 87 = .ok (.iconst 1, 1) := by decide +kernel
theorem dX5_logs_88 : decode cX5_logs 88 = .ok (.iadd, 1) := by decide +kernel
theorem dX5_logs_89 : decode cX5_logs 89 = .ok (.aload_n 0, 1) := by decide +kernel
theorem dX5_logs_90 : decode cX5_logs 90 = .ok (.getfield 7, 3) := by decide +kernel
theorem dX5_logs_93 : decode cX5_logs 93 = .ok (.bipush 37, 2) := by decide +kernel
theorem dX5_logs_95 : decode cX5_logs 95 = .ok (.iaload, 1) := by decide +kernel
theorem dX5_logs_96 : decode cX5_logs 96 = .ok (.iastore, 1) := by decide +kernel
theorem dX5_logs_97 : decode cX5_logs 97 = .ok (.aload_n 0, 1) := by decide +kernel
theorem dX5_logs_98 : decode cX5_logs 98 = .ok (.getfield 7, 3) := by decide +kernel
theorem dX5_logs_101 : decode cX5_logs 101 = .ok (.iload_n 1, 1) := by decide +kernel
theorem dX5_logs_102 : decode cX5_logs 102 = .ok (.iconst 2, 1) := by decide +kernel
theorem dX5_logs_103 : decode cX5_logs 103 = .ok (.iadd, 1) := by decide +kernel
theorem dX5_logs_104 : decode cX5_logs 104 = .ok (.aload_n 0, 1) := by decide +kernel
theorem dX5_logs_105 : decode cX5_logs 105 = .ok (.getfield 7, 3) := by decide +kernel
theorem dX5_logs_108 : decode cX5_logs 108 = .ok (.bipush 38, 2) := by decide +kernel
theorem dX5_logs_110 : decode cX5_logs 110 = .ok (.iaload, 1) := by decide +kernel
theorem dX5_logs_111 : decode cX5_logs 111 = .ok (.iastore, 1) := by decide +kernel
theorem dX5_logs_112 : decode cX5_logs 112 = .ok (.aload_n 0, 1) := by decide +kernel
theorem dX5_logs_113 : decode cX5_logs 113 = .ok (.getfield 7, 3) := by decide +kernel
theorem dX5_logs_116 : decode cX5_logs 116 = .ok (.bipush 12, 2) := by decide +kernel
theorem dX5_logs_118 : decode cX5_logs 118 = .ok (.dup2, 1) := by decide +kernel
theorem dX5_logs_119 : decode cX5_logs 119 = .ok (.iaload, 1) := by decide +kernel
theorem dX5_logs_120 : decode cX5_logs 120 = .ok (.iconst 1, 1) := by decide +kernel
theorem dX5_logs_121 : decode cX5_logs 121 = .ok (.iadd, 1) := by decide +kernel
theorem dX5_logs_122 : decode cX5_logs 122 = .ok (.iastore, 1) := by decide +kernel
theorem dX5_logs_123 : decode cX5_logs 123 = .ok (.return_, 1) := by decide +kernel
theorem dX5_sparks_0 : decode cX5_sparks 0 = .ok (.aload_n 0, 1) := by decide +kernel
theorem dX5_sparks_1 : decode cX5_sparks 1 = .ok (.invokevirtual 40, 3) := by decide +kernel
theorem dX5_sparks_4 : decode cX5_sparks 4 = .ok (.bipush 10, 2) := by decide +kernel
theorem dX5_sparks_6 : decode cX5_sparks 6 = .ok (.aload_n 0, 1) := by decide +kernel
theorem dX5_sparks_7 : decode cX5_sparks 7 = .ok (.getfield 7, 3) := by decide +kernel
theorem dX5_sparks_10 : decode cX5_sparks 10 = .ok (.iconst 2, 1) := by decide +kernel
theorem dX5_sparks_11 : decode cX5_sparks 11 = .ok (.iaload, 1) := by decide +kernel
theorem dX5_sparks_12 : decode cX5_sparks 12 = .ok (.imul, 1) := by decide +kernel
theorem dX5_sparks_13 : decode cX5_sparks 13 = .ok (.if_icmp .ge 4, 3) := by decide +kernel
theorem dX5_sparks_16 : decode cX5_sparks 16 = .ok (.return_, 1) := by decide +kernel
theorem dX5_sparks_17 : decode cX5_sparks 17 = .ok (.aload_n 0, 1) := by decide +kernel
theorem dX5_sparks_18 : decode cX5_sparks 18 = .ok (.invokevirtual 44, 3) := by decide +kernel
theorem dX5_sparks_21 : decode cX5_sparks 21 = .ok (.aload_n 0, 1) := by decide +kernel
theorem dX5_sparks_22 : decode cX5_sparks 22 = .ok (.getfield 7, 3) := by decide +kernel
theorem dX5_sparks_25 : decode cX5_sparks 25 = .ok (.bipush 6, 2) := by decide +kernel
theorem dX5_sparks_27 : decode cX5_sparks 27 = .ok (.dup2, 1) := by decide +kernel
theorem dX5_sparks_28 : decode cX5_sparks 28 = .ok (.iaload, 1) := by decide +kernel
theorem dX5_sparks_29 : decode cX5_sparks 29 = .ok (.iconst 1, 1) := by decide +kernel
theorem dX5_sparks_30 : decode cX5_sparks 30 = .ok (.iadd, 1) := by decide +kernel
theorem dX5_sparks_31 : decode cX5_sparks 31 = .ok (.iastore, 1) := by decide +kernel
theorem dX5_sparks_32 : decode cX5_sparks 32 = .ok (.aload_n 0, 1) := by decide +kernel
theorem dX5_sparks_33 : decode cX5_sparks 33 = .ok (.getfield 7, 3) := by decide +kernel
theorem dX5_sparks_36 : decode cX5_sparks 36 = .ok (.bipush 37, 2) := by decide +kernel
theorem dX5_sparks_38 : decode cX5_sparks 38 = .ok (.iaload, 1) := by decide +kernel
theorem dX5_sparks_39 : decode cX5_sparks 39 = .ok (.aload_n 0, 1) := by decide +kernel
theorem dX5_sparks_40 : decode cX5_sparks 40 = .ok (.getfield 7, 3) := by decide +kernel
theorem dX5_sparks_43 : decode cX5_sparks 43 = .ok (.bipush 38, 2) := by decide +kernel
theorem dX5_sparks_45 : decode cX5_sparks 45 = .ok (.iaload, 1) := by decide +kernel
theorem dX5_sparks_46 : decode cX5_sparks 46 = .ok (.iadd, 1) := by decide +kernel
theorem dX5_sparks_47 : decode cX5_sparks 47 = .ok (.istore_n 1, 1) := by decide +kernel
theorem dX5_sparks_48 : decode cX5_sparks 48 = .ok (.iload_n 1, 1) := by decide +kernel
theorem dX5_sparks_49 : decode cX5_sparks 49 = .ok (.iconst 2, 1) := by decide +kernel
theorem dX5_sparks_50 : decode cX5_sparks 50 = .ok (.idiv, 1) := by decide +kernel
theorem dX5_sparks_51 : decode cX5_sparks 51 = .ok (.istore_n 2, 1) := by decide +kernel
theorem dX5_sparks_52 : decode cX5_sparks 52 = .ok (.aload_n 0, 1) := by decide +kernel
theorem dX5_sparks_53 : decode cX5_sparks 53 = .ok (.getfield 7, 3) := by decide +kernel
theorem dX5_sparks_56 : decode cX5_sparks 56 = .ok (.bipush 37, 2) := by decide +kernel
theorem dX5_sparks_58 : decode cX5_sparks 58 = .ok (.iload_n 2, 1) := by decide +kernel
theorem dX5_sparks_59 : decode cX5_sparks 59 = .ok (.aload_n 0, 1) := by decide +kernel
theorem dX5_sparks_60 : decode cX5_sparks 60 = .ok (.getfield 7, 3) := by decide +kernel
theorem dX5_sparks_63 : decode cX5_sparks 63 = .ok (.bipush 37, 2) := by decide +kernel
theorem dX5_sparks_65 : decode cX5_sparks 65 = .ok (.iaload, 1) := by decide +kernel
theorem dX5_sparks_66 : decode cX5_sparks 66 = .ok (.iload_n 2, 1) := by decide +kernel
theorem dX5_sparks_67 : decode cX5_sparks 67 = .ok (.isub, 1) := by decide +kernel
theorem dX5_sparks_68 : decode cX5_sparks 68 = .ok (.aload_n 0, 1) := by decide +kernel
theorem dX5_sparks_69 : decode cX5_sparks 69 = .ok (.getfield 7, 3) := by decide +kernel
theorem dX5_sparks_72 : decode cX5_sparks 72 = .ok (.iconst 3, 1) := by decide +kernel
theorem dX5_sparks_73 : decode cX5_sparks 73 = .ok (.iaload, 1) := by decide +kernel
theorem dX5_sparks_74 : decode cX5_sparks 74 = .ok (.imul, 1) := by decide +kernel
theorem dX5_sparks_75 : decode cX5_sparks 75 = .ok (.bipush 100, 2) := by decide +kernel
theorem dX5_sparks_77 : decode cX5_sparks 77 = .ok (.idiv, 1) := by decide +kernel
theorem dX5_sparks_78 : decode cX5_sparks 78 = .ok (.isub, 1) := by decide +kernel
theorem dX5_sparks_79 : decode cX5_sparks 79 = .ok (.iastore, 1) := by decide +kernel
theorem dX5_sparks_80 : decode cX5_sparks 80 = .ok (.aload_n 0, 1) := by decide +kernel
theorem dX5_sparks_81 : decode cX5_sparks 81 = .ok (.getfield 7, 3) := by decide +kernel
theorem dX5_sparks_84 : decode cX5_sparks 84 = .ok (.bipush 38, 2) := by decide +kernel
theorem dX5_sparks_86 : decode cX5_sparks 86 = .ok (.iload_n 1, 1) := by decide +kernel
theorem dX5_sparks_87 : decode cX5_sparks 87 = .ok (.aload_n 0, 1) := by decide +kernel
theorem dX5_sparks_88 : decode cX5_sparks 88 = .ok (.getfield 7, 3) := by decide +kernel
theorem dX5_sparks_91 : decode cX5_sparks 91 = .ok (.bipush 37, 2) := by decide +kernel
theorem dX5_sparks_93 : decode cX5_sparks 93 = .ok (.iaload, 1) := by decide +kernel
theorem dX5_sparks_94 : decode cX5_sparks 94 = .ok (.isub, 1) := by decide +kernel
theorem dX5_sparks_95 : decode cX5_sparks 95 = .ok (.iastore, 1) := by decide +kernel
theorem dX5_sparks_96 : decode cX5_sparks 96 = .ok (.return_, 1) := by decide +kernel
theorem dX5_sign_0 : decode cX5_sign 0 = .ok (.aload_n 0, 1) := by decide +kernel
theorem dX5_sign_1 : decode cX5_sign 1 = .ok (.getfield 7, 3) := by decide +kernel
theorem dX5_sign_4 : decode cX5_sign 4 = .ok (.bipush 37, 2) := by decide +kernel
theorem dX5_sign_6 : decode cX5_sign 6 = .ok (.iaload, 1) := by decide +kernel
theorem dX5_sign_7 : decode cX5_sign 7 = .ok (.aload_n 0, 1) := by decide +kernel
theorem dX5_sign_8 : decode cX5_sign 8 = .ok (.getfield 7, 3) := by decide +kernel
theorem dX5_sign_11 : decode cX5_sign 11 = .ok (.bipush 38, 2) := by decide +kernel
theorem dX5_sign_13 : decode cX5_sign 13 = .ok (.iaload, 1) := by decide +kernel
theorem dX5_sign_14 : decode cX5_sign 14 = .ok (.if_icmp .le 7, 3) := by decide +kernel
theorem dX5_sign_17 : decode cX5_sign 17 = .ok (.iconst 1, 1) := by decide +kernel
theorem dX5_sign_18 : decode cX5_sign 18 = .ok (.goto 25, 3) := by decide +kernel
theorem dX5_sign_21 : decode cX5_sign 21 = .ok (.aload_n 0, 1) := by decide +kernel
theorem dX5_sign_22 : decode cX5_sign 22 = .ok (.getfield 7, 3) := by decide +kernel
theorem dX5_sign_25 : decode cX5_sign 25 = .ok (.bipush 37, 2) := by decide +kernel
theorem dX5_sign_27 : decode cX5_sign 27 = .ok (.iaload, 1) := by decide +kernel
theorem dX5_sign_28 : decode cX5_sign 28 = .ok (.aload_n 0, 1) := by decide +kernel
theorem dX5_sign_29 : decode cX5_sign 29 = .ok (.getfield 7, 3) := by decide +kernel
theorem dX5_sign_32 : decode cX5_sign 32 = .ok (.bipush 38, 2) := by decide +kernel
theorem dX5_sign_34 : decode cX5_sign 34 = .ok (.iaload, 1) := by decide +kernel
theorem dX5_sign_35 : decode cX5_sign 35 = .ok (.if_icmp .ge 7, 3) := by decide +kernel
theorem dX5_sign_38 : decode cX5_sign 38 = .ok (.iconst (-1), 1) := by decide +kernel
theorem dX5_sign_39 : decode cX5_sign 39 = .ok (.goto 4, 3) := by decide +kernel
theorem dX5_sign_42 : decode cX5_sign 42 = .ok (.iconst 0, 1) := by decide +kernel
theorem dX5_sign_43 : decode cX5_sign 43 = .ok (.ireturn, 1) := by decide +kernel
theorem dX5_charges_0 : decode cX5_charges 0 = .ok (.aload_n 0, 1) := by decide +kernel
theorem dX5_charges_1 : decode cX5_charges 1 = .ok (.getfield 7, 3) := by decide +kernel
theorem dX5_charges_4 : decode cX5_charges 4 = .ok (.iconst 5, 1) := by decide +kernel
theorem dX5_charges_5 : decode cX5_charges 5 = .ok (.dup2, 1) := by decide +kernel
theorem dX5_charges_6 : decode cX5_charges 6 = .ok (.iaload, 1) := by decide +kernel
theorem dX5_charges_7 : decode cX5_charges 7 = .ok (.iconst 1, 1) := by decide +kernel
theorem dX5_charges_8 : decode cX5_charges 8 = .ok (.iadd, 1) := by decide +kernel
theorem dX5_charges_9 : decode cX5_charges 9 = .ok (.iastore, 1) := by decide +kernel
theorem dX5_charges_10 : decode cX5_charges 10 = .ok (.aload_n 0, 1) := by decide +kernel
theorem dX5_charges_11 : decode cX5_charges 11 = .ok (.invokevirtual 47, 3) := by decide +kernel
theorem dX5_charges_14 : decode cX5_charges 14 = .ok (.aload_n 0, 1) := by decide +kernel
theorem dX5_charges_15 : decode cX5_charges 15 = .ok (.iconst 0, 1) := by decide +kernel
theorem dX5_charges_16 : decode cX5_charges 16 = .ok (.iconst 2, 1) := by decide +kernel
theorem dX5_charges_17 : decode cX5_charges 17 = .ok (.bipush 8, 2) := by decide +kernel
theorem dX5_charges_19 : decode cX5_charges 19 = .ok (.invokevirtual 50, 3) := by decide +kernel
theorem dX5_charges_22 : decode cX5_charges 22 = .ok (.aload_n 0, 1) := by decide +kernel
theorem dX5_charges_23 : decode cX5_charges 23 = .ok (.iconst 1, 1) := by decide +kernel
theorem dX5_charges_24 : decode cX5_charges 24 = .ok (.iconst 4, 1) := by decide +kernel
theorem dX5_charges_25 : decode cX5_charges 25 = .ok (.bipush 10, 2) := by decide +kernel
theorem dX5_charges_27 : decode cX5_charges 27 = .ok (.invokevirtual 50, 3) := by decide +kernel
theorem dX5_charges_30 : decode cX5_charges 30 = .ok (.aload_n 0, 1) := by decide +kernel
theorem dX5_charges_31 : decode cX5_charges 31 = .ok (.iconst 0, 1) := by decide +kernel
theorem dX5_charges_32 : decode cX5_charges 32 = .ok (.iconst 0, 1) := by decide +kernel
theorem dX5_charges_33 : decode cX5_charges 33 = .ok (.invokevirtual 54, 3) := by decide +kernel
theorem dX5_charges_36 : decode cX5_charges 36 = .ok (.aload_n 0, 1) := by decide +kernel
theorem dX5_charges_37 : decode cX5_charges 37 = .ok (.iconst 0, 1) := by decide +kernel
theorem dX5_charges_38 : decode cX5_charges 38 = .ok (.iconst 1, 1) := by decide +kernel
theorem dX5_charges_39 : decode cX5_charges 39 = .ok (.invokevirtual 54, 3) := by decide +kernel
theorem dX5_charges_42 : decode cX5_charges 42 = .ok (.aload_n 0, 1) := by decide +kernel
theorem dX5_charges_43 : decode cX5_charges 43 = .ok (.iconst 1, 1) := by decide +kernel
theorem dX5_charges_44 : decode cX5_charges 44 = .ok (.iconst 0, 1) := by decide +kernel
theorem dX5_charges_45 : decode cX5_charges 45 = .ok (.invokevirtual 54, 3) := by decide +kernel
theorem dX5_charges_48 : decode cX5_charges 48 = .ok (.aload_n 0, 1) := by decide +kernel
theorem dX5_charges_49 : decode cX5_charges 49 = .ok (.iconst 1, 1) := by decide +kernel
theorem dX5_charges_50 : decode cX5_charges 50 = .ok (.iconst 1, 1) := by decide +kernel
theorem dX5_charges_51 : decode cX5_charges 51 = .ok (.invokevirtual 54, 3) := by decide +kernel
theorem dX5_charges_54 : decode cX5_charges 54 = .ok (.aload_n 0, 1) := by decide +kernel
theorem dX5_charges_55 : decode cX5_charges 55 = .ok (.invokevirtual 58, 3) := by decide +kernel
theorem dX5_charges_58 : decode cX5_charges 58 = .ok (.return_, 1) := by decide +kernel
theorem dX5_turns_0 : decode cX5_turns 0 = .ok (.aload_n 0, 1) := by decide +kernel
theorem dX5_turns_1 : decode cX5_turns 1 = .ok (.invokevirtual 61, 3) := by decide +kernel
theorem dX5_turns_4 : decode cX5_turns 4 = .ok (.aload_n 0, 1) := by decide +kernel
theorem dX5_turns_5 : decode cX5_turns 5 = .ok (.invokevirtual 64, 3) := by decide +kernel
theorem dX5_turns_8 : decode cX5_turns 8 = .ok (.aload_n 0, 1) := by decide +kernel
theorem dX5_turns_9 : decode cX5_turns 9 = .ok (.invokevirtual 67, 3) := by decide +kernel
theorem dX5_turns_12 : decode cX5_turns 12 = .ok (.istore_n 1, 1) := by decide +kernel
theorem dX5_turns_13 : decode cX5_turns 13 = .ok (.aload_n 0, 1) := by decide +kernel
theorem dX5_turns_14 : decode cX5_turns 14 = .ok (.getfield 7, 3) := by decide +kernel
theorem dX5_turns_17 : decode cX5_turns 17 = .ok (.bipush 7, 2) := by decide +kernel
theorem dX5_turns_19 : decode cX5_turns 19 = .ok (.dup2, 1) := by decide +kernel
theorem dX5_turns_20 : decode cX5_turns 20 = .ok (.iaload, 1) := by decide +kernel
theorem dX5_turns_21 : decode cX5_turns 21 = .ok (.iload_n 1, 1) := by decide +kernel
theorem dX5_turns_22 : decode cX5_turns 22 = .ok (.ifCond .eq 19, 3) := by decide +kernel
theorem dX5_turns_25 : decode cX5_turns 25 = .ok (.aload_n 0, 1) := by decide +kernel
theorem dX5_turns_26 : decode cX5_turns 26 = .ok (.getfield 7, 3) := by decide +kernel
theorem dX5_turns_29 : decode cX5_turns 29 = .ok (.bipush 8, 2) := by decide +kernel
theorem dX5_turns_31 : decode cX5_turns 31 = .ok (.iaload, 1) := by decide +kernel
theorem dX5_turns_32 : decode cX5_turns 32 = .ok (.iload_n 1, 1) := by decide +kernel
theorem dX5_turns_33 : decode cX5_turns 33 = .ok (.ineg, 1) := by decide +kernel
theorem dX5_turns_34 : decode cX5_turns 34 = .ok (.if_icmp .ne 7, 3) := by decide +kernel
theorem dX5_turns_37 : decode cX5_turns 37 = .ok (.iconst 1, 1) := by decide +kernel
theorem dX5_turns_38 : decode cX5_turns 38 = .ok (.goto 4, 3) := by decide +kernel
theorem dX5_turns_41 : decode cX5_turns 41 = .ok (.iconst 0, 1) := by decide +kernel
theorem dX5_turns_42 : decode cX5_turns 42 = .ok (.iadd, 1) := by decide +kernel
theorem dX5_turns_43 : decode cX5_turns 43 = .ok (.iastore, 1) := by decide +kernel
theorem dX5_turns_44 : decode cX5_turns 44 = .ok (.aload_n 0, 1) := by decide +kernel
theorem dX5_turns_45 : decode cX5_turns 45 = .ok (.getfield 7, 3) := by decide +kernel
theorem dX5_turns_48 : decode cX5_turns 48 = .ok (.bipush 8, 2) := by decide +kernel
theorem dX5_turns_50 : decode cX5_turns 50 = .ok (.iload_n 1, 1) := by decide +kernel
theorem dX5_turns_51 : decode cX5_turns 51 = .ok (.ifCond .ne 13, 3) := by decide +kernel
theorem dX5_turns_54 : decode cX5_turns 54 = .ok (.aload_n 0, 1) := by decide +kernel
theorem dX5_turns_55 : decode cX5_turns 55 = .ok (.getfield 7, 3) := by decide +kernel
theorem dX5_turns_58 : decode cX5_turns 58 = .ok (.bipush 8, 2) := by decide +kernel
theorem dX5_turns_60 : decode cX5_turns 60 = .ok (.iaload, 1) := by decide +kernel
theorem dX5_turns_61 : decode cX5_turns 61 = .ok (.goto 4, 3) := by decide +kernel
theorem dX5_turns_64 : decode cX5_turns 64 = .ok (.iload_n 1, 1) := by decide +kernel
theorem dX5_turns_65 : decode cX5_turns 65 = .ok (.iastore, 1) := by decide +kernel
theorem dX5_turns_66 : decode cX5_turns 66 = .ok (.return_, 1) := by decide +kernel
theorem dX5_turned_0 : decode cX5_turned 0 = .ok (.aload_n 0, 1) := by decide +kernel
theorem dX5_turned_1 : decode cX5_turned 1 = .ok (.getfield 7, 3) := by decide +kernel
theorem dX5_turned_4 : decode cX5_turned 4 = .ok (.bipush 6, 2) := by decide +kernel
theorem dX5_turned_6 : decode cX5_turned 6 = .ok (.iaload, 1) := by decide +kernel
theorem dX5_turned_7 : decode cX5_turned 7 = .ok (.istore_n 2, 1) := by decide +kernel
theorem dX5_turned_8 : decode cX5_turned 8 = .ok (.iconst 0, 1) := by decide +kernel
theorem dX5_turned_9 : decode cX5_turned 9 = .ok (.istore_n 3, 1) := by decide +kernel
theorem dX5_turned_10 : decode cX5_turned 10 = .ok (.iload_n 3, 1) := by decide +kernel
theorem dX5_turned_11 : decode cX5_turned 11 = .ok (.iload_n 1, 1) := by decide +kernel
theorem dX5_turned_12 : decode cX5_turned 12 = .ok (.if_icmp .ge 13, 3) := by decide +kernel
theorem dX5_turned_15 : decode cX5_turned 15 = .ok (.aload_n 0, 1) := by decide +kernel
theorem dX5_turned_16 : decode cX5_turned 16 = .ok (.invokevirtual 70, 3) := by decide +kernel
theorem dX5_turned_19 : decode cX5_turned 19 = .ok (.iinc 3 1, 3) := by decide +kernel
theorem dX5_turned_22 : decode cX5_turned 22 = .ok (.goto (-12), 3) := by decide +kernel
theorem dX5_turned_25 : decode cX5_turned 25 = .ok (.aload_n 0, 1) := by decide +kernel
theorem dX5_turned_26 : decode cX5_turned 26 = .ok (.getfield 7, 3) := by decide +kernel
theorem dX5_turned_29 : decode cX5_turned 29 = .ok (.bipush 6, 2) := by decide +kernel
theorem dX5_turned_31 : decode cX5_turned 31 = .ok (.iaload, 1) := by decide +kernel
theorem dX5_turned_32 : decode cX5_turned 32 = .ok (.iload_n 2, 1) := by decide +kernel
theorem dX5_turned_33 : decode cX5_turned 33 = .ok (.isub, 1) := by decide +kernel
theorem dX5_turned_34 : decode cX5_turned 34 = .ok (.ireturn, 1) := by decide +kernel
theorem dX5_isSetting_0 : decode cX5_isSetting 0 = .ok (.iload_n 1, 1) := by decide +kernel
theorem dX5_isSetting_1 : decode cX5_isSetting 1 = .ok (.tableswitch 77 0 4 #[35, 45, 55, 45, 65], 35) := by decide +kernel
theorem dX5_isSetting_36 : decode cX5_isSetting 36 = .ok (.iload_n 2, 1) := by decide +kernel
theorem dX5_isSetting_37 : decode cX5_isSetting 37 = .ok (.i2l, 1) := by decide +kernel
theorem dX5_isSetting_38 : decode cX5_isSetting 38 = .ok (.lconst 0, 1) := by decide +kernel
theorem dX5_isSetting_39 : decode cX5_isSetting 39 = .ok (.ldc2_w 73, 3) := by decide +kernel
theorem dX5_isSetting_42 : decode cX5_isSetting 42 = .ok (.invokestatic 75, 3) := by decide +kernel
theorem dX5_isSetting_45 : decode cX5_isSetting 45 = .ok (.ireturn, 1) := by decide +kernel
theorem dX5_isSetting_46 : decode cX5_isSetting 46 = .ok (.iload_n 2, 1) := by decide +kernel
theorem dX5_isSetting_47 : decode cX5_isSetting 47 = .ok (.i2l, 1) := by decide +kernel
theorem dX5_isSetting_48 : decode cX5_isSetting 48 = .ok (.lconst 0, 1) := by decide +kernel
theorem dX5_isSetting_49 : decode cX5_isSetting 49 = .ok (.ldc2_w 79, 3) := by decide +kernel
theorem dX5_isSetting_52 : decode cX5_isSetting 52 = .ok (.invokestatic 75, 3) := by decide +kernel
theorem dX5_isSetting_55 : decode cX5_isSetting 55 = .ok (.ireturn, 1) := by decide +kernel
theorem dX5_isSetting_56 : decode cX5_isSetting 56 = .ok (.iload_n 2, 1) := by decide +kernel
theorem dX5_isSetting_57 : decode cX5_isSetting 57 = .ok (.i2l, 1) := by decide +kernel
theorem dX5_isSetting_58 : decode cX5_isSetting 58 = .ok (.lconst 1, 1) := by decide +kernel
theorem dX5_isSetting_59 : decode cX5_isSetting 59 = .ok (.ldc2_w 81, 3) := by decide +kernel
theorem dX5_isSetting_62 : decode cX5_isSetting 62 = .ok (.invokestatic 75, 3) := by decide +kernel
theorem dX5_isSetting_65 : decode cX5_isSetting 65 = .ok (.ireturn, 1) := by decide +kernel
theorem dX5_isSetting_66 : decode cX5_isSetting 66 = .ok (.iload_n 2, 1) := by decide +kernel
theorem dX5_isSetting_67 : decode cX5_isSetting 67 = .ok (.i2l, 1) := by decide +kernel
theorem dX5_isSetting_68 : decode cX5_isSetting 68 = .ok (.ldc2_w 83, 3) := by decide +kernel
theorem dX5_isSetting_71 : decode cX5_isSetting 71 = .ok (.ldc2_w 85, 3) := by decide +kernel
theorem dX5_isSetting_74 : decode cX5_isSetting 74 = .ok (.invokestatic 75, 3) := by decide +kernel
theorem dX5_isSetting_77 : decode cX5_isSetting 77 = .ok (.ireturn, 1) := by decide +kernel
theorem dX5_isSetting_78 : decode cX5_isSetting 78 = .ok (.iconst 0, 1) := by decide +kernel
theorem dX5_isSetting_79 : decode cX5_isSetting 79 = .ok (.ireturn, 1) := by decide +kernel
theorem dX5_set_0 : decode cX5_set 0 = .ok (.aload_n 0, 1) := by decide +kernel
theorem dX5_set_1 : decode cX5_set 1 = .ok (.iload_n 1, 1) := by decide +kernel
theorem dX5_set_2 : decode cX5_set 2 = .ok (.iload_n 2, 1) := by decide +kernel
theorem dX5_set_3 : decode cX5_set 3 = .ok (.invokevirtual 87, 3) := by decide +kernel
theorem dX5_set_6 : decode cX5_set 6 = .ok (.ifCond .ne 6, 3) := by decide +kernel
theorem dX5_set_9 : decode cX5_set 9 = .ok (.ldc 91, 2) := by decide +kernel
theorem dX5_set_11 : decode cX5_set 11 = .ok (.ireturn, 1) := by decide +kernel
theorem dX5_set_12 : decode cX5_set 12 = .ok (.iload_n 1, 1) := by decide +kernel
theorem dX5_set_13 : decode cX5_set 13 = .ok (.iconst 4, 1) := by decide +kernel
theorem dX5_set_14 : decode cX5_set 14 = .ok (.if_icmp .ne 44, 3) := by decide +kernel
theorem dX5_set_17 : decode cX5_set 17 = .ok (.aload_n 0, 1) := by decide +kernel
theorem dX5_set_18 : decode cX5_set 18 = .ok (.getfield 7, 3) := by decide +kernel
theorem dX5_set_21 : decode cX5_set 21 = .ok (.bipush 37, 2) := by decide +kernel
theorem dX5_set_23 : decode cX5_set 23 = .ok (.iaload, 1) := by decide +kernel
theorem dX5_set_24 : decode cX5_set 24 = .ok (.i2l, 1) := by decide +kernel
theorem dX5_set_25 : decode cX5_set 25 = .ok (.iload_n 2, 1) := by decide +kernel
theorem dX5_set_26 : decode cX5_set 26 = .ok (.ineg, 1) := by decide +kernel
theorem dX5_set_27 : decode cX5_set 27 = .ok (.i2l, 1) := by decide +kernel
theorem dX5_set_28 : decode cX5_set 28 = .ok (.iload_n 2, 1) := by decide +kernel
theorem dX5_set_29 : decode cX5_set 29 = .ok (.i2l, 1) := by decide +kernel
theorem dX5_set_30 : decode cX5_set 30 = .ok (.invokestatic 75, 3) := by decide +kernel
theorem dX5_set_33 : decode cX5_set 33 = .ok (.ifCond .eq 22, 3) := by decide +kernel
theorem dX5_set_36 : decode cX5_set 36 = .ok (.aload_n 0, 1) := by decide +kernel
theorem dX5_set_37 : decode cX5_set 37 = .ok (.getfield 7, 3) := by decide +kernel
theorem dX5_set_40 : decode cX5_set 40 = .ok (.bipush 38, 2) := by decide +kernel
theorem dX5_set_42 : decode cX5_set 42 = .ok (.iaload, 1) := by decide +kernel
theorem dX5_set_43 : decode cX5_set 43 = .ok (.i2l, 1) := by decide +kernel
theorem dX5_set_44 : decode cX5_set 44 = .ok (.iload_n 2, 1) := by decide +kernel
theorem dX5_set_45 : decode cX5_set 45 = .ok (.ineg, 1) := by decide +kernel
theorem dX5_set_46 : decode cX5_set 46 = .ok (.i2l, 1) := by decide +kernel
theorem dX5_set_47 : decode cX5_set 47 = .ok (.iload_n 2, 1) := by decide +kernel
theorem dX5_set_48 : decode cX5_set 48 = .ok (.i2l, 1) := by decide +kernel
theorem dX5_set_49 : decode cX5_set 49 = .ok (.invokestatic 75, 3) := by decide +kernel
theorem dX5_set_52 : decode cX5_set 52 = .ok (.ifCond .ne 6, 3) := by decide +kernel
theorem dX5_set_55 : decode cX5_set 55 = .ok (.ldc 92, 2) := by decide +kernel
theorem dX5_set_57 : decode cX5_set 57 = .ok (.ireturn, 1) := by decide +kernel
theorem dX5_set_58 : decode cX5_set 58 = .ok (.aload_n 0, 1) := by decide +kernel
theorem dX5_set_59 : decode cX5_set 59 = .ok (.invokevirtual 93, 3) := by decide +kernel
theorem dX5_set_62 : decode cX5_set 62 = .ok (.aload_n 0, 1) := by decide +kernel
theorem dX5_set_63 : decode cX5_set 63 = .ok (.getfield 7, 3) := by decide +kernel
theorem dX5_set_66 : decode cX5_set 66 = .ok (.iload_n 1, 1) := by decide +kernel
theorem dX5_set_67 : decode cX5_set 67 = .ok (.iaload, 1) := by decide +kernel
theorem dX5_set_68 : decode cX5_set 68 = .ok (.istore_n 3, 1) := by decide +kernel
theorem dX5_set_69 : decode cX5_set 69 = .ok (.aload_n 0, 1) := by decide +kernel
theorem dX5_set_70 : decode cX5_set 70 = .ok (.getfield 7, 3) := by decide +kernel
theorem dX5_set_73 : decode cX5_set 73 = .ok (.iload_n 1, 1) := by decide +kernel
theorem dX5_set_74 : decode cX5_set 74 = .ok (.iload_n 2, 1) := by decide +kernel
theorem dX5_set_75 : decode cX5_set 75 = .ok (.iastore, 1) := by decide +kernel
theorem dX5_set_76 : decode cX5_set 76 = .ok (.iload_n 3, 1) := by decide +kernel
theorem dX5_set_77 : decode cX5_set 77 = .ok (.ireturn, 1) := by decide +kernel
theorem dX5_isPlace_0 : decode cX5_isPlace 0 = .ok (.iload_n 0, 1) := by decide +kernel
theorem dX5_isPlace_1 : decode cX5_isPlace 1 = .ok (.i2l, 1) := by decide +kernel
theorem dX5_isPlace_2 : decode cX5_isPlace 2 = .ok (.lconst 0, 1) := by decide +kernel
theorem dX5_isPlace_3 : decode cX5_isPlace 3 = .ok (.ldc2_w 96, 3) := by decide +kernel
theorem dX5_isPlace_6 : decode cX5_isPlace 6 = .ok (.invokestatic 75, 3) := by decide +kernel
theorem dX5_isPlace_9 : decode cX5_isPlace 9 = .ok (.ireturn, 1) := by decide +kernel
theorem dX5_touches_0 : decode cX5_touches 0 = .ok (.aload_n 0, 1) := by decide +kernel
theorem dX5_touches_1 : decode cX5_touches 1 = .ok (.getfield 7, 3) := by decide +kernel
theorem dX5_touches_4 : decode cX5_touches 4 = .ok (.bipush 10, 2) := by decide +kernel
theorem dX5_touches_6 : decode cX5_touches 6 = .ok (.dup2, 1) := by decide +kernel
theorem dX5_touches_7 : decode cX5_touches 7 = .ok (.iaload, 1) := by decide +kernel
theorem dX5_touches_8 : decode cX5_touches 8 = .ok (.iload_n 3, 1) := by decide +kernel
theorem dX5_touches_9 : decode cX5_touches 9 = .ok (.aload_n 0, 1) := by decide +kernel
theorem dX5_touches_10 : decode cX5_touches 10 = .ok (.getfield 7, 3) := by decide +kernel
theorem dX5_touches_13 : decode cX5_touches 13 = .ok (.iload_n 1, 1) := by decide +kernel
theorem dX5_touches_14 : decode cX5_touches 14 = .ok (.iload_n 2, 1) := by decide +kernel
theorem dX5_touches_15 : decode cX5_touches 15 = .ok (.invokestatic 32, 3) := by decide +kernel
theorem dX5_touches_18 : decode cX5_touches 18 = .ok (.iaload, 1) := by decide +kernel
theorem dX5_touches_19 : decode cX5_touches 19 = .ok (.isub, 1) := by decide +kernel
theorem dX5_touches_20 : decode cX5_touches 20 = .ok (.iadd, 1) := by decide +kernel
theorem dX5_touches_21 : decode cX5_touches 21 = .ok (.iastore, 1) := by decide +kernel
theorem dX5_touches_22 : decode cX5_touches 22 = .ok (.aload_n 0, 1) := by decide +kernel
theorem dX5_touches_23 : decode cX5_touches 23 = .ok (.getfield 7, 3) := by decide +kernel
theorem dX5_touches_26 : decode cX5_touches 26 = .ok (.iload_n 1, 1) := by decide +kernel
theorem dX5_touches_27 : decode cX5_touches 27 = .ok (.iload_n 2, 1) := by decide +kernel
theorem dX5_touches_28 : decode cX5_touches 28 = .ok (.invokestatic 32, 3) := by decide +kernel
theorem dX5_touches_31 : decode cX5_touches 31 = .ok (.iload_n 3, 1) := by decide +kernel
theorem dX5_touches_32 : decode cX5_touches 32 = .ok (.iastore, 1) := by decide +kernel
theorem dX5_touches_33 : decode cX5_touches 33 = .ok (.return_, 1) := by decide +kernel
theorem dX5_touch_0 : decode cX5_touch 0 = .ok (.iload_n 1, 1) := by decide +kernel
theorem dX5_touch_1 : decode cX5_touch 1 = .ok (.invokestatic 98, 3) := by decide +kernel
theorem dX5_touch_4 : decode cX5_touch 4 = .ok (.ifCond .eq 10, 3) := by decide +kernel
theorem dX5_touch_7 : decode cX5_touch 7 = .ok (.iload_n 2, 1) := by decide +kernel
theorem dX5_touch_8 : decode cX5_touch 8 = .ok (.invokestatic 102, 3) := by decide +kernel
theorem dX5_touch_11 : decode cX5_touch 11 = .ok (.ifCond .ne 6, 3) := by decide +kernel
theorem dX5_touch_14 : decode cX5_touch 14 = .ok (.ldc 105, 2) := by decide +kernel
theorem dX5_touch_16 : decode cX5_touch 16 = .ok (.ireturn, 1) := by decide +kernel
theorem dX5_touch_17 : decode cX5_touch 17 = .ok (.iload_n 3, 1) := by decide +kernel
theorem dX5_touch_18 : decode cX5_touch 18 = .ok (.i2l, 1) := by decide +kernel
theorem dX5_touch_19 : decode cX5_touch 19 = .ok (.ldc2_w 106, 3) := by decide +kernel
theorem dX5_touch_22 : decode cX5_touch 22 = .ok (.ldc2_w 108, 3) := by decide +kernel
theorem dX5_touch_25 : decode cX5_touch 25 = .ok (.invokestatic 75, 3) := by decide +kernel
theorem dX5_touch_28 : decode cX5_touch 28 = .ok (.ifCond .ne 6, 3) := by decide +kernel
theorem dX5_touch_31 : decode cX5_touch 31 = .ok (.ldc 91, 2) := by decide +kernel
theorem dX5_touch_33 : decode cX5_touch 33 = .ok (.ireturn, 1) := by decide +kernel
theorem dX5_touch_34 : decode cX5_touch 34 = .ok (.aload_n 0, 1) := by decide +kernel
theorem dX5_touch_35 : decode cX5_touch 35 = .ok (.invokevirtual 93, 3) := by decide +kernel
theorem dX5_touch_38 : decode cX5_touch 38 = .ok (.aload_n 0, 1) := by decide +kernel
theorem dX5_touch_39 : decode cX5_touch 39 = .ok (.getfield 7, 3) := by decide +kernel
theorem dX5_touch_42 : decode cX5_touch 42 = .ok (.iload_n 1, 1) := by decide +kernel
theorem dX5_touch_43 : decode cX5_touch 43 = .ok (.iload_n 2, 1) := by decide +kernel
theorem dX5_touch_44 : decode cX5_touch 44 = .ok (.invokestatic 32, 3) := by decide +kernel
theorem dX5_touch_47 : decode cX5_touch 47 = .ok (.iaload, 1) := by decide +kernel
theorem dX5_touch_48 : decode cX5_touch 48 = .ok (.istore 4, 2) := by decide +kernel
theorem dX5_touch_50 : decode cX5_touch 50 = .ok (.aload_n 0, 1) := by decide +kernel
theorem dX5_touch_51 : decode cX5_touch 51 = .ok (.iload_n 1, 1) := by decide +kernel
theorem dX5_touch_52 : decode cX5_touch 52 = .ok (.iload_n 2, 1) := by decide +kernel
theorem dX5_touch_53 : decode cX5_touch 53 = .ok (.iload_n 3, 1) := by decide +kernel
theorem dX5_touch_54 : decode cX5_touch 54 = .ok (.invokevirtual 110, 3) := by decide +kernel
theorem dX5_touch_57 : decode cX5_touch 57 = .ok (.iload 4, 2) := by decide +kernel
theorem dX5_touch_59 : decode cX5_touch 59 = .ok (.ireturn, 1) := by decide +kernel
theorem dX5_turn_0 : decode cX5_turn 0 = .ok (.iload_n 1, 1) := by decide +kernel
theorem dX5_turn_1 : decode cX5_turn 1 = .ok (.i2l, 1) := by decide +kernel
theorem dX5_turn_2 : decode cX5_turn 2 = .ok (.lconst 1, 1) := by decide +kernel
theorem dX5_turn_3 : decode cX5_turn 3 = .ok (.ldc2_w 108, 3) := by decide +kernel
theorem dX5_turn_6 : decode cX5_turn 6 = .ok (.invokestatic 75, 3) := by decide +kernel
theorem dX5_turn_9 : decode cX5_turn 9 = .ok (.ifCond .ne 6, 3) := by decide +kernel
theorem dX5_turn_12 : decode cX5_turn 12 = .ok (.ldc 91, 2) := by decide +kernel
theorem dX5_turn_14 : decode cX5_turn 14 = .ok (.ireturn, 1) := by decide +kernel
theorem dX5_turn_15 : decode cX5_turn 15 = .ok (.aload_n 0, 1) := by decide +kernel
theorem dX5_turn_16 : decode cX5_turn 16 = .ok (.getfield 7, 3) := by decide +kernel
theorem dX5_turn_19 : decode cX5_turn 19 = .ok (.iconst 5, 1) := by decide +kernel
theorem dX5_turn_20 : decode cX5_turn 20 = .ok (.iaload, 1) := by decide +kernel
theorem dX5_turn_21 : decode cX5_turn 21 = .ok (.iload_n 1, 1) := by decide +kernel
theorem dX5_turn_22 : decode cX5_turn 22 = .ok (.iadd, 1) := by decide +kernel
theorem dX5_turn_23 : decode cX5_turn 23 = .ok (.ldc 113, 2) := by decide +kernel
theorem dX5_turn_25 : decode cX5_turn 25 = .ok (.if_icmp .le 6, 3) := by decide +kernel
theorem dX5_turn_28 : decode cX5_turn 28 = .ok (.ldc 114, 2) := by decide +kernel
theorem dX5_turn_30 : decode cX5_turn 30 = .ok (.ireturn, 1) := by decide +kernel
theorem dX5_turn_31 : decode cX5_turn 31 = .ok (.aload_n 0, 1) := by decide +kernel
theorem dX5_turn_32 : decode cX5_turn 32 = .ok (.invokevirtual 93, 3) := by decide +kernel
theorem dX5_turn_35 : decode cX5_turn 35 = .ok (.aload_n 0, 1) := by decide +kernel
theorem dX5_turn_36 : decode cX5_turn 36 = .ok (.iload_n 1, 1) := by decide +kernel
theorem dX5_turn_37 : decode cX5_turn 37 = .ok (.invokevirtual 115, 3) := by decide +kernel
theorem dX5_turn_40 : decode cX5_turn 40 = .ok (.ireturn, 1) := by decide +kernel
theorem dX5_discharges_0 : decode cX5_discharges 0 = .ok (.aload_n 0, 1) := by decide +kernel
theorem dX5_discharges_1 : decode cX5_discharges 1 = .ok (.invokevirtual 40, 3) := by decide +kernel
theorem dX5_discharges_4 : decode cX5_discharges 4 = .ok (.istore_n 1, 1) := by decide +kernel
theorem dX5_discharges_5 : decode cX5_discharges 5 = .ok (.aload_n 0, 1) := by decide +kernel
theorem dX5_discharges_6 : decode cX5_discharges 6 = .ok (.getfield 7, 3) := by decide +kernel
theorem dX5_discharges_9 : decode cX5_discharges 9 = .ok (.bipush 11, 2) := by decide +kernel
theorem dX5_discharges_11 : decode cX5_discharges 11 = .ok (.dup2, 1) := by decide +kernel
theorem dX5_discharges_12 : decode cX5_discharges 12 = .ok (.iaload, 1) := by decide +kernel
theorem dX5_discharges_13 : decode cX5_discharges 13 = .ok (.aload_n 0, 1) := by decide +kernel
theorem dX5_discharges_14 : decode cX5_discharges 14 = .ok (.getfield 7, 3) := by decide +kernel
theorem dX5_discharges_17 : decode cX5_discharges 17 = .ok (.bipush 37, 2) := by decide +kernel
theorem dX5_discharges_19 : decode cX5_discharges 19 = .ok (.iaload, 1) := by decide +kernel
theorem dX5_discharges_20 : decode cX5_discharges 20 = .ok (.aload_n 0, 1) := by decide +kernel
theorem dX5_discharges_21 : decode cX5_discharges 21 = .ok (.getfield 7, 3) := by decide +kernel
theorem dX5_discharges_24 : decode cX5_discharges 24 = .ok (.bipush 38, 2) := by decide +kernel
theorem dX5_discharges_26 : decode cX5_discharges 26 = .ok (.iaload, 1) := by decide +kernel
theorem dX5_discharges_27 : decode cX5_discharges 27 = .ok (.iadd, 1) := by decide +kernel
theorem dX5_discharges_28 : decode cX5_discharges 28 = .ok (.iadd, 1) := by decide +kernel
theorem dX5_discharges_29 : decode cX5_discharges 29 = .ok (.iastore, 1) := by decide +kernel
theorem dX5_discharges_30 : decode cX5_discharges 30 = .ok (.aload_n 0, 1) := by decide +kernel
theorem dX5_discharges_31 : decode cX5_discharges 31 = .ok (.getfield 7, 3) := by decide +kernel
theorem dX5_discharges_34 : decode cX5_discharges 34 = .ok (.bipush 37, 2) := by decide +kernel
theorem dX5_discharges_36 : decode cX5_discharges 36 = .ok (.iconst 0, 1) := by decide +kernel
theorem dX5_discharges_37 : decode cX5_discharges 37 = .ok (.iastore, 1) := by decide +kernel
theorem dX5_discharges_38 : decode cX5_discharges 38 = .ok (.aload_n 0, 1) := by decide +kernel
theorem dX5_discharges_39 : decode cX5_discharges 39 = .ok (.getfield 7, 3) := by decide +kernel
theorem dX5_discharges_42 : decode cX5_discharges 42 = .ok (.bipush 38, 2) := by decide +kernel
theorem dX5_discharges_44 : decode cX5_discharges 44 = .ok (.iconst 0, 1) := by decide +kernel
theorem dX5_discharges_45 : decode cX5_discharges 45 = .ok (.iastore, 1) := by decide +kernel
theorem dX5_discharges_46 : decode cX5_discharges 46 = .ok (.iload_n 1, 1) := by decide +kernel
theorem dX5_discharges_47 : decode cX5_discharges 47 = .ok (.ireturn, 1) := by decide +kernel
theorem dX5_discharge_0 : decode cX5_discharge 0 = .ok (.aload_n 0, 1) := by decide +kernel
theorem dX5_discharge_1 : decode cX5_discharge 1 = .ok (.invokevirtual 93, 3) := by decide +kernel
theorem dX5_discharge_4 : decode cX5_discharge 4 = .ok (.aload_n 0, 1) := by decide +kernel
theorem dX5_discharge_5 : decode cX5_discharge 5 = .ok (.invokevirtual 119, 3) := by decide +kernel
theorem dX5_discharge_8 : decode cX5_discharge 8 = .ok (.ireturn, 1) := by decide +kernel
theorem dX5_wipeDisc_0 : decode cX5_wipeDisc 0 = .ok (.iload_n 1, 1) := by decide +kernel
theorem dX5_wipeDisc_1 : decode cX5_wipeDisc 1 = .ok (.invokestatic 98, 3) := by decide +kernel
theorem dX5_wipeDisc_4 : decode cX5_wipeDisc 4 = .ok (.ifCond .ne 6, 3) := by decide +kernel
theorem dX5_wipeDisc_7 : decode cX5_wipeDisc 7 = .ok (.ldc 105, 2) := by decide +kernel
theorem dX5_wipeDisc_9 : decode cX5_wipeDisc 9 = .ok (.ireturn, 1) := by decide +kernel
theorem dX5_wipeDisc_10 : decode cX5_wipeDisc 10 = .ok (.aload_n 0, 1) := by decide +kernel
theorem dX5_wipeDisc_11 : decode cX5_wipeDisc 11 = .ok (.invokevirtual 93, 3) := by decide +kernel
theorem dX5_wipeDisc_14 : decode cX5_wipeDisc 14 = .ok (.iconst 0, 1) := by decide +kernel
theorem dX5_wipeDisc_15 : decode cX5_wipeDisc 15 = .ok (.istore_n 2, 1) := by decide +kernel
theorem dX5_wipeDisc_16 : decode cX5_wipeDisc 16 = .ok (.iconst 0, 1) := by decide +kernel
theorem dX5_wipeDisc_17 : decode cX5_wipeDisc 17 = .ok (.istore_n 3, 1) := by decide +kernel
theorem dX5_wipeDisc_18 : decode cX5_wipeDisc 18 = .ok (.iload_n 3, 1) := by decide +kernel
theorem dX5_wipeDisc_19 : decode cX5_wipeDisc 19 = .ok (.bipush 12, 2) := by decide +kernel
theorem dX5_wipeDisc_21 : decode cX5_wipeDisc 21 = .ok (.if_icmp .ge 61, 3) := by decide +kernel
theorem dX5_wipeDisc_24 : decode cX5_wipeDisc 24 = .ok (.iload_n 2, 1) := by decide +kernel
theorem dX5_wipeDisc_25 : decode cX5_wipeDisc 25 = .ok (.aload_n 0, 1) := by decide +kernel
theorem dX5_wipeDisc_26 : decode cX5_wipeDisc 26 = .ok (.getfield 7, 3) := by decide +kernel
theorem dX5_wipeDisc_29 : decode cX5_wipeDisc 29 = .ok (.iload_n 1, 1) := by decide +kernel
theorem dX5_wipeDisc_30 : decode cX5_wipeDisc 30 = .ok (.iload_n 3, 1) := by decide +kernel
theorem dX5_wipeDisc_31 : decode cX5_wipeDisc 31 = .ok (.invokestatic 32, 3) := by decide +kernel
theorem dX5_wipeDisc_34 : decode cX5_wipeDisc 34 = .ok (.iaload, 1) := by decide +kernel
theorem dX5_wipeDisc_35 : decode cX5_wipeDisc 35 = .ok (.ifCond .ne 7, 3) := by decide +kernel
theorem dX5_wipeDisc_38 : decode cX5_wipeDisc 38 = .ok (.iconst 0, 1) := by decide +kernel
theorem dX5_wipeDisc_39 : decode cX5_wipeDisc 39 = .ok (.goto 4, 3) := by decide +kernel
theorem dX5_wipeDisc_42 : decode cX5_wipeDisc 42 = .ok (.iconst 1, 1) := by decide +kernel
theorem dX5_wipeDisc_43 : decode cX5_wipeDisc 43 = .ok (.iadd, 1) := by decide +kernel
theorem dX5_wipeDisc_44 : decode cX5_wipeDisc 44 = .ok (.istore_n 2, 1) := by decide +kernel
theorem dX5_wipeDisc_45 : decode cX5_wipeDisc 45 = .ok (.aload_n 0, 1) := by decide +kernel
theorem dX5_wipeDisc_46 : decode cX5_wipeDisc 46 = .ok (.getfield 7, 3) := by decide +kernel
theorem dX5_wipeDisc_49 : decode cX5_wipeDisc 49 = .ok (.bipush 11, 2) := by decide +kernel
theorem dX5_wipeDisc_51 : decode cX5_wipeDisc 51 = .ok (.dup2, 1) := by decide +kernel
theorem dX5_wipeDisc_52 : decode cX5_wipeDisc 52 = .ok (.iaload, 1) := by decide +kernel
theorem dX5_wipeDisc_53 : decode cX5_wipeDisc 53 = .ok (.aload_n 0, 1) := by decide +kernel
theorem dX5_wipeDisc_54 : decode cX5_wipeDisc 54 = .ok (.getfield 7, 3) := by decide +kernel
theorem dX5_wipeDisc_57 : decode cX5_wipeDisc 57 = .ok (.iload_n 1, 1) := by decide +kernel
theorem dX5_wipeDisc_58 : decode cX5_wipeDisc 58 = .ok (.iload_n 3, 1) := by decide +kernel
theorem dX5_wipeDisc_59 : decode cX5_wipeDisc 59 = .ok (.invokestatic 32, 3) := by decide +kernel
theorem dX5_wipeDisc_62 : decode cX5_wipeDisc 62 = .ok (.iaload, 1) := by decide +kernel
theorem dX5_wipeDisc_63 : decode cX5_wipeDisc 63 = .ok (.iadd, 1) := by decide +kernel
theorem dX5_wipeDisc_64 : decode cX5_wipeDisc 64 = .ok (.iastore, 1) := by decide +kernel
theorem dX5_wipeDisc_65 : decode cX5_wipeDisc 65 = .ok (.aload_n 0, 1) := by decide +kernel
theorem dX5_wipeDisc_66 : decode cX5_wipeDisc 66 = .ok (.getfield 7, 3) := by decide +kernel
theorem dX5_wipeDisc_69 : decode cX5_wipeDisc 69 = .ok (.iload_n 1, 1) := by decide +kernel
theorem dX5_wipeDisc_70 : decode cX5_wipeDisc 70 = .ok (.iload_n 3, 1) := by decide +kernel
theorem dX5_wipeDisc_71 : decode cX5_wipeDisc 71 = .ok (.invokestatic 32, 3) := by decide +kernel
theorem dX5_wipeDisc_74 : decode cX5_wipeDisc 74 = .ok (.iconst 0, 1) := by decide +kernel
theorem dX5_wipeDisc_75 : decode cX5_wipeDisc 75 = .ok (.iastore, 1) := by decide +kernel
theorem dX5_wipeDisc_76 : decode cX5_wipeDisc 76 = .ok (.iinc 3 1, 3) := by decide +kernel
theorem dX5_wipeDisc_79 : decode cX5_wipeDisc 79 = .ok (.goto (-61), 3) := by decide +kernel
theorem dX5_wipeDisc_82 : decode cX5_wipeDisc 82 = .ok (.iload_n 2, 1) := by decide +kernel
theorem dX5_wipeDisc_83 : decode cX5_wipeDisc 83 = .ok (.ireturn, 1) := by decide +kernel
theorem dX5_sector_0 : decode cX5_sector 0 = .ok (.iload_n 1, 1) := by decide +kernel
theorem dX5_sector_1 : decode cX5_sector 1 = .ok (.invokestatic 98, 3) := by decide +kernel
theorem dX5_sector_4 : decode cX5_sector 4 = .ok (.ifCond .eq 23, 3) := by decide +kernel
theorem dX5_sector_7 : decode cX5_sector 7 = .ok (.iload_n 2, 1) := by decide +kernel
theorem dX5_sector_8 : decode cX5_sector 8 = .ok (.invokestatic 102, 3) := by decide +kernel
theorem dX5_sector_11 : decode cX5_sector 11 = .ok (.ifCond .eq 16, 3) := by decide +kernel
theorem dX5_sector_14 : decode cX5_sector 14 = .ok (.aload_n 0, 1) := by decide +kernel
theorem dX5_sector_15 : decode cX5_sector 15 = .ok (.getfield 7, 3) := by decide +kernel
theorem dX5_sector_18 : decode cX5_sector 18 = .ok (.iload_n 1, 1) := by decide +kernel
theorem dX5_sector_19 : decode cX5_sector 19 = .ok (.iload_n 2, 1) := by decide +kernel
theorem dX5_sector_20 : decode cX5_sector 20 = .ok (.invokestatic 32, 3) := by decide +kernel
theorem dX5_sector_23 : decode cX5_sector 23 = .ok (.iaload, 1) := by decide +kernel
theorem dX5_sector_24 : decode cX5_sector 24 = .ok (.goto 5, 3) := by decide +kernel
theorem dX5_sector_27 : decode cX5_sector 27 = .ok (.ldc 105, 2) := by decide +kernel
theorem dX5_sector_29 : decode cX5_sector 29 = .ok (.ireturn, 1) := by decide +kernel
theorem dX5_disc_0 : decode cX5_disc 0 = .ok (.iload_n 1, 1) := by decide +kernel
theorem dX5_disc_1 : decode cX5_disc 1 = .ok (.invokestatic 98, 3) := by decide +kernel
theorem dX5_disc_4 : decode cX5_disc 4 = .ok (.ifCond .ne 6, 3) := by decide +kernel
theorem dX5_disc_7 : decode cX5_disc 7 = .ok (.ldc 105, 2) := by decide +kernel
theorem dX5_disc_9 : decode cX5_disc 9 = .ok (.ireturn, 1) := by decide +kernel
theorem dX5_disc_10 : decode cX5_disc 10 = .ok (.iconst 0, 1) := by decide +kernel
theorem dX5_disc_11 : decode cX5_disc 11 = .ok (.istore_n 3, 1) := by decide +kernel
theorem dX5_disc_12 : decode cX5_disc 12 = .ok (.iconst 0, 1) := by decide +kernel
theorem dX5_disc_13 : decode cX5_disc 13 = .ok (.istore 4, 2) := by decide +kernel
theorem dX5_disc_15 : decode cX5_disc 15 = .ok (.iconst 0, 1) := by decide +kernel
theorem dX5_disc_16 : decode cX5_disc 16 = .ok (.istore 5, 2) := by decide +kernel
theorem dX5_disc_18 : decode cX5_disc 18 = .ok (.bipush (-99), 2) := by decide +kernel
theorem dX5_disc_20 : decode cX5_disc 20 = .ok (.istore 6, 2) := by decide +kernel
theorem dX5_disc_22 : decode cX5_disc 22 = .ok (.bipush 99, 2) := by decide +kernel
theorem dX5_disc_24 : decode cX5_disc 24 = .ok (.istore 7, 2) := by decide +kernel
theorem dX5_disc_26 : decode cX5_disc 26 = .ok (.iconst 0, 1) := by decide +kernel
theorem dX5_disc_27 : decode cX5_disc 27 = .ok (.istore 8, 2) := by decide +kernel
theorem dX5_disc_29 : decode cX5_disc 29 = .ok (.iload 8, 2) := by decide +kernel
theorem dX5_disc_31 : decode cX5_disc 31 = .ok (.bipush 12, 2) := by decide +kernel
theorem dX5_disc_33 : decode cX5_disc 33 = .ok (.if_icmp .ge 89, 3) := by decide +kernel
theorem dX5_disc_36 : decode cX5_disc 36 = .ok (.aload_n 0, 1) := by decide +kernel
theorem dX5_disc_37 : decode cX5_disc 37 = .ok (.getfield 7, 3) := by decide +kernel
theorem dX5_disc_40 : decode cX5_disc 40 = .ok (.iload_n 1, 1) := by decide +kernel
theorem dX5_disc_41 : decode cX5_disc 41 = .ok (.iload 8, 2) := by decide +kernel
theorem dX5_disc_43 : decode cX5_disc 43 = .ok (.invokestatic 32, 3) := by decide +kernel
theorem dX5_disc_46 : decode cX5_disc 46 = .ok (.iaload, 1) := by decide +kernel
theorem dX5_disc_47 : decode cX5_disc 47 = .ok (.istore 9, 2) := by decide +kernel
theorem dX5_disc_49 : decode cX5_disc 49 = .ok (.iload_n 3, 1) := by decide +kernel
theorem dX5_disc_50 : decode cX5_disc 50 = .ok (.iload 9, 2) := by decide +kernel
theorem dX5_disc_52 : decode cX5_disc 52 = .ok (.iadd, 1) := by decide +kernel
theorem dX5_disc_53 : decode cX5_disc 53 = .ok (.istore_n 3, 1) := by decide +kernel
theorem dX5_disc_54 : decode cX5_disc 54 = .ok (.iload 4, 2) := by decide +kernel
theorem dX5_disc_56 : decode cX5_disc 56 = .ok (.iload 9, 2) := by decide +kernel
theorem dX5_disc_58 : decode cX5_disc 58 = .ok (.ifCond .le 7, 3) := by decide +kernel
theorem dX5_disc_61 : decode cX5_disc 61 = .ok (.iconst 1, 1) := by decide +kernel
theorem dX5_disc_62 : decode cX5_disc 62 = .ok (.goto 4, 3) := by decide +kernel
theorem dX5_disc_65 : decode cX5_disc 65 = .ok (.iconst 0, 1) := by decide +kernel
theorem dX5_disc_66 : decode cX5_disc 66 = .ok (.iadd, 1) := by decide +kernel
theorem dX5_disc_67 : decode cX5_disc 67 = .ok (.istore 4, 2) := by decide +kernel
theorem dX5_disc_69 : decode cX5_disc 69 = .ok (.iload 5, 2) := by decide +kernel
theorem dX5_disc_71 : decode cX5_disc 71 = .ok (.iload 9, 2) := by decide +kernel
theorem dX5_disc_73 : decode cX5_disc 73 = .ok (.ifCond .ge 7, 3) := by decide +kernel
theorem dX5_disc_76 : decode cX5_disc 76 = .ok (.iconst 1, 1) := by decide +kernel
theorem dX5_disc_77 : decode cX5_disc 77 = .ok (.goto 4, 3) := by decide +kernel
theorem dX5_disc_80 : decode cX5_disc 80 = .ok (.iconst 0, 1) := by decide +kernel
theorem dX5_disc_81 : decode cX5_disc 81 = .ok (.iadd, 1) := by decide +kernel
theorem dX5_disc_82 : decode cX5_disc 82 = .ok (.istore 5, 2) := by decide +kernel
theorem dX5_disc_84 : decode cX5_disc 84 = .ok (.iload 9, 2) := by decide +kernel
theorem dX5_disc_86 : decode cX5_disc 86 = .ok (.iload 6, 2) := by decide +kernel
theorem dX5_disc_88 : decode cX5_disc 88 = .ok (.if_icmp .le 8, 3) := by decide +kernel
theorem dX5_disc_91 : decode cX5_disc 91 = .ok (.iload 9, 2) := by decide +kernel
theorem dX5_disc_93 : decode cX5_disc 93 = .ok (.goto 5, 3) := by decide +kernel
theorem dX5_disc_96 : decode cX5_disc 96 = .ok (.iload 6, 2) := by decide +kernel
theorem dX5_disc_98 : decode cX5_disc 98 = .ok (.istore 6, 2) := by decide +kernel
theorem dX5_disc_100 : decode cX5_disc 100 = .ok (.iload 9, 2) := by decide +kernel
theorem dX5_disc_102 : decode cX5_disc 102 = .ok (.iload 7, 2) := by decide +kernel
theorem dX5_disc_104 : decode cX5_disc 104 = .ok (.if_icmp .ge 8, 3) := by decide +kernel
theorem dX5_disc_107 : decode cX5_disc 107 = .ok (.iload 9, 2) := by decide +kernel
theorem dX5_disc_109 : decode cX5_disc 109 = .ok (.goto 5, 3) := by decide +kernel
theorem dX5_disc_112 : decode cX5_disc 112 = .ok (.iload 7, 2) := by decide +kernel
theorem dX5_disc_114 : decode cX5_disc 114 = .ok (.istore 7, 2) := by decide +kernel
theorem dX5_disc_116 : decode cX5_disc 116 = .ok (.iinc 8 1, 3) := by decide +kernel
theorem dX5_disc_119 : decode cX5_disc 119 = .ok (.goto (-90), 3) := by decide +kernel
theorem dX5_disc_122 : decode cX5_disc 122 = .ok (.iload_n 2, 1) := by decide +kernel
theorem dX5_disc_123 : decode cX5_disc 123 = .ok (.tableswitch 47 0 4 #[33, 35, 38, 41, 44], 33) := by decide +kernel
theorem dX5_disc_156 : decode cX5_disc 156 = .ok (.iload_n 3, 1) := by decide +kernel
theorem dX5_disc_157 : decode cX5_disc 157 = .ok (.ireturn, 1) := by decide +kernel
theorem dX5_disc_158 : decode cX5_disc 158 = .ok (.iload 4, 2) := by decide +kernel
theorem dX5_disc_160 : decode cX5_disc 160 = .ok (.ireturn, 1) := by decide +kernel
theorem dX5_disc_161 : decode cX5_disc 161 = .ok (.iload 5, 2) := by decide +kernel
theorem dX5_disc_163 : decode cX5_disc 163 = .ok (.ireturn, 1) := by decide +kernel
theorem dX5_disc_164 : decode cX5_disc 164 = .ok (.iload 6, 2) := by decide +kernel
theorem dX5_disc_166 : decode cX5_disc 166 = .ok (.ireturn, 1) := by decide +kernel
theorem dX5_disc_167 : decode cX5_disc 167 = .ok (.iload 7, 2) := by decide +kernel
theorem dX5_disc_169 : decode cX5_disc 169 = .ok (.ireturn, 1) := by decide +kernel
theorem dX5_disc_170 : decode cX5_disc 170 = .ok (.ldc 91, 2) := by decide +kernel
theorem dX5_disc_172 : decode cX5_disc 172 = .ok (.ireturn, 1) := by decide +kernel
theorem dX5_jar_0 : decode cX5_jar 0 = .ok (.iload_n 1, 1) := by decide +kernel
theorem dX5_jar_1 : decode cX5_jar 1 = .ok (.invokestatic 98, 3) := by decide +kernel
theorem dX5_jar_4 : decode cX5_jar 4 = .ok (.ifCond .ne 8, 3) := by decide +kernel
theorem dX5_jar_7 : decode cX5_jar 7 = .ok (.ldc 105, 2) := by decide +kernel
theorem dX5_jar_9 : decode cX5_jar 9 = .ok (.goto 33, 3) := by decide +kernel
theorem dX5_jar_12 : decode cX5_jar 12 = .ok (.iload_n 2, 1) := by decide +kernel
theorem dX5_jar_13 : decode cX5_jar 13 = .ok (.i2l, 1) := by decide +kernel
theorem dX5_jar_14 : decode cX5_jar 14 = .ok (.lconst 0, 1) := by decide +kernel
theorem dX5_jar_15 : decode cX5_jar 15 = .ok (.ldc2_w 122, 3) := by decide +kernel
theorem dX5_jar_18 : decode cX5_jar 18 = .ok (.invokestatic 75, 3) := by decide +kernel
theorem dX5_jar_21 : decode cX5_jar 21 = .ok (.ifCond .eq 19, 3) := by decide +kernel
theorem dX5_jar_24 : decode cX5_jar 24 = .ok (.aload_n 0, 1) := by decide +kernel
theorem dX5_jar_25 : decode cX5_jar 25 = .ok (.getfield 7, 3) := by decide +kernel
theorem dX5_jar_28 : decode cX5_jar 28 = .ok (.bipush 37, 2) := by decide +kernel
theorem dX5_jar_30 : decode cX5_jar 30 = .ok (.iconst 2, 1) := by decide +kernel
theorem dX5_jar_31 : decode cX5_jar 31 = .ok (.iload_n 2, 1) := by decide +kernel
theorem dX5_jar_32 : decode cX5_jar 32 = .ok (.imul, 1) := by decide +kernel
theorem dX5_jar_33 : decode cX5_jar 33 = .ok (.iadd, 1) := by decide +kernel
theorem dX5_jar_34 : decode cX5_jar 34 = .ok (.iload_n 1, 1) := by decide +kernel
theorem dX5_jar_35 : decode cX5_jar 35 = .ok (.iadd, 1) := by decide +kernel
theorem dX5_jar_36 : decode cX5_jar 36 = .ok (.iaload, 1) := by decide +kernel
theorem dX5_jar_37 : decode cX5_jar 37 = .ok (.goto 5, 3) := by decide +kernel
theorem dX5_jar_40 : decode cX5_jar 40 = .ok (.ldc 91, 2) := by decide +kernel
theorem dX5_jar_42 : decode cX5_jar 42 = .ok (.ireturn, 1) := by decide +kernel
theorem dX5_spark_0 : decode cX5_spark 0 = .ok (.iload_n 1, 1) := by decide +kernel
theorem dX5_spark_1 : decode cX5_spark 1 = .ok (.ifCond .lt 15, 3) := by decide +kernel
theorem dX5_spark_4 : decode cX5_spark 4 = .ok (.iload_n 2, 1) := by decide +kernel
theorem dX5_spark_5 : decode cX5_spark 5 = .ok (.i2l, 1) := by decide +kernel
theorem dX5_spark_6 : decode cX5_spark 6 = .ok (.lconst 0, 1) := by decide +kernel
theorem dX5_spark_7 : decode cX5_spark 7 = .ok (.ldc2_w 122, 3) := by decide +kernel
theorem dX5_spark_10 : decode cX5_spark 10 = .ok (.invokestatic 75, 3) := by decide +kernel
theorem dX5_spark_13 : decode cX5_spark 13 = .ok (.ifCond .ne 6, 3) := by decide +kernel
theorem dX5_spark_16 : decode cX5_spark 16 = .ok (.ldc 91, 2) := by decide +kernel
theorem dX5_spark_18 : decode cX5_spark 18 = .ok (.ireturn, 1) := by decide +kernel
theorem dX5_spark_19 : decode cX5_spark 19 = .ok (.iload_n 1, 1) := by decide +kernel
theorem dX5_spark_20 : decode cX5_spark 20 = .ok (.aload_n 0, 1) := by decide +kernel
theorem dX5_spark_21 : decode cX5_spark 21 = .ok (.getfield 7, 3) := by decide +kernel
theorem dX5_spark_24 : decode cX5_spark 24 = .ok (.bipush 12, 2) := by decide +kernel
theorem dX5_spark_26 : decode cX5_spark 26 = .ok (.iaload, 1) := by decide +kernel
theorem dX5_spark_27 : decode cX5_spark 27 = .ok (.if_icmp .ge 29, 3) := by decide +kernel
theorem dX5_spark_30 : decode cX5_spark 30 = .ok (.aload_n 0, 1) := by decide +kernel
theorem dX5_spark_31 : decode cX5_spark 31 = .ok (.getfield 7, 3) := by decide +kernel
theorem dX5_spark_34 : decode cX5_spark 34 = .ok (.bipush 43, 2) := by decide +kernel
theorem dX5_spark_36 : decode cX5_spark 36 = .ok (.iconst 3, 1) := by decide +kernel
theorem dX5_spark_37 : decode cX5_spark 37 = .ok (.aload_n 0, 1) := by decide +kernel
theorem dX5_spark_38 : decode cX5_spark 38 = .ok (.getfield 7, 3) := by decide +kernel
theorem dX5_spark_41 : decode cX5_spark 41 = .ok (.bipush 12, 2) := by decide +kernel
theorem dX5_spark_43 : decode cX5_spark 43 = .ok (.iaload, 1) := by decide +kernel
theorem dX5_spark_44 : decode cX5_spark 44 = .ok (.iconst 1, 1) := by decide +kernel
theorem dX5_spark_45 : decode cX5_spark 45 = .ok (.isub, 1) := by decide +kernel
theorem dX5_spark_46 : decode cX5_spark 46 = .ok (.iload_n 1, 1) := by decide +kernel
theorem dX5_spark_47 : decode cX5_spark 47 = .ok (.isub, 1) := by decide +kernel
theorem dX5_spark_48 : decode cX5_spark 48 = .ok (.imul, 1) := by decide +kernel
theorem dX5_spark_49 : decode cX5_spark 49 = .ok (.iadd, 1) := by decide +kernel
theorem dX5_spark_50 : decode cX5_spark 50 = .ok (.iload_n 2, 1) := by decide +kernel
theorem dX5_spark_51 : decode cX5_spark 51 = .ok (.iadd, 1) := by decide +kernel
theorem dX5_spark_52 : decode cX5_spark 52 = .ok (.iaload, 1) := by decide +kernel
theorem dX5_spark_53 : decode cX5_spark 53 = .ok (.goto 5, 3) := by decide +kernel
theorem dX5_spark_56 : decode cX5_spark 56 = .ok (.ldc 124, 2) := by decide +kernel
theorem dX5_spark_58 : decode cX5_spark 58 = .ok (.ireturn, 1) := by decide +kernel
theorem dX5_allCharge_0 : decode cX5_allCharge 0 = .ok (.aload_n 0, 1) := by decide +kernel
theorem dX5_allCharge_1 : decode cX5_allCharge 1 = .ok (.getfield 7, 3) := by decide +kernel
theorem dX5_allCharge_4 : decode cX5_allCharge 4 = .ok (.bipush 37, 2) := by decide +kernel
theorem dX5_allCharge_6 : decode cX5_allCharge 6 = .ok (.iaload, 1) := by decide +kernel
theorem dX5_allCharge_7 : decode cX5_allCharge 7 = .ok (.aload_n 0, 1) := by decide +kernel
theorem dX5_allCharge_8 : decode cX5_allCharge 8 = .ok (.getfield 7, 3) := by decide +kernel
theorem dX5_allCharge_11 : decode cX5_allCharge 11 = .ok (.bipush 38, 2) := by decide +kernel
theorem dX5_allCharge_13 : decode cX5_allCharge 13 = .ok (.iaload, 1) := by decide +kernel
theorem dX5_allCharge_14 : decode cX5_allCharge 14 = .ok (.iadd, 1) := by decide +kernel
theorem dX5_allCharge_15 : decode cX5_allCharge 15 = .ok (.istore_n 1, 1) := by decide +kernel
theorem dX5_allCharge_16 : decode cX5_allCharge 16 = .ok (.bipush 13, 2) := by decide +kernel
theorem dX5_allCharge_18 : decode cX5_allCharge 18 = .ok (.istore_n 2, 1) := by decide +kernel
theorem dX5_allCharge_19 : decode cX5_allCharge 19 = .ok (.iload_n 2, 1) := by decide +kernel
theorem dX5_allCharge_20 : decode cX5_allCharge 20 = .ok (.bipush 37, 2) := by decide +kernel
theorem dX5_allCharge_22 : decode cX5_allCharge 22 = .ok (.if_icmp .ge 18, 3) := by decide +kernel
theorem dX5_allCharge_25 : decode cX5_allCharge 25 = .ok (.iload_n 1, 1) := by decide +kernel
theorem dX5_allCharge_26 : decode cX5_allCharge 26 = .ok (.aload_n 0, 1) := by decide +kernel
theorem dX5_allCharge_27 : decode cX5_allCharge 27 = .ok (.getfield 7, 3) := by decide +kernel
theorem dX5_allCharge_30 : decode cX5_allCharge 30 = .ok (.iload_n 2, 1) := by decide +kernel
theorem dX5_allCharge_31 : decode cX5_allCharge 31 = .ok (.iaload, 1) := by decide +kernel
theorem dX5_allCharge_32 : decode cX5_allCharge 32 = .ok (.iadd, 1) := by decide +kernel
theorem dX5_allCharge_33 : decode cX5_allCharge 33 = .ok (.istore_n 1, 1) := by decide +kernel
theorem dX5_allCharge_34 : decode cX5_allCharge 34 = .ok (.iinc 2 1, 3) := by decide +kernel
theorem dX5_allCharge_37 : decode cX5_allCharge 37 = .ok (.goto (-18), 3) := by decide +kernel
theorem dX5_allCharge_40 : decode cX5_allCharge 40 = .ok (.iload_n 1, 1) := by decide +kernel
theorem dX5_allCharge_41 : decode cX5_allCharge 41 = .ok (.ireturn, 1) := by decide +kernel
theorem dX5_count_0 : decode cX5_count 0 = .ok (.iload_n 1, 1) := by decide +kernel
theorem dX5_count_1 : decode cX5_count 1 = .ok (.tableswitch 76 8 14 #[43, 48, 53, 53, 53, 66, 71], 43) := by decide +kernel
theorem dX5_count_44 : decode cX5_count 44 = .ok (.aload_n 0, 1) := by decide +kernel
theorem dX5_count_45 : decode cX5_count 45 = .ok (.invokevirtual 67, 3) := by decide +kernel
theorem dX5_count_48 : decode cX5_count 48 = .ok (.ireturn, 1) := by decide +kernel
theorem dX5_count_49 : decode cX5_count 49 = .ok (.aload_n 0, 1) := by decide +kernel
theorem dX5_count_50 : decode cX5_count 50 = .ok (.invokevirtual 125, 3) := by decide +kernel
theorem dX5_count_53 : decode cX5_count 53 = .ok (.ireturn, 1) := by decide +kernel
theorem dX5_count_54 : decode cX5_count 54 = .ok (.aload_n 0, 1) := by decide +kernel
theorem dX5_count_55 : decode cX5_count 55 = .ok (.getfield 7, 3) := by decide +kernel
theorem dX5_count_58 : decode cX5_count 58 = .ok (.bipush 9, 2) := by decide +kernel
theorem dX5_count_60 : decode cX5_count 60 = .ok (.iload_n 1, 1) := by decide +kernel
theorem dX5_count_61 : decode cX5_count 61 = .ok (.iadd, 1) := by decide +kernel
theorem dX5_count_62 : decode cX5_count 62 = .ok (.bipush 10, 2) := by decide +kernel
theorem dX5_count_64 : decode cX5_count 64 = .ok (.isub, 1) := by decide +kernel
theorem dX5_count_65 : decode cX5_count 65 = .ok (.iaload, 1) := by decide +kernel
theorem dX5_count_66 : decode cX5_count 66 = .ok (.ireturn, 1) := by decide +kernel
theorem dX5_count_67 : decode cX5_count 67 = .ok (.aload_n 0, 1) := by decide +kernel
theorem dX5_count_68 : decode cX5_count 68 = .ok (.getfield 128, 3) := by decide +kernel
theorem dX5_count_71 : decode cX5_count 71 = .ok (.ireturn, 1) := by decide +kernel
theorem dX5_count_72 : decode cX5_count 72 = .ok (.aload_n 0, 1) := by decide +kernel
theorem dX5_count_73 : decode cX5_count 73 = .ok (.getfield 28, 3) := by decide +kernel
theorem dX5_count_76 : decode cX5_count 76 = .ok (.ireturn, 1) := by decide +kernel
theorem dX5_count_77 : decode cX5_count 77 = .ok (.iload_n 1, 1) := by decide +kernel
theorem dX5_count_78 : decode cX5_count 78 = .ok (.i2l, 1) := by decide +kernel
theorem dX5_count_79 : decode cX5_count 79 = .ok (.lconst 0, 1) := by decide +kernel
theorem dX5_count_80 : decode cX5_count 80 = .ok (.ldc2_w 131, 3) := by decide +kernel
theorem dX5_count_83 : decode cX5_count 83 = .ok (.invokestatic 75, 3) := by decide +kernel
theorem dX5_count_86 : decode cX5_count 86 = .ok (.ifCond .eq 12, 3) := by decide +kernel
theorem dX5_count_89 : decode cX5_count 89 = .ok (.aload_n 0, 1) := by decide +kernel
theorem dX5_count_90 : decode cX5_count 90 = .ok (.getfield 7, 3) := by decide +kernel
theorem dX5_count_93 : decode cX5_count 93 = .ok (.iload_n 1, 1) := by decide +kernel
theorem dX5_count_94 : decode cX5_count 94 = .ok (.iaload, 1) := by decide +kernel
theorem dX5_count_95 : decode cX5_count 95 = .ok (.goto 5, 3) := by decide +kernel
theorem dX5_count_98 : decode cX5_count 98 = .ok (.ldc 91, 2) := by decide +kernel
theorem dX5_count_100 : decode cX5_count 100 = .ok (.ireturn, 1) := by decide +kernel
theorem dX5_nextSpark_0 : decode cX5_nextSpark 0 = .ok (.aload_n 0, 1) := by decide +kernel
theorem dX5_nextSpark_1 : decode cX5_nextSpark 1 = .ok (.invokevirtual 133, 3) := by decide +kernel
theorem dX5_nextSpark_4 : decode cX5_nextSpark 4 = .ok (.aload_n 0, 1) := by decide +kernel
theorem dX5_nextSpark_5 : decode cX5_nextSpark 5 = .ok (.getfield 7, 3) := by decide +kernel
theorem dX5_nextSpark_8 : decode cX5_nextSpark 8 = .ok (.bipush 6, 2) := by decide +kernel
theorem dX5_nextSpark_10 : decode cX5_nextSpark 10 = .ok (.iaload, 1) := by decide +kernel
theorem dX5_nextSpark_11 : decode cX5_nextSpark 11 = .ok (.istore_n 2, 1) := by decide +kernel
theorem dX5_nextSpark_12 : decode cX5_nextSpark 12 = .ok (.iconst 0, 1) := by decide +kernel
theorem dX5_nextSpark_13 : decode cX5_nextSpark 13 = .ok (.istore_n 3, 1) := by decide +kernel
theorem dX5_nextSpark_14 : decode cX5_nextSpark 14 = .ok (.iload_n 3, 1) := by decide +kernel
theorem dX5_nextSpark_15 : decode cX5_nextSpark 15 = .ok (.iload_n 1, 1) := by decide +kernel
theorem dX5_nextSpark_16 : decode cX5_nextSpark 16 = .ok (.if_icmp .gt 24, 3) := by decide +kernel
theorem dX5_nextSpark_19 : decode cX5_nextSpark 19 = .ok (.aload_n 0, 1) := by decide +kernel
theorem dX5_nextSpark_20 : decode cX5_nextSpark 20 = .ok (.getfield 7, 3) := by decide +kernel
theorem dX5_nextSpark_23 : decode cX5_nextSpark 23 = .ok (.bipush 6, 2) := by decide +kernel
theorem dX5_nextSpark_25 : decode cX5_nextSpark 25 = .ok (.iaload, 1) := by decide +kernel
theorem dX5_nextSpark_26 : decode cX5_nextSpark 26 = .ok (.iload_n 2, 1) := by decide +kernel
theorem dX5_nextSpark_27 : decode cX5_nextSpark 27 = .ok (.if_icmp .ne 13, 3) := by decide +kernel
theorem dX5_nextSpark_30 : decode cX5_nextSpark 30 = .ok (.aload_n 0, 1) := by decide +kernel
theorem dX5_nextSpark_31 : decode cX5_nextSpark 31 = .ok (.invokevirtual 70, 3) := by decide +kernel
theorem dX5_nextSpark_34 : decode cX5_nextSpark 34 = .ok (.iinc 3 1, 3) := by decide +kernel
theorem dX5_nextSpark_37 : decode cX5_nextSpark 37 = .ok (.goto (-23), 3) := by decide +kernel
theorem dX5_nextSpark_40 : decode cX5_nextSpark 40 = .ok (.aload_n 0, 1) := by decide +kernel
theorem dX5_nextSpark_41 : decode cX5_nextSpark 41 = .ok (.invokevirtual 136, 3) := by decide +kernel
theorem dX5_nextSpark_44 : decode cX5_nextSpark 44 = .ok (.iload_n 3, 1) := by decide +kernel
theorem dX5_nextSpark_45 : decode cX5_nextSpark 45 = .ok (.iload_n 1, 1) := by decide +kernel
theorem dX5_nextSpark_46 : decode cX5_nextSpark 46 = .ok (.if_icmp .le 8, 3) := by decide +kernel
theorem dX5_nextSpark_49 : decode cX5_nextSpark 49 = .ok (.ldc 124, 2) := by decide +kernel
theorem dX5_nextSpark_51 : decode cX5_nextSpark 51 = .ok (.goto 4, 3) := by decide +kernel
theorem dX5_nextSpark_54 : decode cX5_nextSpark 54 = .ok (.iload_n 3, 1) := by decide +kernel
theorem dX5_nextSpark_55 : decode cX5_nextSpark 55 = .ok (.ireturn, 1) := by decide +kernel
theorem dX5_untilSpark_0 : decode cX5_untilSpark 0 = .ok (.aload_n 0, 1) := by decide +kernel
theorem dX5_untilSpark_1 : decode cX5_untilSpark 1 = .ok (.sipush 400, 3) := by decide +kernel
theorem dX5_untilSpark_4 : decode cX5_untilSpark 4 = .ok (.invokevirtual 139, 3) := by decide +kernel
theorem dX5_untilSpark_7 : decode cX5_untilSpark 7 = .ok (.ireturn, 1) := by decide +kernel
theorem dX5_ifTurned_0 : decode cX5_ifTurned 0 = .ok (.iload_n 1, 1) := by decide +kernel
theorem dX5_ifTurned_1 : decode cX5_ifTurned 1 = .ok (.i2l, 1) := by decide +kernel
theorem dX5_ifTurned_2 : decode cX5_ifTurned 2 = .ok (.lconst 1, 1) := by decide +kernel
theorem dX5_ifTurned_3 : decode cX5_ifTurned 3 = .ok (.ldc2_w 142, 3) := by decide +kernel
theorem dX5_ifTurned_6 : decode cX5_ifTurned 6 = .ok (.invokestatic 75, 3) := by decide +kernel
theorem dX5_ifTurned_9 : decode cX5_ifTurned 9 = .ok (.ifCond .eq 15, 3) := by decide +kernel
theorem dX5_ifTurned_12 : decode cX5_ifTurned 12 = .ok (.iload_n 2, 1) := by decide +kernel
theorem dX5_ifTurned_13 : decode cX5_ifTurned 13 = .ok (.i2l, 1) := by decide +kernel
theorem dX5_ifTurned_14 : decode cX5_ifTurned 14 = .ok (.lconst 0, 1) := by decide +kernel
theorem dX5_ifTurned_15 : decode cX5_ifTurned 15 = .ok (.ldc2_w 144, 3) := by decide +kernel
theorem dX5_ifTurned_18 : decode cX5_ifTurned 18 = .ok (.invokestatic 75, 3) := by decide +kernel
theorem dX5_ifTurned_21 : decode cX5_ifTurned 21 = .ok (.ifCond .ne 6, 3) := by decide +kernel
theorem dX5_ifTurned_24 : decode cX5_ifTurned 24 = .ok (.ldc 91, 2) := by decide +kernel
theorem dX5_ifTurned_26 : decode cX5_ifTurned 26 = .ok (.ireturn, 1) := by decide +kernel
theorem dX5_ifTurned_27 : decode cX5_ifTurned 27 = .ok (.aload_n 0, 1) := by decide +kernel
theorem dX5_ifTurned_28 : decode cX5_ifTurned 28 = .ok (.getfield 7, 3) := by decide +kernel
theorem dX5_ifTurned_31 : decode cX5_ifTurned 31 = .ok (.bipush 7, 2) := by decide +kernel
theorem dX5_ifTurned_33 : decode cX5_ifTurned 33 = .ok (.iaload, 1) := by decide +kernel
theorem dX5_ifTurned_34 : decode cX5_ifTurned 34 = .ok (.istore_n 3, 1) := by decide +kernel
theorem dX5_ifTurned_35 : decode cX5_ifTurned 35 = .ok (.aload_n 0, 1) := by decide +kernel
theorem dX5_ifTurned_36 : decode cX5_ifTurned 36 = .ok (.invokevirtual 133, 3) := by decide +kernel
theorem dX5_ifTurned_39 : decode cX5_ifTurned 39 = .ok (.iconst 0, 1) := by decide +kernel
theorem dX5_ifTurned_40 : decode cX5_ifTurned 40 = .ok (.istore 4, 2) := by decide +kernel
theorem dX5_ifTurned_42 : decode cX5_ifTurned 42 = .ok (.iconst 0, 1) := by decide +kernel
theorem dX5_ifTurned_43 : decode cX5_ifTurned 43 = .ok (.istore 5, 2) := by decide +kernel
theorem dX5_ifTurned_45 : decode cX5_ifTurned 45 = .ok (.iconst 0, 1) := by decide +kernel
theorem dX5_ifTurned_46 : decode cX5_ifTurned 46 = .ok (.istore 6, 2) := by decide +kernel
theorem dX5_ifTurned_48 : decode cX5_ifTurned 48 = .ok (.iload 6, 2) := by decide +kernel
theorem dX5_ifTurned_50 : decode cX5_ifTurned 50 = .ok (.iload_n 1, 1) := by decide +kernel
theorem dX5_ifTurned_51 : decode cX5_ifTurned 51 = .ok (.if_icmp .ge 39, 3) := by decide +kernel
theorem dX5_ifTurned_54 : decode cX5_ifTurned 54 = .ok (.iload 5, 2) := by decide +kernel
theorem dX5_ifTurned_56 : decode cX5_ifTurned 56 = .ok (.aload_n 0, 1) := by decide +kernel
theorem dX5_ifTurned_57 : decode cX5_ifTurned 57 = .ok (.iconst 1, 1) := by decide +kernel
theorem dX5_ifTurned_58 : decode cX5_ifTurned 58 = .ok (.invokevirtual 115, 3) := by decide +kernel
theorem dX5_ifTurned_61 : decode cX5_ifTurned 61 = .ok (.iadd, 1) := by decide +kernel
theorem dX5_ifTurned_62 : decode cX5_ifTurned 62 = .ok (.istore 5, 2) := by decide +kernel
theorem dX5_ifTurned_64 : decode cX5_ifTurned 64 = .ok (.aload_n 0, 1) := by decide +kernel
theorem dX5_ifTurned_65 : decode cX5_ifTurned 65 = .ok (.invokevirtual 40, 3) := by decide +kernel
theorem dX5_ifTurned_68 : decode cX5_ifTurned 68 = .ok (.iload 4, 2) := by decide +kernel
theorem dX5_ifTurned_70 : decode cX5_ifTurned 70 = .ok (.if_icmp .le 10, 3) := by decide +kernel
theorem dX5_ifTurned_73 : decode cX5_ifTurned 73 = .ok (.aload_n 0, 1) := by decide +kernel
theorem dX5_ifTurned_74 : decode cX5_ifTurned 74 = .ok (.invokevirtual 40, 3) := by decide +kernel
theorem dX5_ifTurned_77 : decode cX5_ifTurned 77 = .ok (.goto 5, 3) := by decide +kernel
theorem dX5_ifTurned_80 : decode cX5_ifTurned 80 = .ok (.iload 4, 2) := by decide +kernel
theorem dX5_ifTurned_82 : decode cX5_ifTurned 82 = .ok (.istore 4, 2) := by decide +kernel
theorem dX5_ifTurned_84 : decode cX5_ifTurned 84 = .ok (.iinc 6 1, 3) := by decide +kernel
theorem dX5_ifTurned_87 : decode cX5_ifTurned 87 = .ok (.goto (-39), 3) := by decide +kernel
theorem dX5_ifTurned_90 : decode cX5_ifTurned 90 = .ok (.iload_n 2, 1) := by decide +kernel
theorem dX5_ifTurned_91 : decode cX5_ifTurned 91 = .ok (.ifCond .ne 8, 3) := by decide +kernel
theorem dX5_ifTurned_94 : decode cX5_ifTurned 94 = .ok (.iload 5, 2) := by decide +kernel
theorem dX5_ifTurned_96 : decode cX5_ifTurned 96 = .ok (.goto 53, 3) := by decide +kernel
theorem dX5_ifTurned_99 : decode cX5_ifTurned 99 = .ok (.iload_n 2, 1) := by decide +kernel
theorem dX5_ifTurned_100 : decode cX5_ifTurned 100 = .ok (.iconst 1, 1) := by decide +kernel
theorem dX5_ifTurned_101 : decode cX5_ifTurned 101 = .ok (.if_icmp .ne 15, 3) := by decide +kernel
theorem dX5_ifTurned_104 : decode cX5_ifTurned 104 = .ok (.aload_n 0, 1) := by decide +kernel
theorem dX5_ifTurned_105 : decode cX5_ifTurned 105 = .ok (.getfield 7, 3) := by decide +kernel
theorem dX5_ifTurned_108 : decode cX5_ifTurned 108 = .ok (.bipush 7, 2) := by decide +kernel
theorem dX5_ifTurned_110 : decode cX5_ifTurned 110 = .ok (.iaload, 1) := by decide +kernel
theorem dX5_ifTurned_111 : decode cX5_ifTurned 111 = .ok (.iload_n 3, 1) := by decide +kernel
theorem dX5_ifTurned_112 : decode cX5_ifTurned 112 = .ok (.isub, 1) := by decide +kernel
theorem dX5_ifTurned_113 : decode cX5_ifTurned 113 = .ok (.goto 36, 3) := by decide +kernel
theorem dX5_ifTurned_116 : decode cX5_ifTurned 116 = .ok (.iload_n 2, 1) := by decide +kernel
theorem dX5_ifTurned_117 : decode cX5_ifTurned 117 = .ok (.iconst 4, 1) := by decide +kernel
theorem dX5_ifTurned_118 : decode cX5_ifTurned 118 = .ok (.if_icmp .ne 8, 3) := by decide +kernel
theorem dX5_ifTurned_121 : decode cX5_ifTurned 121 = .ok (.iload 4, 2) := by decide +kernel
theorem dX5_ifTurned_123 : decode cX5_ifTurned 123 = .ok (.goto 26, 3) := by decide +kernel
theorem dX5_ifTurned_126 : decode cX5_ifTurned 126 = .ok (.iload_n 2, 1) := by decide +kernel
theorem dX5_ifTurned_127 : decode cX5_ifTurned 127 = .ok (.iconst 5, 1) := by decide +kernel
theorem dX5_ifTurned_128 : decode cX5_ifTurned 128 = .ok (.if_icmp .ne 10, 3) := by decide +kernel
theorem dX5_ifTurned_131 : decode cX5_ifTurned 131 = .ok (.aload_n 0, 1) := by decide +kernel
theorem dX5_ifTurned_132 : decode cX5_ifTurned 132 = .ok (.invokevirtual 125, 3) := by decide +kernel
theorem dX5_ifTurned_135 : decode cX5_ifTurned 135 = .ok (.goto 14, 3) := by decide +kernel
theorem dX5_ifTurned_138 : decode cX5_ifTurned 138 = .ok (.aload_n 0, 1) := by decide +kernel
theorem dX5_ifTurned_139 : decode cX5_ifTurned 139 = .ok (.getfield 7, 3) := by decide +kernel
theorem dX5_ifTurned_142 : decode cX5_ifTurned 142 = .ok (.bipush 37, 2) := by decide +kernel
theorem dX5_ifTurned_144 : decode cX5_ifTurned 144 = .ok (.iload_n 2, 1) := by decide +kernel
theorem dX5_ifTurned_145 : decode cX5_ifTurned 145 = .ok (.iadd, 1) := by decide +kernel
theorem dX5_ifTurned_146 : decode cX5_ifTurned 146 = .ok (.iconst 2, 1) := by decide +kernel
theorem dX5_ifTurned_147 : decode cX5_ifTurned 147 = .ok (.isub, 1) := by decide +kernel
theorem dX5_ifTurned_148 : decode cX5_ifTurned 148 = .ok (.iaload, 1) := by decide +kernel
theorem dX5_ifTurned_149 : decode cX5_ifTurned 149 = .ok (.istore 6, 2) := by decide +kernel
theorem dX5_ifTurned_151 : decode cX5_ifTurned 151 = .ok (.aload_n 0, 1) := by decide +kernel
theorem dX5_ifTurned_152 : decode cX5_ifTurned 152 = .ok (.invokevirtual 136, 3) := by decide +kernel
theorem dX5_ifTurned_155 : decode cX5_ifTurned 155 = .ok (.iload 6, 2) := by decide +kernel
theorem dX5_ifTurned_157 : decode cX5_ifTurned 157 = .ok (.ireturn, 1) := by decide +kernel
theorem dX5_widestGap_0 : decode cX5_widestGap 0 = .ok (.aload_n 0, 1) := by decide +kernel
theorem dX5_widestGap_1 : decode cX5_widestGap 1 = .ok (.invokevirtual 133, 3) := by decide +kernel
theorem dX5_widestGap_4 : decode cX5_widestGap 4 = .ok (.iconst 0, 1) := by decide +kernel
theorem dX5_widestGap_5 : decode cX5_widestGap 5 = .ok (.istore_n 1, 1) := by decide +kernel
theorem dX5_widestGap_6 : decode cX5_widestGap 6 = .ok (.iconst 0, 1) := by decide +kernel
theorem dX5_widestGap_7 : decode cX5_widestGap 7 = .ok (.istore_n 2, 1) := by decide +kernel
theorem dX5_widestGap_8 : decode cX5_widestGap 8 = .ok (.iload_n 2, 1) := by decide +kernel
theorem dX5_widestGap_9 : decode cX5_widestGap 9 = .ok (.sipush 200, 3) := by decide +kernel
theorem dX5_widestGap_12 : decode cX5_widestGap 12 = .ok (.if_icmp .ge 30, 3) := by decide +kernel
theorem dX5_widestGap_15 : decode cX5_widestGap 15 = .ok (.aload_n 0, 1) := by decide +kernel
theorem dX5_widestGap_16 : decode cX5_widestGap 16 = .ok (.invokevirtual 61, 3) := by decide +kernel
theorem dX5_widestGap_19 : decode cX5_widestGap 19 = .ok (.aload_n 0, 1) := by decide +kernel
theorem dX5_widestGap_20 : decode cX5_widestGap 20 = .ok (.invokevirtual 40, 3) := by decide +kernel
theorem dX5_widestGap_23 : decode cX5_widestGap 23 = .ok (.iload_n 1, 1) := by decide +kernel
theorem dX5_widestGap_24 : decode cX5_widestGap 24 = .ok (.if_icmp .le 10, 3) := by decide +kernel
theorem dX5_widestGap_27 : decode cX5_widestGap 27 = .ok (.aload_n 0, 1) := by decide +kernel
theorem dX5_widestGap_28 : decode cX5_widestGap 28 = .ok (.invokevirtual 40, 3) := by decide +kernel
theorem dX5_widestGap_31 : decode cX5_widestGap 31 = .ok (.goto 4, 3) := by decide +kernel
theorem dX5_widestGap_34 : decode cX5_widestGap 34 = .ok (.iload_n 1, 1) := by decide +kernel
theorem dX5_widestGap_35 : decode cX5_widestGap 35 = .ok (.istore_n 1, 1) := by decide +kernel
theorem dX5_widestGap_36 : decode cX5_widestGap 36 = .ok (.iinc 2 1, 3) := by decide +kernel
theorem dX5_widestGap_39 : decode cX5_widestGap 39 = .ok (.goto (-31), 3) := by decide +kernel
theorem dX5_widestGap_42 : decode cX5_widestGap 42 = .ok (.aload_n 0, 1) := by decide +kernel
theorem dX5_widestGap_43 : decode cX5_widestGap 43 = .ok (.invokevirtual 136, 3) := by decide +kernel
theorem dX5_widestGap_46 : decode cX5_widestGap 46 = .ok (.iload_n 1, 1) := by decide +kernel
theorem dX5_widestGap_47 : decode cX5_widestGap 47 = .ok (.bipush 10, 2) := by decide +kernel
theorem dX5_widestGap_49 : decode cX5_widestGap 49 = .ok (.if_icmp .ge 8, 3) := by decide +kernel
theorem dX5_widestGap_52 : decode cX5_widestGap 52 = .ok (.ldc 124, 2) := by decide +kernel
theorem dX5_widestGap_54 : decode cX5_widestGap 54 = .ok (.goto 20, 3) := by decide +kernel
theorem dX5_widestGap_57 : decode cX5_widestGap 57 = .ok (.iload_n 1, 1) := by decide +kernel
theorem dX5_widestGap_58 : decode cX5_widestGap 58 = .ok (.sipush 2000, 3) := by decide +kernel
theorem dX5_widestGap_61 : decode cX5_widestGap 61 = .ok (.if_icmp .le 9, 3) := by decide +kernel
theorem dX5_widestGap_64 : decode cX5_widestGap 64 = .ok (.sipush 200, 3) := by decide +kernel
theorem dX5_widestGap_67 : decode cX5_widestGap 67 = .ok (.goto 7, 3) := by decide +kernel
theorem dX5_widestGap_70 : decode cX5_widestGap 70 = .ok (.iload_n 1, 1) := by decide +kernel
theorem dX5_widestGap_71 : decode cX5_widestGap 71 = .ok (.bipush 10, 2) := by decide +kernel
theorem dX5_widestGap_73 : decode cX5_widestGap 73 = .ok (.idiv, 1) := by decide +kernel
theorem dX5_widestGap_74 : decode cX5_widestGap 74 = .ok (.ireturn, 1) := by decide +kernel
theorem dX5_mostDamp_0 : decode cX5_mostDamp 0 = .ok (.aload_n 0, 1) := by decide +kernel
theorem dX5_mostDamp_1 : decode cX5_mostDamp 1 = .ok (.getfield 7, 3) := by decide +kernel
theorem dX5_mostDamp_4 : decode cX5_mostDamp 4 = .ok (.iconst 1, 1) := by decide +kernel
theorem dX5_mostDamp_5 : decode cX5_mostDamp 5 = .ok (.iaload, 1) := by decide +kernel
theorem dX5_mostDamp_6 : decode cX5_mostDamp 6 = .ok (.istore_n 1, 1) := by decide +kernel
theorem dX5_mostDamp_7 : decode cX5_mostDamp 7 = .ok (.bipush 61, 2) := by decide +kernel
theorem dX5_mostDamp_9 : decode cX5_mostDamp 9 = .ok (.istore_n 2, 1) := by decide +kernel
theorem dX5_mostDamp_10 : decode cX5_mostDamp 10 = .ok (.iconst 0, 1) := by decide +kernel
theorem dX5_mostDamp_11 : decode cX5_mostDamp 11 = .ok (.istore_n 3, 1) := by decide +kernel
theorem dX5_mostDamp_12 : decode cX5_mostDamp 12 = .ok (.iload_n 2, 1) := by decide +kernel
theorem dX5_mostDamp_13 : decode cX5_mostDamp 13 = .ok (.ifCond .le 38, 3) := by decide +kernel
theorem dX5_mostDamp_16 : decode cX5_mostDamp 16 = .ok (.iload_n 3, 1) := by decide +kernel
theorem dX5_mostDamp_17 : decode cX5_mostDamp 17 = .ok (.ifCond .ne 34, 3) := by decide +kernel
theorem dX5_mostDamp_20 : decode cX5_mostDamp 20 = .ok (.iinc 2 (-1), 3) := by decide +kernel
theorem dX5_mostDamp_23 : decode cX5_mostDamp 23 = .ok (.aload_n 0, 1) := by decide +kernel
theorem dX5_mostDamp_24 : decode cX5_mostDamp 24 = .ok (.getfield 7, 3) := by decide +kernel
theorem dX5_mostDamp_27 : decode cX5_mostDamp 27 = .ok (.iconst 1, 1) := by decide +kernel
theorem dX5_mostDamp_28 : decode cX5_mostDamp 28 = .ok (.iload_n 2, 1) := by decide +kernel
theorem dX5_mostDamp_29 : decode cX5_mostDamp 29 = .ok (.iastore, 1) := by decide +kernel
theorem dX5_mostDamp_30 : decode cX5_mostDamp 30 = .ok (.aload_n 0, 1) := by decide +kernel
theorem dX5_mostDamp_31 : decode cX5_mostDamp 31 = .ok (.sipush 200, 3) := by decide +kernel
theorem dX5_mostDamp_34 : decode cX5_mostDamp 34 = .ok (.invokevirtual 139, 3) := by decide +kernel
theorem dX5_mostDamp_37 : decode cX5_mostDamp 37 = .ok (.ldc 124, 2) := by decide +kernel
theorem dX5_mostDamp_39 : decode cX5_mostDamp 39 = .ok (.if_icmp .eq 7, 3) := by decide +kernel
theorem dX5_mostDamp_42 : decode cX5_mostDamp 42 = .ok (.iconst 1, 1) := by decide +kernel
theorem dX5_mostDamp_43 : decode cX5_mostDamp 43 = .ok (.goto 4, 3) := by decide +kernel
theorem dX5_mostDamp_46 : decode cX5_mostDamp 46 = .ok (.iconst 0, 1) := by decide +kernel
theorem dX5_mostDamp_47 : decode cX5_mostDamp 47 = .ok (.istore_n 3, 1) := by decide +kernel
theorem dX5_mostDamp_48 : decode cX5_mostDamp 48 = .ok (.goto (-36), 3) := by decide +kernel
theorem dX5_mostDamp_51 : decode cX5_mostDamp 51 = .ok (.aload_n 0, 1) := by decide +kernel
theorem dX5_mostDamp_52 : decode cX5_mostDamp 52 = .ok (.getfield 7, 3) := by decide +kernel
theorem dX5_mostDamp_55 : decode cX5_mostDamp 55 = .ok (.iconst 1, 1) := by decide +kernel
theorem dX5_mostDamp_56 : decode cX5_mostDamp 56 = .ok (.iload_n 1, 1) := by decide +kernel
theorem dX5_mostDamp_57 : decode cX5_mostDamp 57 = .ok (.iastore, 1) := by decide +kernel
theorem dX5_mostDamp_58 : decode cX5_mostDamp 58 = .ok (.iload_n 3, 1) := by decide +kernel
theorem dX5_mostDamp_59 : decode cX5_mostDamp 59 = .ok (.ifCond .eq 7, 3) := by decide +kernel
theorem dX5_mostDamp_62 : decode cX5_mostDamp 62 = .ok (.iload_n 2, 1) := by decide +kernel
theorem dX5_mostDamp_63 : decode cX5_mostDamp 63 = .ok (.goto 5, 3) := by decide +kernel
theorem dX5_mostDamp_66 : decode cX5_mostDamp 66 = .ok (.ldc 124, 2) := by decide +kernel
theorem dX5_mostDamp_68 : decode cX5_mostDamp 68 = .ok (.ireturn, 1) := by decide +kernel
theorem dX5_charactersOf_0 : decode cX5_charactersOf 0 = .ok (.lload_n 0, 1) := by decide +kernel
theorem dX5_charactersOf_1 : decode cX5_charactersOf 1 = .ok (.lstore_n 2, 1) := by decide +kernel
theorem dX5_charactersOf_2 : decode cX5_charactersOf 2 = .ok (.iconst 0, 1) := by decide +kernel
theorem dX5_charactersOf_3 : decode cX5_charactersOf 3 = .ok (.istore 4, 2) := by decide +kernel
theorem dX5_charactersOf_5 : decode cX5_charactersOf 5 = .ok (.iload 4, 2) := by decide +kernel
theorem dX5_charactersOf_7 : decode cX5_charactersOf 7 = .ok (.bipush 8, 2) := by decide +kernel
theorem dX5_charactersOf_9 : decode cX5_charactersOf 9 = .ok (.if_icmp .ge 31, 3) := by decide +kernel
theorem dX5_charactersOf_12 : decode cX5_charactersOf 12 = .ok (.lload_n 2, 1) := by decide +kernel
theorem dX5_charactersOf_13 : decode cX5_charactersOf 13 = .ok (.ldc2_w 146, 3) := by decide +kernel
theorem dX5_charactersOf_16 : decode cX5_charactersOf 16 = .ok (.land, 1) := by decide +kernel
theorem dX5_charactersOf_17 : decode cX5_charactersOf 17 = .ok (.ldc2_w 148, 3) := by decide +kernel
theorem dX5_charactersOf_20 : decode cX5_charactersOf 20 = .ok (.ldc2_w 150, 3) := by decide +kernel
theorem dX5_charactersOf_23 : decode cX5_charactersOf 23 = .ok (.invokestatic 75, 3) := by decide +kernel
theorem dX5_charactersOf_26 : decode cX5_charactersOf 26 = .ok (.ifCond .eq 14, 3) := by decide +kernel
theorem dX5_charactersOf_29 : decode cX5_charactersOf 29 = .ok (.lload_n 2, 1) := by decide +kernel
theorem dX5_charactersOf_30 : decode cX5_charactersOf 30 = .ok (.bipush 8, 2) := by decide +kernel
theorem dX5_charactersOf_32 : decode cX5_charactersOf 32 = .ok (.lushr, 1) := by decide +kernel
theorem dX5_charactersOf_33 : decode cX5_charactersOf 33 = .ok (.lstore_n 2, 1) := by decide +kernel
theorem dX5_charactersOf_34 : decode cX5_charactersOf 34 = .ok (.iinc 4 1, 3) := by decide +kernel
theorem dX5_charactersOf_37 : decode cX5_charactersOf 37 = .ok (.goto (-32), 3) := by decide +kernel
theorem dX5_charactersOf_40 : decode cX5_charactersOf 40 = .ok (.lload_n 2, 1) := by decide +kernel
theorem dX5_charactersOf_41 : decode cX5_charactersOf 41 = .ok (.lconst 0, 1) := by decide +kernel
theorem dX5_charactersOf_42 : decode cX5_charactersOf 42 = .ok (.lcmp, 1) := by decide +kernel
theorem dX5_charactersOf_43 : decode cX5_charactersOf 43 = .ok (.ifCond .ne 8, 3) := by decide +kernel
theorem dX5_charactersOf_46 : decode cX5_charactersOf 46 = .ok (.iload 4, 2) := by decide +kernel
theorem dX5_charactersOf_48 : decode cX5_charactersOf 48 = .ok (.goto 4, 3) := by decide +kernel
theorem dX5_charactersOf_51 : decode cX5_charactersOf 51 = .ok (.iconst 0, 1) := by decide +kernel
theorem dX5_charactersOf_52 : decode cX5_charactersOf 52 = .ok (.ireturn, 1) := by decide +kernel
theorem dX5_put_0 : decode cX5_put 0 = .ok (.lload_n 1, 1) := by decide +kernel
theorem dX5_put_1 : decode cX5_put 1 = .ok (.invokestatic 152, 3) := by decide +kernel
theorem dX5_put_4 : decode cX5_put 4 = .ok (.istore_n 3, 1) := by decide +kernel
theorem dX5_put_5 : decode cX5_put 5 = .ok (.iload_n 3, 1) := by decide +kernel
theorem dX5_put_6 : decode cX5_put 6 = .ok (.ifCond .ne 6, 3) := by decide +kernel
theorem dX5_put_9 : decode cX5_put 9 = .ok (.ldc 91, 2) := by decide +kernel
theorem dX5_put_11 : decode cX5_put 11 = .ok (.ireturn, 1) := by decide +kernel
theorem dX5_put_12 : decode cX5_put 12 = .ok (.aload_n 0, 1) := by decide +kernel
theorem dX5_put_13 : decode cX5_put 13 = .ok (.getfield 128, 3) := by decide +kernel
theorem dX5_put_16 : decode cX5_put 16 = .ok (.iload_n 3, 1) := by decide +kernel
theorem dX5_put_17 : decode cX5_put 17 = .ok (.iadd, 1) := by decide +kernel
theorem dX5_put_18 : decode cX5_put 18 = .ok (.bipush 60, 2) := by decide +kernel
theorem dX5_put_20 : decode cX5_put 20 = .ok (.if_icmp .le 6, 3) := by decide +kernel
theorem dX5_put_23 : decode cX5_put 23 = .ok (.ldc 114, 2) := by decide +kernel
theorem dX5_put_25 : decode cX5_put 25 = .ok (.ireturn, 1) := by decide +kernel
theorem dX5_put_26 : decode cX5_put 26 = .ok (.iconst 0, 1) := by decide +kernel
theorem dX5_put_27 : decode cX5_put 27 = .ok (.istore 4, 2) := by decide +kernel
theorem dX5_put_29 : decode cX5_put 29 = .ok (.iload 4, 2) := by decide +kernel
theorem dX5_put_31 : decode cX5_put 31 = .ok (.iload_n 3, 1) := by decide +kernel
theorem dX5_put_32 : decode cX5_put 32 = .ok (.if_icmp .ge 37, 3) := by decide +kernel
theorem dX5_put_35 : decode cX5_put 35 = .ok (.aload_n 0, 1) := by decide +kernel
theorem dX5_put_36 : decode cX5_put 36 = .ok (.getfield 25, 3) := by decide +kernel
theorem dX5_put_39 : decode cX5_put 39 = .ok (.aload_n 0, 1) := by decide +kernel
theorem dX5_put_40 : decode cX5_put 40 = .ok (.getfield 128, 3) := by decide +kernel
theorem dX5_put_43 : decode cX5_put 43 = .ok (.iload 4, 2) := by decide +kernel
theorem dX5_put_45 : decode cX5_put 45 = .ok (.iadd, 1) := by decide +kernel
theorem dX5_put_46 : decode cX5_put 46 = .ok (.lload_n 1, 1) := by decide +kernel
theorem dX5_put_47 : decode cX5_put 47 = .ok (.bipush 8, 2) := by decide +kernel
theorem dX5_put_49 : decode cX5_put 49 = .ok (.iload_n 3, 1) := by decide +kernel
theorem dX5_put_50 : decode cX5_put 50 = .ok (.iconst 1, 1) := by decide +kernel
theorem dX5_put_51 : decode cX5_put 51 = .ok (.isub, 1) := by decide +kernel
theorem dX5_put_52 : decode cX5_put 52 = .ok (.iload 4, 2) := by decide +kernel
theorem dX5_put_54 : decode cX5_put 54 = .ok (.isub, 1) := by decide +kernel
theorem dX5_put_55 : decode cX5_put 55 = .ok (.imul, 1) := by decide +kernel
theorem dX5_put_56 : decode cX5_put 56 = .ok (.lushr, 1) := by decide +kernel
theorem dX5_put_57 : decode cX5_put 57 = .ok (.ldc2_w 146, 3) := by decide +kernel
theorem dX5_put_60 : decode cX5_put 60 = .ok (.land, 1) := by decide +kernel
theorem dX5_put_61 : decode cX5_put 61 = .ok (.l2i, 1) := by decide +kernel
theorem dX5_put_62 : decode cX5_put 62 = .ok (.iastore, 1) := by decide +kernel
theorem dX5_put_63 : decode cX5_put 63 = .ok (.iinc 4 1, 3) := by decide +kernel
theorem dX5_put_66 : decode cX5_put 66 = .ok (.goto (-37), 3) := by decide +kernel
theorem dX5_put_69 : decode cX5_put 69 = .ok (.aload_n 0, 1) := by decide +kernel
theorem dX5_put_70 : decode cX5_put 70 = .ok (.dup, 1) := by decide +kernel
theorem dX5_put_71 : decode cX5_put 71 = .ok (.getfield 128, 3) := by decide +kernel
theorem dX5_put_74 : decode cX5_put 74 = .ok (.iload_n 3, 1) := by decide +kernel
theorem dX5_put_75 : decode cX5_put 75 = .ok (.iadd, 1) := by decide +kernel
theorem dX5_put_76 : decode cX5_put 76 = .ok (.putfield 128, 3) := by decide +kernel
theorem dX5_put_79 : decode cX5_put 79 = .ok (.aload_n 0, 1) := by decide +kernel
theorem dX5_put_80 : decode cX5_put 80 = .ok (.getfield 128, 3) := by decide +kernel
theorem dX5_put_83 : decode cX5_put 83 = .ok (.ireturn, 1) := by decide +kernel
theorem dX5_wipe_0 : decode cX5_wipe 0 = .ok (.aload_n 0, 1) := by decide +kernel
theorem dX5_wipe_1 : decode cX5_wipe 1 = .ok (.getfield 128, 3) := by decide +kernel
theorem dX5_wipe_4 : decode cX5_wipe 4 = .ok (.istore_n 1, 1) := by decide +kernel
theorem dX5_wipe_5 : decode cX5_wipe 5 = .ok (.aload_n 0, 1) := by decide +kernel
theorem dX5_wipe_6 : decode cX5_wipe 6 = .ok (.iconst 0, 1) := by decide +kernel
theorem dX5_wipe_7 : decode cX5_wipe 7 = .ok (.putfield 128, 3) := by decide +kernel
theorem dX5_wipe_10 : decode cX5_wipe 10 = .ok (.iload_n 1, 1) := by decide +kernel
theorem dX5_wipe_11 : decode cX5_wipe 11 = .ok (.ireturn, 1) := by decide +kernel
theorem dX5_isHere_0 : decode cX5_isHere 0 = .ok (.aload_n 0, 1) := by decide +kernel
theorem dX5_isHere_1 : decode cX5_isHere 1 = .ok (.getfield 156, 3) := by decide +kernel
theorem dX5_isHere_4 : decode cX5_isHere 4 = .ok (.aload_n 0, 1) := by decide +kernel
theorem dX5_isHere_5 : decode cX5_isHere 5 = .ok (.getfield 128, 3) := by decide +kernel
theorem dX5_isHere_8 : decode cX5_isHere 8 = .ok (.if_icmp .ge 27, 3) := by decide +kernel
theorem dX5_isHere_11 : decode cX5_isHere 11 = .ok (.aload_n 0, 1) := by decide +kernel
theorem dX5_isHere_12 : decode cX5_isHere 12 = .ok (.getfield 25, 3) := by decide +kernel
theorem dX5_isHere_15 : decode cX5_isHere 15 = .ok (.aload_n 0, 1) := by decide +kernel
theorem dX5_isHere_16 : decode cX5_isHere 16 = .ok (.getfield 156, 3) := by decide +kernel
theorem dX5_isHere_19 : decode cX5_isHere 19 = .ok (.iaload, 1) := by decide +kernel
theorem dX5_isHere_20 : decode cX5_isHere 20 = .ok (.i2l, 1) := by decide +kernel
theorem dX5_isHere_21 : decode cX5_isHere 21 = .ok (.iload_n 1, 1) := by decide +kernel
theorem dX5_isHere_22 : decode cX5_isHere 22 = .ok (.i2l, 1) := by decide +kernel
theorem dX5_isHere_23 : decode cX5_isHere 23 = .ok (.iload_n 2, 1) := by decide +kernel
theorem dX5_isHere_24 : decode cX5_isHere 24 = .ok (.i2l, 1) := by decide +kernel
theorem dX5_isHere_25 : decode cX5_isHere 25 = .ok (.invokestatic 75, 3) := by decide +kernel
theorem dX5_isHere_28 : decode cX5_isHere 28 = .ok (.ifCond .eq 7, 3) := by decide +kernel
theorem dX5_isHere_31 : decode cX5_isHere 31 = .ok (.iconst 1, 1) := by decide +kernel
theorem dX5_isHere_32 : decode cX5_isHere 32 = .ok (.goto 4, 3) := by decide +kernel
theorem dX5_isHere_35 : decode cX5_isHere 35 = .ok (.iconst 0, 1) := by decide +kernel
theorem dX5_isHere_36 : decode cX5_isHere 36 = .ok (.ireturn, 1) := by decide +kernel
theorem dX5_takesOne_0 : decode cX5_takesOne 0 = .ok (.aload_n 0, 1) := by decide +kernel
theorem dX5_takesOne_1 : decode cX5_takesOne 1 = .ok (.iload_n 1, 1) := by decide +kernel
theorem dX5_takesOne_2 : decode cX5_takesOne 2 = .ok (.iload_n 1, 1) := by decide +kernel
theorem dX5_takesOne_3 : decode cX5_takesOne 3 = .ok (.invokevirtual 159, 3) := by decide +kernel
theorem dX5_takesOne_6 : decode cX5_takesOne 6 = .ok (.istore_n 2, 1) := by decide +kernel
theorem dX5_takesOne_7 : decode cX5_takesOne 7 = .ok (.aload_n 0, 1) := by decide +kernel
theorem dX5_takesOne_8 : decode cX5_takesOne 8 = .ok (.dup, 1) := by decide +kernel
theorem dX5_takesOne_9 : decode cX5_takesOne 9 = .ok (.getfield 156, 3) := by decide +kernel
theorem dX5_takesOne_12 : decode cX5_takesOne 12 = .ok (.iload_n 2, 1) := by decide +kernel
theorem dX5_takesOne_13 : decode cX5_takesOne 13 = .ok (.ifCond .eq 7, 3) := by decide +kernel
theorem dX5_takesOne_16 : decode cX5_takesOne 16 = .ok (.iconst 1, 1) := by decide +kernel
theorem dX5_takesOne_17 : decode cX5_takesOne 17 = .ok (.goto 4, 3) := by decide +kernel
theorem dX5_takesOne_20 : decode cX5_takesOne 20 = .ok (.iconst 0, 1) := by decide +kernel
theorem dX5_takesOne_21 : decode cX5_takesOne 21 = .ok (.iadd, 1) := by decide +kernel
theorem dX5_takesOne_22 : decode cX5_takesOne 22 = .ok (.putfield 156, 3) := by decide +kernel
theorem dX5_takesOne_25 : decode cX5_takesOne 25 = .ok (.iload_n 2, 1) := by decide +kernel
theorem dX5_takesOne_26 : decode cX5_takesOne 26 = .ok (.ireturn, 1) := by decide +kernel
theorem dX5_readsNumber_0 : decode cX5_readsNumber 0 = .ok (.aload_n 0, 1) := by decide +kernel
theorem dX5_readsNumber_1 : decode cX5_readsNumber 1 = .ok (.bipush 48, 2) := by decide +kernel
theorem dX5_readsNumber_3 : decode cX5_readsNumber 3 = .ok (.iload_n 1, 1) := by decide +kernel
theorem dX5_readsNumber_4 : decode cX5_readsNumber 4 = .ok (.iadd, 1) := by decide +kernel
theorem dX5_readsNumber_5 : decode cX5_readsNumber 5 = .ok (.bipush 57, 2) := by decide +kernel
theorem dX5_readsNumber_7 : decode cX5_readsNumber 7 = .ok (.invokevirtual 159, 3) := by decide +kernel
theorem dX5_readsNumber_10 : decode cX5_readsNumber 10 = .ok (.ifCond .ne 5, 3) := by decide +kernel
theorem dX5_readsNumber_13 : decode cX5_readsNumber 13 = .ok (.iconst 0, 1) := by decide +kernel
theorem dX5_readsNumber_14 : decode cX5_readsNumber 14 = .ok (.ireturn, 1) := by decide +kernel
theorem dX5_readsNumber_15 : decode cX5_readsNumber 15 = .ok (.aload_n 0, 1) := by decide +kernel
theorem dX5_readsNumber_16 : decode cX5_readsNumber 16 = .ok (.aload_n 0, 1) := by decide +kernel
theorem dX5_readsNumber_17 : decode cX5_readsNumber 17 = .ok (.getfield 25, 3) := by decide +kernel
theorem dX5_readsNumber_20 : decode cX5_readsNumber 20 = .ok (.aload_n 0, 1) := by decide +kernel
theorem dX5_readsNumber_21 : decode cX5_readsNumber 21 = .ok (.getfield 156, 3) := by decide +kernel
theorem dX5_readsNumber_24 : decode cX5_readsNumber 24 = .ok (.iaload, 1) := by decide +kernel
theorem dX5_readsNumber_25 : decode cX5_readsNumber 25 = .ok (.bipush 48, 2) := by decide +kernel
theorem dX5_readsNumber_27 : decode cX5_readsNumber 27 = .ok (.isub, 1) := by decide +kernel
theorem dX5_readsNumber_28 : decode cX5_readsNumber 28 = .ok (.putfield 162, 3) := by decide +kernel
theorem dX5_readsNumber_31 : decode cX5_readsNumber 31 = .ok (.aload_n 0, 1) := by decide +kernel
theorem dX5_readsNumber_32 : decode cX5_readsNumber 32 = .ok (.dup, 1) := by decide +kernel
theorem dX5_readsNumber_33 : decode cX5_readsNumber 33 = .ok (.getfield 156, 3) := by decide +kernel
theorem dX5_readsNumber_36 : decode cX5_readsNumber 36 = .ok (.iconst 1, 1) := by decide +kernel
theorem dX5_readsNumber_37 : decode cX5_readsNumber 37 = .ok (.iadd, 1) := by decide +kernel
theorem dX5_readsNumber_38 : decode cX5_readsNumber 38 = .ok (.putfield 156, 3) := by decide +kernel
theorem dX5_readsNumber_41 : decode cX5_readsNumber 41 = .ok (.aload_n 0, 1) := by decide +kernel
theorem dX5_readsNumber_42 : decode cX5_readsNumber 42 = .ok (.getfield 162, 3) := by decide +kernel
theorem dX5_readsNumber_45 : decode cX5_readsNumber 45 = .ok (.ifCond .le 72, 3) := by decide +kernel
theorem dX5_readsNumber_48 : decode cX5_readsNumber 48 = .ok (.aload_n 0, 1) := by decide +kernel
theorem dX5_readsNumber_49 : decode cX5_readsNumber 49 = .ok (.bipush 48, 2) := by decide +kernel
theorem dX5_readsNumber_51 : decode cX5_readsNumber 51 = .ok (.bipush 57, 2) := by decide +kernel
theorem dX5_readsNumber_53 : decode cX5_readsNumber 53 = .ok (.invokevirtual 159, 3) := by decide +kernel
theorem dX5_readsNumber_56 : decode cX5_readsNumber 56 = .ok (.ifCond .eq 61, 3) := by decide +kernel
theorem dX5_readsNumber_59 : decode cX5_readsNumber 59 = .ok (.bipush 10, 2) := by decide +kernel
theorem dX5_readsNumber_61 : decode cX5_readsNumber 61 = .ok (.aload_n 0, 1) := by decide +kernel
theorem dX5_readsNumber_62 : decode cX5_readsNumber 62 = .ok (.getfield 162, 3) := by decide +kernel
theorem dX5_readsNumber_65 : decode cX5_readsNumber 65 = .ok (.imul, 1) := by decide +kernel
theorem dX5_readsNumber_66 : decode cX5_readsNumber 66 = .ok (.aload_n 0, 1) := by decide +kernel
theorem dX5_readsNumber_67 : decode cX5_readsNumber 67 = .ok (.getfield 25, 3) := by decide +kernel
theorem dX5_readsNumber_70 : decode cX5_readsNumber 70 = .ok (.aload_n 0, 1) := by decide +kernel
theorem dX5_readsNumber_71 : decode cX5_readsNumber 71 = .ok (.getfield 156, 3) := by decide +kernel
theorem dX5_readsNumber_74 : decode cX5_readsNumber 74 = .ok (.iaload, 1) := by decide +kernel
theorem dX5_readsNumber_75 : decode cX5_readsNumber 75 = .ok (.iadd, 1) := by decide +kernel
theorem dX5_readsNumber_76 : decode cX5_readsNumber 76 = .ok (.bipush 48, 2) := by decide +kernel
theorem dX5_readsNumber_78 : decode cX5_readsNumber 78 = .ok (.isub, 1) := by decide +kernel
theorem dX5_readsNumber_79 : decode cX5_readsNumber 79 = .ok (.iload_n 2, 1) := by decide +kernel
theorem dX5_readsNumber_80 : decode cX5_readsNumber 80 = .ok (.if_icmp .gt 37, 3) := by decide +kernel
theorem dX5_readsNumber_83 : decode cX5_readsNumber 83 = .ok (.aload_n 0, 1) := by decide +kernel
theorem dX5_readsNumber_84 : decode cX5_readsNumber 84 = .ok (.bipush 10, 2) := by decide +kernel
theorem dX5_readsNumber_86 : decode cX5_readsNumber 86 = .ok (.aload_n 0, 1) := by decide +kernel
theorem dX5_readsNumber_87 : decode cX5_readsNumber 87 = .ok (.getfield 162, 3) := by decide +kernel
theorem dX5_readsNumber_90 : decode cX5_readsNumber 90 = .ok (.imul, 1) := by decide +kernel
theorem dX5_readsNumber_91 : decode cX5_readsNumber 91 = .ok (.aload_n 0, 1) := by decide +kernel
theorem dX5_readsNumber_92 : decode cX5_readsNumber 92 = .ok (.getfield 25, 3) := by decide +kernel
theorem dX5_readsNumber_95 : decode cX5_readsNumber 95 = .ok (.aload_n 0, 1) := by decide +kernel
theorem dX5_readsNumber_96 : decode cX5_readsNumber 96 = .ok (.getfield 156, 3) := by decide +kernel
theorem dX5_readsNumber_99 : decode cX5_readsNumber 99 = .ok (.iaload, 1) := by decide +kernel
theorem dX5_readsNumber_100 : decode cX5_readsNumber 100 = .ok (.iadd, 1) := by decide +kernel
theorem dX5_readsNumber_101 : decode cX5_readsNumber 101 = .ok (.bipush 48, 2) := by decide +kernel
theorem dX5_readsNumber_103 : decode cX5_readsNumber 103 = .ok (.isub, 1) := by decide +kernel
theorem dX5_readsNumber_104 : decode cX5_readsNumber 104 = .ok (.putfield 162, 3) := by decide +kernel
theorem dX5_readsNumber_107 : decode cX5_readsNumber 107 = .ok (.aload_n 0, 1) := by decide +kernel
theorem dX5_readsNumber_108 : decode cX5_readsNumber 108 = .ok (.dup, 1) := by decide +kernel
theorem dX5_readsNumber_109 : decode cX5_readsNumber 109 = .ok (.getfield 156, 3) := by decide +kernel
theorem dX5_readsNumber_112 : decode cX5_readsNumber 112 = .ok (.iconst 1, 1) := by decide +kernel
theorem dX5_readsNumber_113 : decode cX5_readsNumber 113 = .ok (.iadd, 1) := by decide +kernel
theorem dX5_readsNumber_114 : decode cX5_readsNumber 114 = .ok (.putfield 156, 3) := by decide +kernel
theorem dX5_readsNumber_117 : decode cX5_readsNumber 117 = .ok (.iconst 1, 1) := by decide +kernel
theorem dX5_readsNumber_118 : decode cX5_readsNumber 118 = .ok (.ireturn, 1) := by decide +kernel
theorem dX5_readsTouch_0 : decode cX5_readsTouch 0 = .ok (.aload_n 0, 1) := by decide +kernel
theorem dX5_readsTouch_1 : decode cX5_readsTouch 1 = .ok (.iconst 0, 1) := by decide +kernel
theorem dX5_readsTouch_2 : decode cX5_readsTouch 2 = .ok (.bipush 11, 2) := by decide +kernel
theorem dX5_readsTouch_4 : decode cX5_readsTouch 4 = .ok (.invokevirtual 165, 3) := by decide +kernel
theorem dX5_readsTouch_7 : decode cX5_readsTouch 7 = .ok (.istore_n 1, 1) := by decide +kernel
theorem dX5_readsTouch_8 : decode cX5_readsTouch 8 = .ok (.aload_n 0, 1) := by decide +kernel
theorem dX5_readsTouch_9 : decode cX5_readsTouch 9 = .ok (.aload_n 0, 1) := by decide +kernel
theorem dX5_readsTouch_10 : decode cX5_readsTouch 10 = .ok (.getfield 162, 3) := by decide +kernel
theorem dX5_readsTouch_13 : decode cX5_readsTouch 13 = .ok (.putfield 168, 3) := by decide +kernel
theorem dX5_readsTouch_16 : decode cX5_readsTouch 16 = .ok (.iload_n 1, 1) := by decide +kernel
theorem dX5_readsTouch_17 : decode cX5_readsTouch 17 = .ok (.ifCond .eq 12, 3) := by decide +kernel
theorem dX5_readsTouch_20 : decode cX5_readsTouch 20 = .ok (.aload_n 0, 1) := by decide +kernel
theorem dX5_readsTouch_21 : decode cX5_readsTouch 21 = .ok (.bipush 61, 2) := by decide +kernel
theorem dX5_readsTouch_23 : decode cX5_readsTouch 23 = .ok (.invokevirtual 171, 3) := by decide +kernel
theorem dX5_readsTouch_26 : decode cX5_readsTouch 26 = .ok (.ifCond .ne 5, 3) := by decide +kernel
theorem dX5_readsTouch_29 : decode cX5_readsTouch 29 = .ok (.iconst 0, 1) := by decide +kernel
theorem dX5_readsTouch_30 : decode cX5_readsTouch 30 = .ok (.ireturn, 1) := by decide +kernel
theorem dX5_readsTouch_31 : decode cX5_readsTouch 31 = .ok (.aload_n 0, 1) := by decide +kernel
theorem dX5_readsTouch_32 : decode cX5_readsTouch 32 = .ok (.bipush 45, 2) := by decide +kernel
theorem dX5_readsTouch_34 : decode cX5_readsTouch 34 = .ok (.invokevirtual 171, 3) := by decide +kernel
theorem dX5_readsTouch_37 : decode cX5_readsTouch 37 = .ok (.istore_n 2, 1) := by decide +kernel
theorem dX5_readsTouch_38 : decode cX5_readsTouch 38 = .ok (.aload_n 0, 1) := by decide +kernel
theorem dX5_readsTouch_39 : decode cX5_readsTouch 39 = .ok (.iconst 0, 1) := by decide +kernel
theorem dX5_readsTouch_40 : decode cX5_readsTouch 40 = .ok (.bipush 99, 2) := by decide +kernel
theorem dX5_readsTouch_42 : decode cX5_readsTouch 42 = .ok (.invokevirtual 165, 3) := by decide +kernel
theorem dX5_readsTouch_45 : decode cX5_readsTouch 45 = .ok (.istore_n 3, 1) := by decide +kernel
theorem dX5_readsTouch_46 : decode cX5_readsTouch 46 = .ok (.aload_n 0, 1) := by decide +kernel
theorem dX5_readsTouch_47 : decode cX5_readsTouch 47 = .ok (.iload_n 2, 1) := by decide +kernel
theorem dX5_readsTouch_48 : decode cX5_readsTouch 48 = .ok (.ifCond .eq 11, 3) := by decide +kernel
theorem dX5_readsTouch_51 : decode cX5_readsTouch 51 = .ok (.aload_n 0, 1) := by decide +kernel
theorem dX5_readsTouch_52 : decode cX5_readsTouch 52 = .ok (.getfield 162, 3) := by decide +kernel
theorem dX5_readsTouch_55 : decode cX5_readsTouch 55 = .ok (.ineg, 1) := by decide +kernel
theorem dX5_readsTouch_56 : decode cX5_readsTouch 56 = .ok (.goto 7, 3) := by decide +kernel
theorem dX5_readsTouch_59 : decode cX5_readsTouch 59 = .ok (.aload_n 0, 1) := by decide +kernel
theorem dX5_readsTouch_60 : decode cX5_readsTouch 60 = .ok (.getfield 162, 3) := by decide +kernel
theorem dX5_readsTouch_63 : decode cX5_readsTouch 63 = .ok (.putfield 174, 3) := by decide +kernel
theorem dX5_readsTouch_66 : decode cX5_readsTouch 66 = .ok (.iload_n 3, 1) := by decide +kernel
theorem dX5_readsTouch_67 : decode cX5_readsTouch 67 = .ok (.ireturn, 1) := by decide +kernel
theorem dX5_readsDeed_0 : decode cX5_readsDeed 0 = .ok (.aload_n 0, 1) := by decide +kernel
theorem dX5_readsDeed_1 : decode cX5_readsDeed 1 = .ok (.aload_n 0, 1) := by decide +kernel
theorem dX5_readsDeed_2 : decode cX5_readsDeed 2 = .ok (.getfield 156, 3) := by decide +kernel
theorem dX5_readsDeed_5 : decode cX5_readsDeed 5 = .ok (.aload_n 0, 1) := by decide +kernel
theorem dX5_readsDeed_6 : decode cX5_readsDeed 6 = .ok (.getfield 128, 3) := by decide +kernel
theorem dX5_readsDeed_9 : decode cX5_readsDeed 9 = .ok (.if_icmp .ge 15, 3) := by decide +kernel
theorem dX5_readsDeed_12 : decode cX5_readsDeed 12 = .ok (.aload_n 0, 1) := by decide +kernel
theorem dX5_readsDeed_13 : decode cX5_readsDeed 13 = .ok (.getfield 25, 3) := by decide +kernel
theorem dX5_readsDeed_16 : decode cX5_readsDeed 16 = .ok (.aload_n 0, 1) := by decide +kernel
theorem dX5_readsDeed_17 : decode cX5_readsDeed 17 = .ok (.getfield 156, 3) := by decide +kernel
theorem dX5_readsDeed_20 : decode cX5_readsDeed 20 = .ok (.iaload, 1) := by decide +kernel
theorem dX5_readsDeed_21 : decode cX5_readsDeed 21 = .ok (.goto 4, 3) := by decide +kernel
theorem dX5_readsDeed_24 : decode cX5_readsDeed 24 = .ok (.iconst 0, 1) := by decide +kernel
theorem dX5_readsDeed_25 : decode cX5_readsDeed 25 = .ok (.putfield 177, 3) := by decide +kernel
theorem dX5_readsDeed_28 : decode cX5_readsDeed 28 = .ok (.aload_n 0, 1) := by decide +kernel
theorem dX5_readsDeed_29 : decode cX5_readsDeed 29 = .ok (.bipush 120, 2) := by decide +kernel
theorem dX5_readsDeed_31 : decode cX5_readsDeed 31 = .ok (.invokevirtual 171, 3) := by decide +kernel
theorem dX5_readsDeed_34 : decode cX5_readsDeed 34 = .ok (.ifCond .eq 5, 3) := by decide +kernel
theorem dX5_readsDeed_37 : decode cX5_readsDeed 37 = .ok (.iconst 1, 1) := by decide +kernel
theorem dX5_readsDeed_38 : decode cX5_readsDeed 38 = .ok (.ireturn, 1) := by decide +kernel
theorem dX5_readsDeed_39 : decode cX5_readsDeed 39 = .ok (.aload_n 0, 1) := by decide +kernel
theorem dX5_readsDeed_40 : decode cX5_readsDeed 40 = .ok (.bipush 46, 2) := by decide +kernel
theorem dX5_readsDeed_42 : decode cX5_readsDeed 42 = .ok (.invokevirtual 171, 3) := by decide +kernel
theorem dX5_readsDeed_45 : decode cX5_readsDeed 45 = .ok (.ifCond .eq 11, 3) := by decide +kernel
theorem dX5_readsDeed_48 : decode cX5_readsDeed 48 = .ok (.aload_n 0, 1) := by decide +kernel
theorem dX5_readsDeed_49 : decode cX5_readsDeed 49 = .ok (.iconst 1, 1) := by decide +kernel
theorem dX5_readsDeed_50 : decode cX5_readsDeed 50 = .ok (.bipush 99, 2) := by decide +kernel
theorem dX5_readsDeed_52 : decode cX5_readsDeed 52 = .ok (.invokevirtual 165, 3) := by decide +kernel
theorem dX5_readsDeed_55 : decode cX5_readsDeed 55 = .ok (.ireturn, 1) := by decide +kernel
theorem dX5_readsDeed_56 : decode cX5_readsDeed 56 = .ok (.aload_n 0, 1) := by decide +kernel
theorem dX5_readsDeed_57 : decode cX5_readsDeed 57 = .ok (.bipush 102, 2) := by decide +kernel
theorem dX5_readsDeed_59 : decode cX5_readsDeed 59 = .ok (.invokevirtual 171, 3) := by decide +kernel
theorem dX5_readsDeed_62 : decode cX5_readsDeed 62 = .ok (.ifCond .ne 12, 3) := by decide +kernel
theorem dX5_readsDeed_65 : decode cX5_readsDeed 65 = .ok (.aload_n 0, 1) := by decide +kernel
theorem dX5_readsDeed_66 : decode cX5_readsDeed 66 = .ok (.bipush 98, 2) := by decide +kernel
theorem dX5_readsDeed_68 : decode cX5_readsDeed 68 = .ok (.invokevirtual 171, 3) := by decide +kernel
theorem dX5_readsDeed_71 : decode cX5_readsDeed 71 = .ok (.ifCond .eq 14, 3) := by decide +kernel
theorem dX5_readsDeed_74 : decode cX5_readsDeed 74 = .ok (.aload_n 0, 1) := by decide +kernel
theorem dX5_readsDeed_75 : decode cX5_readsDeed 75 = .ok (.invokevirtual 180, 3) := by decide +kernel
theorem dX5_readsDeed_78 : decode cX5_readsDeed 78 = .ok (.ifCond .eq 7, 3) := by decide +kernel
theorem dX5_readsDeed_81 : decode cX5_readsDeed 81 = .ok (.iconst 1, 1) := by decide +kernel
theorem dX5_readsDeed_82 : decode cX5_readsDeed 82 = .ok (.goto 4, 3) := by decide +kernel
theorem dX5_readsDeed_85 : decode cX5_readsDeed 85 = .ok (.iconst 0, 1) := by decide +kernel
theorem dX5_readsDeed_86 : decode cX5_readsDeed 86 = .ok (.ireturn, 1) := by decide +kernel
theorem dX5_fault_0 : decode cX5_fault 0 = .ok (.aload_n 0, 1) := by decide +kernel
theorem dX5_fault_1 : decode cX5_fault 1 = .ok (.iconst 0, 1) := by decide +kernel
theorem dX5_fault_2 : decode cX5_fault 2 = .ok (.putfield 156, 3) := by decide +kernel
theorem dX5_fault_5 : decode cX5_fault 5 = .ok (.iconst 1, 1) := by decide +kernel
theorem dX5_fault_6 : decode cX5_fault 6 = .ok (.istore_n 1, 1) := by decide +kernel
theorem dX5_fault_7 : decode cX5_fault 7 = .ok (.iload_n 1, 1) := by decide +kernel
theorem dX5_fault_8 : decode cX5_fault 8 = .ok (.ifCond .eq 25, 3) := by decide +kernel
theorem dX5_fault_11 : decode cX5_fault 11 = .ok (.aload_n 0, 1) := by decide +kernel
theorem dX5_fault_12 : decode cX5_fault 12 = .ok (.invokevirtual 184, 3) := by decide +kernel
theorem dX5_fault_15 : decode cX5_fault 15 = .ok (.ifCond .ne 8, 3) := by decide +kernel
theorem dX5_fault_18 : decode cX5_fault 18 = .ok (.aload_n 0, 1) := by decide +kernel
theorem dX5_fault_19 : decode cX5_fault 19 = .ok (.getfield 156, 3) := by decide +kernel
theorem dX5_fault_22 : decode cX5_fault 22 = .ok (.ireturn, 1) := by decide +kernel
theorem dX5_fault_23 : decode cX5_fault 23 = .ok (.aload_n 0, 1) := by decide +kernel
theorem dX5_fault_24 : decode cX5_fault 24 = .ok (.bipush 59, 2) := by decide +kernel
theorem dX5_fault_26 : decode cX5_fault 26 = .ok (.invokevirtual 171, 3) := by decide +kernel
theorem dX5_fault_29 : decode cX5_fault 29 = .ok (.istore_n 1, 1) := by decide +kernel
theorem dX5_fault_30 : decode cX5_fault 30 = .ok (.goto (-23), 3) := by decide +kernel
theorem dX5_fault_33 : decode cX5_fault 33 = .ok (.aload_n 0, 1) := by decide +kernel
theorem dX5_fault_34 : decode cX5_fault 34 = .ok (.getfield 156, 3) := by decide +kernel
theorem dX5_fault_37 : decode cX5_fault 37 = .ok (.aload_n 0, 1) := by decide +kernel
theorem dX5_fault_38 : decode cX5_fault 38 = .ok (.getfield 128, 3) := by decide +kernel
theorem dX5_fault_41 : decode cX5_fault 41 = .ok (.if_icmp .ne 8, 3) := by decide +kernel
theorem dX5_fault_44 : decode cX5_fault 44 = .ok (.ldc 124, 2) := by decide +kernel
theorem dX5_fault_46 : decode cX5_fault 46 = .ok (.goto 7, 3) := by decide +kernel
theorem dX5_fault_49 : decode cX5_fault 49 = .ok (.aload_n 0, 1) := by decide +kernel
theorem dX5_fault_50 : decode cX5_fault 50 = .ok (.getfield 156, 3) := by decide +kernel
theorem dX5_fault_53 : decode cX5_fault 53 = .ok (.ireturn, 1) := by decide +kernel
theorem dX5_does_0 : decode cX5_does 0 = .ok (.aload_n 0, 1) := by decide +kernel
theorem dX5_does_1 : decode cX5_does 1 = .ok (.getfield 177, 3) := by decide +kernel
theorem dX5_does_4 : decode cX5_does 4 = .ok (.bipush 46, 2) := by decide +kernel
theorem dX5_does_6 : decode cX5_does 6 = .ok (.if_icmp .ne 32, 3) := by decide +kernel
theorem dX5_does_9 : decode cX5_does 9 = .ok (.aload_n 0, 1) := by decide +kernel
theorem dX5_does_10 : decode cX5_does 10 = .ok (.getfield 7, 3) := by decide +kernel
theorem dX5_does_13 : decode cX5_does 13 = .ok (.iconst 5, 1) := by decide +kernel
theorem dX5_does_14 : decode cX5_does 14 = .ok (.iaload, 1) := by decide +kernel
theorem dX5_does_15 : decode cX5_does 15 = .ok (.aload_n 0, 1) := by decide +kernel
theorem dX5_does_16 : decode cX5_does 16 = .ok (.getfield 162, 3) := by decide +kernel
theorem dX5_does_19 : decode cX5_does 19 = .ok (.iadd, 1) := by decide +kernel
theorem dX5_does_20 : decode cX5_does 20 = .ok (.ldc 113, 2) := by decide +kernel
theorem dX5_does_22 : decode cX5_does 22 = .ok (.if_icmp .le 7, 3) := by decide +kernel
theorem dX5_does_25 : decode cX5_does 25 = .ok (.iconst 0, 1) := by decide +kernel
theorem dX5_does_26 : decode cX5_does 26 = .ok (.goto 11, 3) := by decide +kernel
theorem dX5_does_29 : decode cX5_does 29 = .ok (.aload_n 0, 1) := by decide +kernel
theorem dX5_does_30 : decode cX5_does 30 = .ok (.aload_n 0, 1) := by decide +kernel
theorem dX5_does_31 : decode cX5_does 31 = .ok (.getfield 162, 3) := by decide +kernel
theorem dX5_does_34 : decode cX5_does 34 = .ok (.invokevirtual 115, 3) := by decide +kernel
theorem dX5_does_37 : decode cX5_does 37 = .ok (.ireturn, 1) := by decide +kernel
theorem dX5_does_38 : decode cX5_does 38 = .ok (.aload_n 0, 1) := by decide +kernel
theorem dX5_does_39 : decode cX5_does 39 = .ok (.getfield 177, 3) := by decide +kernel
theorem dX5_does_42 : decode cX5_does 42 = .ok (.bipush 120, 2) := by decide +kernel
theorem dX5_does_44 : decode cX5_does 44 = .ok (.if_icmp .ne 10, 3) := by decide +kernel
theorem dX5_does_47 : decode cX5_does 47 = .ok (.aload_n 0, 1) := by decide +kernel
theorem dX5_does_48 : decode cX5_does 48 = .ok (.invokevirtual 119, 3) := by decide +kernel
theorem dX5_does_51 : decode cX5_does 51 = .ok (.istore_n 1, 1) := by decide +kernel
theorem dX5_does_52 : decode cX5_does 52 = .ok (.iconst 0, 1) := by decide +kernel
theorem dX5_does_53 : decode cX5_does 53 = .ok (.ireturn, 1) := by decide +kernel
theorem dX5_does_54 : decode cX5_does 54 = .ok (.aload_n 0, 1) := by decide +kernel
theorem dX5_does_55 : decode cX5_does 55 = .ok (.aload_n 0, 1) := by decide +kernel
theorem dX5_does_56 : decode cX5_does 56 = .ok (.getfield 177, 3) := by decide +kernel
theorem dX5_does_59 : decode cX5_does 59 = .ok (.bipush 102, 2) := by decide +kernel
theorem dX5_does_61 : decode cX5_does 61 = .ok (.if_icmp .ne 7, 3) := by decide +kernel
theorem dX5_does_64 : decode cX5_does 64 = .ok (.iconst 0, 1) := by decide +kernel
theorem dX5_does_65 : decode cX5_does 65 = .ok (.goto 4, 3) := by decide +kernel
theorem dX5_does_68 : decode cX5_does 68 = .ok (.iconst 1, 1) := by decide +kernel
theorem dX5_does_69 : decode cX5_does 69 = .ok (.aload_n 0, 1) := by decide +kernel
theorem dX5_does_70 : decode cX5_does 70 = .ok (.getfield 168, 3) := by decide +kernel
theorem dX5_does_73 : decode cX5_does 73 = .ok (.aload_n 0, 1) := by decide +kernel
theorem dX5_does_74 : decode cX5_does 74 = .ok (.getfield 174, 3) := by decide +kernel
theorem dX5_does_77 : decode cX5_does 77 = .ok (.invokevirtual 110, 3) := by decide +kernel
theorem dX5_does_80 : decode cX5_does 80 = .ok (.iconst 0, 1) := by decide +kernel
theorem dX5_does_81 : decode cX5_does 81 = .ok (.ireturn, 1) := by decide +kernel
theorem dX5_run_0 : decode cX5_run 0 = .ok (.aload_n 0, 1) := by decide +kernel
theorem dX5_run_1 : decode cX5_run 1 = .ok (.invokevirtual 187, 3) := by decide +kernel
theorem dX5_run_4 : decode cX5_run 4 = .ok (.ldc 124, 2) := by decide +kernel
theorem dX5_run_6 : decode cX5_run 6 = .ok (.if_icmp .eq 6, 3) := by decide +kernel
theorem dX5_run_9 : decode cX5_run 9 = .ok (.ldc 190, 2) := by decide +kernel
theorem dX5_run_11 : decode cX5_run 11 = .ok (.ireturn, 1) := by decide +kernel
theorem dX5_run_12 : decode cX5_run 12 = .ok (.aload_n 0, 1) := by decide +kernel
theorem dX5_run_13 : decode cX5_run 13 = .ok (.invokevirtual 93, 3) := by decide +kernel
theorem dX5_run_16 : decode cX5_run 16 = .ok (.aload_n 0, 1) := by decide +kernel
theorem dX5_run_17 : decode cX5_run 17 = .ok (.iconst 0, 1) := by decide +kernel
theorem dX5_run_18 : decode cX5_run 18 = .ok (.putfield 156, 3) := by decide +kernel
theorem dX5_run_21 : decode cX5_run 21 = .ok (.iconst 0, 1) := by decide +kernel
theorem dX5_run_22 : decode cX5_run 22 = .ok (.istore_n 1, 1) := by decide +kernel
theorem dX5_run_23 : decode cX5_run 23 = .ok (.iconst 1, 1) := by decide +kernel
theorem dX5_run_24 : decode cX5_run 24 = .ok (.istore_n 2, 1) := by decide +kernel
theorem dX5_run_25 : decode cX5_run 25 = .ok (.iload_n 2, 1) := by decide +kernel
theorem dX5_run_26 : decode cX5_run 26 = .ok (.ifCond .eq 25, 3) := by decide +kernel
theorem dX5_run_29 : decode cX5_run 29 = .ok (.aload_n 0, 1) := by decide +kernel
theorem dX5_run_30 : decode cX5_run 30 = .ok (.invokevirtual 184, 3) := by decide +kernel
theorem dX5_run_33 : decode cX5_run 33 = .ok (.istore_n 3, 1) := by decide +kernel
theorem dX5_run_34 : decode cX5_run 34 = .ok (.iload_n 1, 1) := by decide +kernel
theorem dX5_run_35 : decode cX5_run 35 = .ok (.aload_n 0, 1) := by decide +kernel
theorem dX5_run_36 : decode cX5_run 36 = .ok (.invokevirtual 191, 3) := by decide +kernel
theorem dX5_run_39 : decode cX5_run 39 = .ok (.iadd, 1) := by decide +kernel
theorem dX5_run_40 : decode cX5_run 40 = .ok (.istore_n 1, 1) := by decide +kernel
theorem dX5_run_41 : decode cX5_run 41 = .ok (.aload_n 0, 1) := by decide +kernel
theorem dX5_run_42 : decode cX5_run 42 = .ok (.bipush 59, 2) := by decide +kernel
theorem dX5_run_44 : decode cX5_run 44 = .ok (.invokevirtual 171, 3) := by decide +kernel
theorem dX5_run_47 : decode cX5_run 47 = .ok (.istore_n 2, 1) := by decide +kernel
theorem dX5_run_48 : decode cX5_run 48 = .ok (.goto (-23), 3) := by decide +kernel
theorem dX5_run_51 : decode cX5_run 51 = .ok (.aload_n 0, 1) := by decide +kernel
theorem dX5_run_52 : decode cX5_run 52 = .ok (.iconst 0, 1) := by decide +kernel
theorem dX5_run_53 : decode cX5_run 53 = .ok (.putfield 128, 3) := by decide +kernel
theorem dX5_run_56 : decode cX5_run 56 = .ok (.iload_n 1, 1) := by decide +kernel
theorem dX5_run_57 : decode cX5_run 57 = .ok (.ireturn, 1) := by decide +kernel
theorem dX5_undo_0 : decode cX5_undo 0 = .ok (.aload_n 0, 1) := by decide +kernel
theorem dX5_undo_1 : decode cX5_undo 1 = .ok (.getfield 28, 3) := by decide +kernel
theorem dX5_undo_4 : decode cX5_undo 4 = .ok (.ifCond .ne 6, 3) := by decide +kernel
theorem dX5_undo_7 : decode cX5_undo 7 = .ok (.ldc 92, 2) := by decide +kernel
theorem dX5_undo_9 : decode cX5_undo 9 = .ok (.ireturn, 1) := by decide +kernel
theorem dX5_undo_10 : decode cX5_undo 10 = .ok (.aload_n 0, 1) := by decide +kernel
theorem dX5_undo_11 : decode cX5_undo 11 = .ok (.dup, 1) := by decide +kernel
theorem dX5_undo_12 : decode cX5_undo 12 = .ok (.getfield 28, 3) := by decide +kernel
theorem dX5_undo_15 : decode cX5_undo 15 = .ok (.iconst 1, 1) := by decide +kernel
theorem dX5_undo_16 : decode cX5_undo 16 = .ok (.isub, 1) := by decide +kernel
theorem dX5_undo_17 : decode cX5_undo 17 = .ok (.putfield 28, 3) := by decide +kernel
theorem dX5_undo_20 : decode cX5_undo 20 = .ok (.iconst 0, 1) := by decide +kernel
theorem dX5_undo_21 : decode cX5_undo 21 = .ok (.istore_n 1, 1) := by decide +kernel
theorem dX5_undo_22 : decode cX5_undo 22 = .ok (.iload_n 1, 1) := by decide +kernel
theorem dX5_undo_23 : decode cX5_undo 23 = .ok (.bipush 67, 2) := by decide +kernel
theorem dX5_undo_25 : decode cX5_undo 25 = .ok (.if_icmp .ge 29, 3) := by decide +kernel
theorem dX5_undo_28 : decode cX5_undo 28 = .ok (.aload_n 0, 1) := by decide +kernel
theorem dX5_undo_29 : decode cX5_undo 29 = .ok (.getfield 7, 3) := by decide +kernel
theorem dX5_undo_32 : decode cX5_undo 32 = .ok (.iload_n 1, 1) := by decide +kernel
theorem dX5_undo_33 : decode cX5_undo 33 = .ok (.aload_n 0, 1) := by decide +kernel
theorem dX5_undo_34 : decode cX5_undo 34 = .ok (.getfield 16, 3) := by decide +kernel
theorem dX5_undo_37 : decode cX5_undo 37 = .ok (.bipush 67, 2) := by decide +kernel
theorem dX5_undo_39 : decode cX5_undo 39 = .ok (.aload_n 0, 1) := by decide +kernel
theorem dX5_undo_40 : decode cX5_undo 40 = .ok (.getfield 28, 3) := by decide +kernel
theorem dX5_undo_43 : decode cX5_undo 43 = .ok (.imul, 1) := by decide +kernel
theorem dX5_undo_44 : decode cX5_undo 44 = .ok (.iload_n 1, 1) := by decide +kernel
theorem dX5_undo_45 : decode cX5_undo 45 = .ok (.iadd, 1) := by decide +kernel
theorem dX5_undo_46 : decode cX5_undo 46 = .ok (.iaload, 1) := by decide +kernel
theorem dX5_undo_47 : decode cX5_undo 47 = .ok (.iastore, 1) := by decide +kernel
theorem dX5_undo_48 : decode cX5_undo 48 = .ok (.iinc 1 1, 3) := by decide +kernel
theorem dX5_undo_51 : decode cX5_undo 51 = .ok (.goto (-29), 3) := by decide +kernel
theorem dX5_undo_54 : decode cX5_undo 54 = .ok (.aload_n 0, 1) := by decide +kernel
theorem dX5_undo_55 : decode cX5_undo 55 = .ok (.getfield 28, 3) := by decide +kernel
theorem dX5_undo_58 : decode cX5_undo 58 = .ok (.ireturn, 1) := by decide +kernel
theorem dX5_save_0 : decode cX5_save 0 = .ok (.iload_n 1, 1) := by decide +kernel
theorem dX5_save_1 : decode cX5_save 1 = .ok (.invokestatic 98, 3) := by decide +kernel
theorem dX5_save_4 : decode cX5_save 4 = .ok (.ifCond .ne 6, 3) := by decide +kernel
theorem dX5_save_7 : decode cX5_save 7 = .ok (.ldc 91, 2) := by decide +kernel
theorem dX5_save_9 : decode cX5_save 9 = .ok (.ireturn, 1) := by decide +kernel
theorem dX5_save_10 : decode cX5_save 10 = .ok (.iconst 0, 1) := by decide +kernel
theorem dX5_save_11 : decode cX5_save 11 = .ok (.istore_n 2, 1) := by decide +kernel
theorem dX5_save_12 : decode cX5_save 12 = .ok (.iload_n 2, 1) := by decide +kernel
theorem dX5_save_13 : decode cX5_save 13 = .ok (.bipush 67, 2) := by decide +kernel
theorem dX5_save_15 : decode cX5_save 15 = .ok (.if_icmp .ge 26, 3) := by decide +kernel
theorem dX5_save_18 : decode cX5_save 18 = .ok (.aload_n 0, 1) := by decide +kernel
theorem dX5_save_19 : decode cX5_save 19 = .ok (.getfield 19, 3) := by decide +kernel
theorem dX5_save_22 : decode cX5_save 22 = .ok (.bipush 67, 2) := by decide +kernel
theorem dX5_save_24 : decode cX5_save 24 = .ok (.iload_n 1, 1) := by decide +kernel
theorem dX5_save_25 : decode cX5_save 25 = .ok (.imul, 1) := by decide +kernel
theorem dX5_save_26 : decode cX5_save 26 = .ok (.iload_n 2, 1) := by decide +kernel
theorem dX5_save_27 : decode cX5_save 27 = .ok (.iadd, 1) := by decide +kernel
theorem dX5_save_28 : decode cX5_save 28 = .ok (.aload_n 0, 1) := by decide +kernel
theorem dX5_save_29 : decode cX5_save 29 = .ok (.getfield 7, 3) := by decide +kernel
theorem dX5_save_32 : decode cX5_save 32 = .ok (.iload_n 2, 1) := by decide +kernel
theorem dX5_save_33 : decode cX5_save 33 = .ok (.iaload, 1) := by decide +kernel
theorem dX5_save_34 : decode cX5_save 34 = .ok (.iastore, 1) := by decide +kernel
theorem dX5_save_35 : decode cX5_save 35 = .ok (.iinc 2 1, 3) := by decide +kernel
theorem dX5_save_38 : decode cX5_save 38 = .ok (.goto (-26), 3) := by decide +kernel
theorem dX5_save_41 : decode cX5_save 41 = .ok (.aload_n 0, 1) := by decide +kernel
theorem dX5_save_42 : decode cX5_save 42 = .ok (.getfield 22, 3) := by decide +kernel
theorem dX5_save_45 : decode cX5_save 45 = .ok (.iload_n 1, 1) := by decide +kernel
theorem dX5_save_46 : decode cX5_save 46 = .ok (.iconst 1, 1) := by decide +kernel
theorem dX5_save_47 : decode cX5_save 47 = .ok (.iastore, 1) := by decide +kernel
theorem dX5_save_48 : decode cX5_save 48 = .ok (.aload_n 0, 1) := by decide +kernel
theorem dX5_save_49 : decode cX5_save 49 = .ok (.getfield 7, 3) := by decide +kernel
theorem dX5_save_52 : decode cX5_save 52 = .ok (.iconst 5, 1) := by decide +kernel
theorem dX5_save_53 : decode cX5_save 53 = .ok (.iaload, 1) := by decide +kernel
theorem dX5_save_54 : decode cX5_save 54 = .ok (.ireturn, 1) := by decide +kernel
theorem dX5_restore_0 : decode cX5_restore 0 = .ok (.iload_n 1, 1) := by decide +kernel
theorem dX5_restore_1 : decode cX5_restore 1 = .ok (.invokestatic 98, 3) := by decide +kernel
theorem dX5_restore_4 : decode cX5_restore 4 = .ok (.ifCond .ne 6, 3) := by decide +kernel
theorem dX5_restore_7 : decode cX5_restore 7 = .ok (.ldc 91, 2) := by decide +kernel
theorem dX5_restore_9 : decode cX5_restore 9 = .ok (.ireturn, 1) := by decide +kernel
theorem dX5_restore_10 : decode cX5_restore 10 = .ok (.aload_n 0, 1) := by decide +kernel
theorem dX5_restore_11 : decode cX5_restore 11 = .ok (.getfield 22, 3) := by decide +kernel
theorem dX5_restore_14 : decode cX5_restore 14 = .ok (.iload_n 1, 1) := by decide +kernel
theorem dX5_restore_15 : decode cX5_restore 15 = .ok (.iaload, 1) := by decide +kernel
theorem dX5_restore_16 : decode cX5_restore 16 = .ok (.ifCond .ne 6, 3) := by decide +kernel
theorem dX5_restore_19 : decode cX5_restore 19 = .ok (.ldc 92, 2) := by decide +kernel
theorem dX5_restore_21 : decode cX5_restore 21 = .ok (.ireturn, 1) := by decide +kernel
theorem dX5_restore_22 : decode cX5_restore 22 = .ok (.aload_n 0, 1) := by decide +kernel
theorem dX5_restore_23 : decode cX5_restore 23 = .ok (.invokevirtual 93, 3) := by decide +kernel
theorem dX5_restore_26 : decode cX5_restore 26 = .ok (.iconst 0, 1) := by decide +kernel
theorem dX5_restore_27 : decode cX5_restore 27 = .ok (.istore_n 2, 1) := by decide +kernel
theorem dX5_restore_28 : decode cX5_restore 28 = .ok (.iload_n 2, 1) := by decide +kernel
theorem dX5_restore_29 : decode cX5_restore 29 = .ok (.bipush 67, 2) := by decide +kernel
theorem dX5_restore_31 : decode cX5_restore 31 = .ok (.if_icmp .ge 26, 3) := by decide +kernel
theorem dX5_restore_34 : decode cX5_restore 34 = .ok (.aload_n 0, 1) := by decide +kernel
theorem dX5_restore_35 : decode cX5_restore 35 = .ok (.getfield 7, 3) := by decide +kernel
theorem dX5_restore_38 : decode cX5_restore 38 = .ok (.iload_n 2, 1) := by decide +kernel
theorem dX5_restore_39 : decode cX5_restore 39 = .ok (.aload_n 0, 1) := by decide +kernel
theorem dX5_restore_40 : decode cX5_restore 40 = .ok (.getfield 19, 3) := by decide +kernel
theorem dX5_restore_43 : decode cX5_restore 43 = .ok (.bipush 67, 2) := by decide +kernel
theorem dX5_restore_45 : decode cX5_restore 45 = .ok (.iload_n 1, 1) := by decide +kernel
theorem dX5_restore_46 : decode cX5_restore 46 = .ok (.imul, 1) := by decide +kernel
theorem dX5_restore_47 : decode cX5_restore 47 = .ok (.iload_n 2, 1) := by decide +kernel
theorem dX5_restore_48 : decode cX5_restore 48 = .ok (.iadd, 1) := by decide +kernel
theorem dX5_restore_49 : decode cX5_restore 49 = .ok (.iaload, 1) := by decide +kernel
theorem dX5_restore_50 : decode cX5_restore 50 = .ok (.iastore, 1) := by decide +kernel
theorem dX5_restore_51 : decode cX5_restore 51 = .ok (.iinc 2 1, 3) := by decide +kernel
theorem dX5_restore_54 : decode cX5_restore 54 = .ok (.goto (-26), 3) := by decide +kernel
theorem dX5_restore_57 : decode cX5_restore 57 = .ok (.aload_n 0, 1) := by decide +kernel
theorem dX5_restore_58 : decode cX5_restore 58 = .ok (.getfield 7, 3) := by decide +kernel
theorem dX5_restore_61 : decode cX5_restore 61 = .ok (.iconst 5, 1) := by decide +kernel
theorem dX5_restore_62 : decode cX5_restore 62 = .ok (.iaload, 1) := by decide +kernel
theorem dX5_restore_63 : decode cX5_restore 63 = .ok (.ireturn, 1) := by decide +kernel
theorem dJ6_signum_0f7a4_0 : decode cJ6_signum_0f7a4 0 = .ok (.iload_n 0, 1) := by decide +kernel
theorem dJ6_signum_0f7a4_1 : decode cJ6_signum_0f7a4 1 = .ok (.bipush 31, 2) := by decide +kernel
theorem dJ6_signum_0f7a4_3 : decode cJ6_signum_0f7a4 3 = .ok (.ishr, 1) := by decide +kernel
theorem dJ6_signum_0f7a4_4 : decode cJ6_signum_0f7a4 4 = .ok (.iload_n 0, 1) := by decide +kernel
theorem dJ6_signum_0f7a4_5 : decode cJ6_signum_0f7a4 5 = .ok (.ineg, 1) := by decide +kernel
theorem dJ6_signum_0f7a4_6 : decode cJ6_signum_0f7a4 6 = .ok (.bipush 31, 2) := by decide +kernel
theorem dJ6_signum_0f7a4_8 : decode cJ6_signum_0f7a4 8 = .ok (.iushr, 1) := by decide +kernel
theorem dJ6_signum_0f7a4_9 : decode cJ6_signum_0f7a4 9 = .ok (.ior, 1) := by decide +kernel
theorem dJ6_signum_0f7a4_10 : decode cJ6_signum_0f7a4 10 = .ok (.ireturn, 1) := by decide +kernel
theorem dJ9_floorMod_7cf53_0 : decode cJ9_floorMod_7cf53 0 = .ok (.iload_n 0, 1) := by decide +kernel
theorem dJ9_floorMod_7cf53_1 : decode cJ9_floorMod_7cf53 1 = .ok (.iload_n 1, 1) := by decide +kernel
theorem dJ9_floorMod_7cf53_2 : decode cJ9_floorMod_7cf53 2 = .ok (.irem, 1) := by decide +kernel
theorem dJ9_floorMod_7cf53_3 : decode cJ9_floorMod_7cf53 3 = .ok (.istore_n 2, 1) := by decide +kernel
theorem dJ9_floorMod_7cf53_4 : decode cJ9_floorMod_7cf53 4 = .ok (.iload_n 0, 1) := by decide +kernel
theorem dJ9_floorMod_7cf53_5 : decode cJ9_floorMod_7cf53 5 = .ok (.iload_n 1, 1) := by decide +kernel
theorem dJ9_floorMod_7cf53_6 : decode cJ9_floorMod_7cf53 6 = .ok (.ixor, 1) := by decide +kernel
theorem dJ9_floorMod_7cf53_7 : decode cJ9_floorMod_7cf53 7 = .ok (.ifCond .ge 11, 3) := by decide +kernel
theorem dJ9_floorMod_7cf53_10 : decode cJ9_floorMod_7cf53 10 = .ok (.iload_n 2, 1) := by decide +kernel
theorem dJ9_floorMod_7cf53_11 : decode cJ9_floorMod_7cf53 11 = .ok (.ifCond .eq 7, 3) := by decide +kernel
theorem dJ9_floorMod_7cf53_14 : decode cJ9_floorMod_7cf53 14 = .ok (.iload_n 2, 1) := by decide +kernel
theorem dJ9_floorMod_7cf53_15 : decode cJ9_floorMod_7cf53 15 = .ok (.iload_n 1, 1) := by decide +kernel
theorem dJ9_floorMod_7cf53_16 : decode cJ9_floorMod_7cf53 16 = .ok (.iadd, 1) := by decide +kernel
theorem dJ9_floorMod_7cf53_17 : decode cJ9_floorMod_7cf53 17 = .ok (.ireturn, 1) := by decide +kernel
theorem dJ9_floorMod_7cf53_18 : decode cJ9_floorMod_7cf53 18 = .ok (.iload_n 2, 1) := by decide +kernel
theorem dJ9_floorMod_7cf53_19 : decode cJ9_floorMod_7cf53 19 = .ok (.ireturn, 1) := by decide +kernel
theorem dJ9_abs_0f7a4_0 : decode cJ9_abs_0f7a4 0 = .ok (.iload_n 0, 1) := by decide +kernel
theorem dJ9_abs_0f7a4_1 : decode cJ9_abs_0f7a4 1 = .ok (.ifCond .ge 8, 3) := by decide +kernel
theorem dJ9_abs_0f7a4_4 : decode cJ9_abs_0f7a4 4 = .ok (.iload_n 0, 1) := by decide +kernel
theorem dJ9_abs_0f7a4_5 : decode cJ9_abs_0f7a4 5 = .ok (.ineg, 1) := by decide +kernel
theorem dJ9_abs_0f7a4_6 : decode cJ9_abs_0f7a4 6 = .ok (.goto 4, 3) := by decide +kernel
theorem dJ9_abs_0f7a4_9 : decode cJ9_abs_0f7a4 9 = .ok (.iload_n 0, 1) := by decide +kernel
theorem dJ9_abs_0f7a4_10 : decode cJ9_abs_0f7a4 10 = .ok (.ireturn, 1) := by decide +kernel
theorem dJ9_max_7cf53_0 : decode cJ9_max_7cf53 0 = .ok (.iload_n 0, 1) := by decide +kernel
theorem dJ9_max_7cf53_1 : decode cJ9_max_7cf53 1 = .ok (.iload_n 1, 1) := by decide +kernel
theorem dJ9_max_7cf53_2 : decode cJ9_max_7cf53 2 = .ok (.if_icmp .lt 7, 3) := by decide +kernel
theorem dJ9_max_7cf53_5 : decode cJ9_max_7cf53 5 = .ok (.iload_n 0, 1) := by decide +kernel
theorem dJ9_max_7cf53_6 : decode cJ9_max_7cf53 6 = .ok (.goto 4, 3) := by decide +kernel
theorem dJ9_max_7cf53_9 : decode cJ9_max_7cf53 9 = .ok (.iload_n 1, 1) := by decide +kernel
theorem dJ9_max_7cf53_10 : decode cJ9_max_7cf53 10 = .ok (.ireturn, 1) := by decide +kernel
theorem dJ9_min_7cf53_0 : decode cJ9_min_7cf53 0 = .ok (.iload_n 0, 1) := by decide +kernel
theorem dJ9_min_7cf53_1 : decode cJ9_min_7cf53 1 = .ok (.iload_n 1, 1) := by decide +kernel
theorem dJ9_min_7cf53_2 : decode cJ9_min_7cf53 2 = .ok (.if_icmp .gt 7, 3) := by decide +kernel
theorem dJ9_min_7cf53_5 : decode cJ9_min_7cf53 5 = .ok (.iload_n 0, 1) := by decide +kernel
theorem dJ9_min_7cf53_6 : decode cJ9_min_7cf53 6 = .ok (.goto 4, 3) := by decide +kernel
theorem dJ9_min_7cf53_9 : decode cJ9_min_7cf53 9 = .ok (.iload_n 1, 1) := by decide +kernel
theorem dJ9_min_7cf53_10 : decode cJ9_min_7cf53 10 = .ok (.ireturn, 1) := by decide +kernel
theorem dL_law_0 : decode cL_law 0 = .ok (.new 7, 3) := by decide +kernel
theorem dL_law_3 : decode cL_law 3 = .ok (.dup, 1) := by decide +kernel
theorem dL_law_4 : decode cL_law 4 = .ok (.invokespecial 9, 3) := by decide +kernel
theorem dL_law_7 : decode cL_law 7 = .ok (.astore_n 1, 1) := by decide +kernel
theorem dL_law_8 : decode cL_law 8 = .ok (.new 10, 3) := by decide +kernel
theorem dL_law_11 : decode cL_law 11 = .ok (.dup, 1) := by decide +kernel
theorem dL_law_12 : decode cL_law 12 = .ok (.invokespecial 12, 3) := by decide +kernel
theorem dL_law_15 : decode cL_law 15 = .ok (.astore_n 2, 1) := by decide +kernel
theorem dL_law_16 : decode cL_law 16 = .ok (.iconst 0, 1) := by decide +kernel
theorem dL_law_17 : decode cL_law 17 = .ok (.istore_n 3, 1) := by decide +kernel
theorem dL_law_18 : decode cL_law 18 = .ok (.iload_n 3, 1) := by decide +kernel
theorem dL_law_19 : decode cL_law 19 = .ok (.aload_n 0, 1) := by decide +kernel
theorem dL_law_20 : decode cL_law 20 = .ok (.arraylength, 1) := by decide +kernel
theorem dL_law_21 : decode cL_law 21 = .ok (.iconst 4, 1) := by decide +kernel
theorem dL_law_22 : decode cL_law 22 = .ok (.isub, 1) := by decide +kernel
theorem dL_law_23 : decode cL_law 23 = .ok (.if_icmp .gt 628, 3) := by decide +kernel
theorem dL_law_26 : decode cL_law 26 = .ok (.aload_n 0, 1) := by decide +kernel
theorem dL_law_27 : decode cL_law 27 = .ok (.iload_n 3, 1) := by decide +kernel
theorem dL_law_28 : decode cL_law 28 = .ok (.iaload, 1) := by decide +kernel
theorem dL_law_29 : decode cL_law 29 = .ok (.bipush 31, 2) := by decide +kernel
theorem dL_law_31 : decode cL_law 31 = .ok (.iand, 1) := by decide +kernel
theorem dL_law_32 : decode cL_law 32 = .ok (.tableswitch 613 0 20 #[100, 133, 176, 199, 212, 235, 248, 281, 314, 347, 380, 403, 416, 449, 462, 475, 528, 541, 554, 567, 590], 100) := by decide +kernel
theorem dL_law_132 : decode cL_law 132 = .ok (.aload_n 1, 1) := by decide +kernel
theorem dL_law_133 : decode cL_law 133 = .ok (.aload_n 0, 1) := by decide +kernel
theorem dL_law_134 : decode cL_law 134 = .ok (.iload_n 3, 1) := by decide +kernel
theorem dL_law_135 : decode cL_law 135 = .ok (.iconst 1, 1) := by decide +kernel
theorem dL_law_136 : decode cL_law 136 = .ok (.iadd, 1) := by decide +kernel
theorem dL_law_137 : decode cL_law 137 = .ok (.iaload, 1) := by decide +kernel
theorem dL_law_138 : decode cL_law 138 = .ok (.aload_n 0, 1) := by decide +kernel
theorem dL_law_139 : decode cL_law 139 = .ok (.iload_n 3, 1) := by decide +kernel
theorem dL_law_140 : decode cL_law 140 = .ok (.iconst 2, 1) := by decide +kernel
theorem dL_law_141 : decode cL_law 141 = .ok (.iadd, 1) := by decide +kernel
theorem dL_law_142 : decode cL_law 142 = .ok (.iaload, 1) := by decide +kernel
theorem dL_law_143 : decode cL_law 143 = .ok (.invokevirtual 13, 3) := by decide +kernel
theorem dL_law_146 : decode cL_law 146 = .ok (.aload_n 2, 1) := by decide +kernel
theorem dL_law_147 : decode cL_law 147 = .ok (.aload_n 0, 1) := by decide +kernel
theorem dL_law_148 : decode cL_law 148 = .ok (.iload_n 3, 1) := by decide +kernel
theorem dL_law_149 : decode cL_law 149 = .ok (.iconst 1, 1) := by decide +kernel
theorem dL_law_150 : decode cL_law 150 = .ok (.iadd, 1) := by decide +kernel
theorem dL_law_151 : decode cL_law 151 = .ok (.iaload, 1) := by decide +kernel
theorem dL_law_152 : decode cL_law 152 = .ok (.aload_n 0, 1) := by decide +kernel
theorem dL_law_153 : decode cL_law 153 = .ok (.iload_n 3, 1) := by decide +kernel
theorem dL_law_154 : decode cL_law 154 = .ok (.iconst 2, 1) := by decide +kernel
theorem dL_law_155 : decode cL_law 155 = .ok (.iadd, 1) := by decide +kernel
theorem dL_law_156 : decode cL_law 156 = .ok (.iaload, 1) := by decide +kernel
theorem dL_law_157 : decode cL_law 157 = .ok (.invokevirtual 17, 3) := by decide +kernel
theorem dL_law_160 : decode cL_law 160 = .ok (.if_icmp .eq 485, 3) := by decide +kernel
theorem dL_law_163 : decode cL_law 163 = .ok (.iconst 0, 1) := by decide +kernel
theorem dL_law_164 : decode cL_law 164 = .ok (.ireturn, 1) := by decide +kernel
theorem dL_law_165 : decode cL_law 165 = .ok (.aload_n 1, 1) := by decide +kernel
theorem dL_law_166 : decode cL_law 166 = .ok (.aload_n 0, 1) := by decide +kernel
theorem dL_law_167 : decode cL_law 167 = .ok (.iload_n 3, 1) := by decide +kernel
theorem dL_law_168 : decode cL_law 168 = .ok (.iconst 1, 1) := by decide +kernel
theorem dL_law_169 : decode cL_law 169 = .ok (.iadd, 1) := by decide +kernel
theorem dL_law_170 : decode cL_law 170 = .ok (.iaload, 1) := by decide +kernel
theorem dL_law_171 : decode cL_law 171 = .ok (.aload_n 0, 1) := by decide +kernel
theorem dL_law_172 : decode cL_law 172 = .ok (.iload_n 3, 1) := by decide +kernel
theorem dL_law_173 : decode cL_law 173 = .ok (.iconst 2, 1) := by decide +kernel
theorem dL_law_174 : decode cL_law 174 = .ok (.iadd, 1) := by decide +kernel
theorem dL_law_175 : decode cL_law 175 = .ok (.iaload, 1) := by decide +kernel
theorem dL_law_176 : decode cL_law 176 = .ok (.aload_n 0, 1) := by decide +kernel
theorem dL_law_177 : decode cL_law 177 = .ok (.iload_n 3, 1) := by decide +kernel
theorem dL_law_178 : decode cL_law 178 = .ok (.iconst 3, 1) := by decide +kernel
theorem dL_law_179 : decode cL_law 179 = .ok (.iadd, 1) := by decide +kernel
theorem dL_law_180 : decode cL_law 180 = .ok (.iaload, 1) := by decide +kernel
theorem dL_law_181 : decode cL_law 181 = .ok (.invokevirtual 18, 3) := by decide +kernel
theorem dL_law_184 : decode cL_law 184 = .ok (.aload_n 2, 1) := by decide +kernel
theorem dL_law_185 : decode cL_law 185 = .ok (.aload_n 0, 1) := by decide +kernel
theorem dL_law_186 : decode cL_law 186 = .ok (.iload_n 3, 1) := by decide +kernel
theorem dL_law_187 : decode cL_law 187 = .ok (.iconst 1, 1) := by decide +kernel
theorem dL_law_188 : decode cL_law 188 = .ok (.iadd, 1) := by decide +kernel
theorem dL_law_189 : decode cL_law 189 = .ok (.iaload, 1) := by decide +kernel
theorem dL_law_190 : decode cL_law 190 = .ok (.aload_n 0, 1) := by decide +kernel
theorem dL_law_191 : decode cL_law 191 = .ok (.iload_n 3, 1) := by decide +kernel
theorem dL_law_192 : decode cL_law 192 = .ok (.iconst 2, 1) := by decide +kernel
theorem dL_law_193 : decode cL_law 193 = .ok (.iadd, 1) := by decide +kernel
theorem dL_law_194 : decode cL_law 194 = .ok (.iaload, 1) := by decide +kernel
theorem dL_law_195 : decode cL_law 195 = .ok (.aload_n 0, 1) := by decide +kernel
theorem dL_law_196 : decode cL_law 196 = .ok (.iload_n 3, 1) := by decide +kernel
theorem dL_law_197 : decode cL_law 197 = .ok (.iconst 3, 1) := by decide +kernel
theorem dL_law_198 : decode cL_law 198 = .ok (.iadd, 1) := by decide +kernel
theorem dL_law_199 : decode cL_law 199 = .ok (.iaload, 1) := by decide +kernel
theorem dL_law_200 : decode cL_law 200 = .ok (.invokevirtual 22, 3) := by decide +kernel
theorem dL_law_203 : decode cL_law 203 = .ok (.if_icmp .eq 442, 3) := by decide +kernel
theorem dL_law_206 : decode cL_law 206 = .ok (.iconst 0, 1) := by decide +kernel
theorem dL_law_207 : decode cL_law 207 = .ok (.ireturn, 1) := by decide +kernel
theorem dL_law_208 : decode cL_law 208 = .ok (.aload_n 1, 1) := by decide +kernel
theorem dL_law_209 : decode cL_law 209 = .ok (.aload_n 0, 1) := by decide +kernel
theorem dL_law_210 : decode cL_law 210 = .ok (.iload_n 3, 1) := by decide +kernel
theorem dL_law_211 : decode cL_law 211 = .ok (.iconst 1, 1) := by decide +kernel
theorem dL_law_212 : decode cL_law 212 = .ok (.iadd, 1) := by decide +kernel
theorem dL_law_213 : decode cL_law 213 = .ok (.iaload, 1) := by decide +kernel
theorem dL_law_214 : decode cL_law 214 = .ok (.invokevirtual 23, 3) := by decide +kernel
theorem dL_law_217 : decode cL_law 217 = .ok (.aload_n 2, 1) := by decide +kernel
theorem dL_law_218 : decode cL_law 218 = .ok (.aload_n 0, 1) := by decide +kernel
theorem dL_law_219 : decode cL_law 219 = .ok (.iload_n 3, 1) := by decide +kernel
theorem dL_law_220 : decode cL_law 220 = .ok (.iconst 1, 1) := by decide +kernel
theorem dL_law_221 : decode cL_law 221 = .ok (.iadd, 1) := by decide +kernel
theorem dL_law_222 : decode cL_law 222 = .ok (.iaload, 1) := by decide +kernel
theorem dL_law_223 : decode cL_law 223 = .ok (.invokevirtual 27, 3) := by decide +kernel
theorem dL_law_226 : decode cL_law 226 = .ok (.if_icmp .eq 419, 3) := by decide +kernel
theorem dL_law_229 : decode cL_law 229 = .ok (.iconst 0, 1) := by decide +kernel
theorem dL_law_230 : decode cL_law 230 = .ok (.ireturn, 1) := by decide +kernel
theorem dL_law_231 : decode cL_law 231 = .ok (.aload_n 1, 1) := by decide +kernel
theorem dL_law_232 : decode cL_law 232 = .ok (.invokevirtual 28, 3) := by decide +kernel
theorem dL_law_235 : decode cL_law 235 = .ok (.aload_n 2, 1) := by decide +kernel
theorem dL_law_236 : decode cL_law 236 = .ok (.invokevirtual 32, 3) := by decide +kernel
theorem dL_law_239 : decode cL_law 239 = .ok (.if_icmp .eq 406, 3) := by decide +kernel
theorem dL_law_242 : decode cL_law 242 = .ok (.iconst 0, 1) := by decide +kernel
theorem dL_law_243 : decode cL_law 243 = .ok (.ireturn, 1) := by decide +kernel
theorem dL_law_244 : decode cL_law 244 = .ok (.aload_n 1, 1) := by decide +kernel
theorem dL_law_245 : decode cL_law 245 = .ok (.aload_n 0, 1) := by decide +kernel
theorem dL_law_246 : decode cL_law 246 = .ok (.iload_n 3, 1) := by decide +kernel
theorem dL_law_247 : decode cL_law 247 = .ok (.iconst 1, 1) := by decide +kernel
theorem dL_law_248 : decode cL_law 248 = .ok (.iadd, 1) := by decide +kernel
theorem dL_law_249 : decode cL_law 249 = .ok (.iaload, 1) := by decide +kernel
theorem dL_law_250 : decode cL_law 250 = .ok (.invokevirtual 33, 3) := by decide +kernel
theorem dL_law_253 : decode cL_law 253 = .ok (.aload_n 2, 1) := by decide +kernel
theorem dL_law_254 : decode cL_law 254 = .ok (.aload_n 0, 1) := by decide +kernel
theorem dL_law_255 : decode cL_law 255 = .ok (.iload_n 3, 1) := by decide +kernel
theorem dL_law_256 : decode cL_law 256 = .ok (.iconst 1, 1) := by decide +kernel
theorem dL_law_257 : decode cL_law 257 = .ok (.iadd, 1) := by decide +kernel
theorem dL_law_258 : decode cL_law 258 = .ok (.iaload, 1) := by decide +kernel
theorem dL_law_259 : decode cL_law 259 = .ok (.invokevirtual 36, 3) := by decide +kernel
theorem dL_law_262 : decode cL_law 262 = .ok (.if_icmp .eq 383, 3) := by decide +kernel
theorem dL_law_265 : decode cL_law 265 = .ok (.iconst 0, 1) := by decide +kernel
theorem dL_law_266 : decode cL_law 266 = .ok (.ireturn, 1) := by decide +kernel
theorem dL_law_267 : decode cL_law 267 = .ok (.aload_n 1, 1) := by decide +kernel
theorem dL_law_268 : decode cL_law 268 = .ok (.invokevirtual 37, 3) := by decide +kernel
theorem dL_law_271 : decode cL_law 271 = .ok (.aload_n 2, 1) := by decide +kernel
theorem dL_law_272 : decode cL_law 272 = .ok (.invokevirtual 40, 3) := by decide +kernel
theorem dL_law_275 : decode cL_law 275 = .ok (.if_icmp .eq 370, 3) := by decide +kernel
theorem dL_law_278 : decode cL_law 278 = .ok (.iconst 0, 1) := by decide +kernel
theorem dL_law_279 : decode cL_law 279 = .ok (.ireturn, 1) := by decide +kernel
theorem dL_law_280 : decode cL_law 280 = .ok (.aload_n 1, 1) := by decide +kernel
theorem dL_law_281 : decode cL_law 281 = .ok (.aload_n 0, 1) := by decide +kernel
theorem dL_law_282 : decode cL_law 282 = .ok (.iload_n 3, 1) := by decide +kernel
theorem dL_law_283 : decode cL_law 283 = .ok (.iconst 1, 1) := by decide +kernel
theorem dL_law_284 : decode cL_law 284 = .ok (.iadd, 1) := by decide +kernel
theorem dL_law_285 : decode cL_law 285 = .ok (.iaload, 1) := by decide +kernel
theorem dL_law_286 : decode cL_law 286 = .ok (.aload_n 0, 1) := by decide +kernel
theorem dL_law_287 : decode cL_law 287 = .ok (.iload_n 3, 1) := by decide +kernel
theorem dL_law_288 : decode cL_law 288 = .ok (.iconst 2, 1) := by decide +kernel
theorem dL_law_289 : decode cL_law 289 = .ok (.iadd, 1) := by decide +kernel
theorem dL_law_290 : decode cL_law 290 = .ok (.iaload, 1) := by decide +kernel
theorem dL_law_291 : decode cL_law 291 = .ok (.invokevirtual 41, 3) := by decide +kernel
theorem dL_law_294 : decode cL_law 294 = .ok (.aload_n 2, 1) := by decide +kernel
theorem dL_law_295 : decode cL_law 295 = .ok (.aload_n 0, 1) := by decide +kernel
theorem dL_law_296 : decode cL_law 296 = .ok (.iload_n 3, 1) := by decide +kernel
theorem dL_law_297 : decode cL_law 297 = .ok (.iconst 1, 1) := by decide +kernel
theorem dL_law_298 : decode cL_law 298 = .ok (.iadd, 1) := by decide +kernel
theorem dL_law_299 : decode cL_law 299 = .ok (.iaload, 1) := by decide +kernel
theorem dL_law_300 : decode cL_law 300 = .ok (.aload_n 0, 1) := by decide +kernel
theorem dL_law_301 : decode cL_law 301 = .ok (.iload_n 3, 1) := by decide +kernel
theorem dL_law_302 : decode cL_law 302 = .ok (.iconst 2, 1) := by decide +kernel
theorem dL_law_303 : decode cL_law 303 = .ok (.iadd, 1) := by decide +kernel
theorem dL_law_304 : decode cL_law 304 = .ok (.iaload, 1) := by decide +kernel
theorem dL_law_305 : decode cL_law 305 = .ok (.invokevirtual 44, 3) := by decide +kernel
theorem dL_law_308 : decode cL_law 308 = .ok (.if_icmp .eq 337, 3) := by decide +kernel
theorem dL_law_311 : decode cL_law 311 = .ok (.iconst 0, 1) := by decide +kernel
theorem dL_law_312 : decode cL_law 312 = .ok (.ireturn, 1) := by decide +kernel
theorem dL_law_313 : decode cL_law 313 = .ok (.aload_n 1, 1) := by decide +kernel
theorem dL_law_314 : decode cL_law 314 = .ok (.aload_n 0, 1) := by decide +kernel
theorem dL_law_315 : decode cL_law 315 = .ok (.iload_n 3, 1) := by decide +kernel
theorem dL_law_316 : decode cL_law 316 = .ok (.iconst 1, 1) := by decide +kernel
theorem dL_law_317 : decode cL_law 317 = .ok (.iadd, 1) := by decide +kernel
theorem dL_law_318 : decode cL_law 318 = .ok (.iaload, 1) := by decide +kernel
theorem dL_law_319 : decode cL_law 319 = .ok (.aload_n 0, 1) := by decide +kernel
theorem dL_law_320 : decode cL_law 320 = .ok (.iload_n 3, 1) := by decide +kernel
theorem dL_law_321 : decode cL_law 321 = .ok (.iconst 2, 1) := by decide +kernel
theorem dL_law_322 : decode cL_law 322 = .ok (.iadd, 1) := by decide +kernel
theorem dL_law_323 : decode cL_law 323 = .ok (.iaload, 1) := by decide +kernel
theorem dL_law_324 : decode cL_law 324 = .ok (.invokevirtual 45, 3) := by decide +kernel
theorem dL_law_327 : decode cL_law 327 = .ok (.aload_n 2, 1) := by decide +kernel
theorem dL_law_328 : decode cL_law 328 = .ok (.aload_n 0, 1) := by decide +kernel
theorem dL_law_329 : decode cL_law 329 = .ok (.iload_n 3, 1) := by decide +kernel
theorem dL_law_330 : decode cL_law 330 = .ok (.iconst 1, 1) := by decide +kernel
theorem dL_law_331 : decode cL_law 331 = .ok (.iadd, 1) := by decide +kernel
theorem dL_law_332 : decode cL_law 332 = .ok (.iaload, 1) := by decide +kernel
theorem dL_law_333 : decode cL_law 333 = .ok (.aload_n 0, 1) := by decide +kernel
theorem dL_law_334 : decode cL_law 334 = .ok (.iload_n 3, 1) := by decide +kernel
theorem dL_law_335 : decode cL_law 335 = .ok (.iconst 2, 1) := by decide +kernel
theorem dL_law_336 : decode cL_law 336 = .ok (.iadd, 1) := by decide +kernel
theorem dL_law_337 : decode cL_law 337 = .ok (.iaload, 1) := by decide +kernel
theorem dL_law_338 : decode cL_law 338 = .ok (.invokevirtual 48, 3) := by decide +kernel
theorem dL_law_341 : decode cL_law 341 = .ok (.if_icmp .eq 304, 3) := by decide +kernel
theorem dL_law_344 : decode cL_law 344 = .ok (.iconst 0, 1) := by decide +kernel
theorem dL_law_345 : decode cL_law 345 = .ok (.ireturn, 1) := by decide +kernel
theorem dL_law_346 : decode cL_law 346 = .ok (.aload_n 1, 1) := by decide +kernel
theorem dL_law_347 : decode cL_law 347 = .ok (.aload_n 0, 1) := by decide +kernel
theorem dL_law_348 : decode cL_law 348 = .ok (.iload_n 3, 1) := by decide +kernel
theorem dL_law_349 : decode cL_law 349 = .ok (.iconst 1, 1) := by decide +kernel
theorem dL_law_350 : decode cL_law 350 = .ok (.iadd, 1) := by decide +kernel
theorem dL_law_351 : decode cL_law 351 = .ok (.iaload, 1) := by decide +kernel
theorem dL_law_352 : decode cL_law 352 = .ok (.aload_n 0, 1) := by decide +kernel
theorem dL_law_353 : decode cL_law 353 = .ok (.iload_n 3, 1) := by decide +kernel
theorem dL_law_354 : decode cL_law 354 = .ok (.iconst 2, 1) := by decide +kernel
theorem dL_law_355 : decode cL_law 355 = .ok (.iadd, 1) := by decide +kernel
theorem dL_law_356 : decode cL_law 356 = .ok (.iaload, 1) := by decide +kernel
theorem dL_law_357 : decode cL_law 357 = .ok (.invokevirtual 49, 3) := by decide +kernel
theorem dL_law_360 : decode cL_law 360 = .ok (.aload_n 2, 1) := by decide +kernel
theorem dL_law_361 : decode cL_law 361 = .ok (.aload_n 0, 1) := by decide +kernel
theorem dL_law_362 : decode cL_law 362 = .ok (.iload_n 3, 1) := by decide +kernel
theorem dL_law_363 : decode cL_law 363 = .ok (.iconst 1, 1) := by decide +kernel
theorem dL_law_364 : decode cL_law 364 = .ok (.iadd, 1) := by decide +kernel
theorem dL_law_365 : decode cL_law 365 = .ok (.iaload, 1) := by decide +kernel
theorem dL_law_366 : decode cL_law 366 = .ok (.aload_n 0, 1) := by decide +kernel
theorem dL_law_367 : decode cL_law 367 = .ok (.iload_n 3, 1) := by decide +kernel
theorem dL_law_368 : decode cL_law 368 = .ok (.iconst 2, 1) := by decide +kernel
theorem dL_law_369 : decode cL_law 369 = .ok (.iadd, 1) := by decide +kernel
theorem dL_law_370 : decode cL_law 370 = .ok (.iaload, 1) := by decide +kernel
theorem dL_law_371 : decode cL_law 371 = .ok (.invokevirtual 52, 3) := by decide +kernel
theorem dL_law_374 : decode cL_law 374 = .ok (.if_icmp .eq 271, 3) := by decide +kernel
theorem dL_law_377 : decode cL_law 377 = .ok (.iconst 0, 1) := by decide +kernel
theorem dL_law_378 : decode cL_law 378 = .ok (.ireturn, 1) := by decide +kernel
theorem dL_law_379 : decode cL_law 379 = .ok (.aload_n 1, 1) := by decide +kernel
theorem dL_law_380 : decode cL_law 380 = .ok (.aload_n 0, 1) := by decide +kernel
theorem dL_law_381 : decode cL_law 381 = .ok (.iload_n 3, 1) := by decide +kernel
theorem dL_law_382 : decode cL_law 382 = .ok (.iconst 1, 1) := by decide +kernel
theorem dL_law_383 : decode cL_law 383 = .ok (.iadd, 1) := by decide +kernel
theorem dL_law_384 : decode cL_law 384 = .ok (.iaload, 1) := by decide +kernel
theorem dL_law_385 : decode cL_law 385 = .ok (.aload_n 0, 1) := by decide +kernel
theorem dL_law_386 : decode cL_law 386 = .ok (.iload_n 3, 1) := by decide +kernel
theorem dL_law_387 : decode cL_law 387 = .ok (.iconst 2, 1) := by decide +kernel
theorem dL_law_388 : decode cL_law 388 = .ok (.iadd, 1) := by decide +kernel
theorem dL_law_389 : decode cL_law 389 = .ok (.iaload, 1) := by decide +kernel
theorem dL_law_390 : decode cL_law 390 = .ok (.invokevirtual 53, 3) := by decide +kernel
theorem dL_law_393 : decode cL_law 393 = .ok (.aload_n 2, 1) := by decide +kernel
theorem dL_law_394 : decode cL_law 394 = .ok (.aload_n 0, 1) := by decide +kernel
theorem dL_law_395 : decode cL_law 395 = .ok (.iload_n 3, 1) := by decide +kernel
theorem dL_law_396 : decode cL_law 396 = .ok (.iconst 1, 1) := by decide +kernel
theorem dL_law_397 : decode cL_law 397 = .ok (.iadd, 1) := by decide +kernel
theorem dL_law_398 : decode cL_law 398 = .ok (.iaload, 1) := by decide +kernel
theorem dL_law_399 : decode cL_law 399 = .ok (.aload_n 0, 1) := by decide +kernel
theorem dL_law_400 : decode cL_law 400 = .ok (.iload_n 3, 1) := by decide +kernel
theorem dL_law_401 : decode cL_law 401 = .ok (.iconst 2, 1) := by decide +kernel
theorem dL_law_402 : decode cL_law 402 = .ok (.iadd, 1) := by decide +kernel
theorem dL_law_403 : decode cL_law 403 = .ok (.iaload, 1) := by decide +kernel
theorem dL_law_404 : decode cL_law 404 = .ok (.invokevirtual 56, 3) := by decide +kernel
theorem dL_law_407 : decode cL_law 407 = .ok (.if_icmp .eq 238, 3) := by decide +kernel
theorem dL_law_410 : decode cL_law 410 = .ok (.iconst 0, 1) := by decide +kernel
theorem dL_law_411 : decode cL_law 411 = .ok (.ireturn, 1) := by decide +kernel
theorem dL_law_412 : decode cL_law 412 = .ok (.aload_n 1, 1) := by decide +kernel
theorem dL_law_413 : decode cL_law 413 = .ok (.aload_n 0, 1) := by decide +kernel
theorem dL_law_414 : decode cL_law 414 = .ok (.iload_n 3, 1) := by decide +kernel
theorem dL_law_415 : decode cL_law 415 = .ok (.iconst 1, 1) := by decide +kernel
theorem dL_law_416 : decode cL_law 416 = .ok (.iadd, 1) := by decide +kernel
theorem dL_law_417 : decode cL_law 417 = .ok (.iaload, 1) := by decide +kernel
theorem dL_law_418 : decode cL_law 418 = .ok (.invokevirtual 57, 3) := by decide +kernel
theorem dL_law_421 : decode cL_law 421 = .ok (.aload_n 2, 1) := by decide +kernel
theorem dL_law_422 : decode cL_law 422 = .ok (.aload_n 0, 1) := by decide +kernel
theorem dL_law_423 : decode cL_law 423 = .ok (.iload_n 3, 1) := by decide +kernel
theorem dL_law_424 : decode cL_law 424 = .ok (.iconst 1, 1) := by decide +kernel
theorem dL_law_425 : decode cL_law 425 = .ok (.iadd, 1) := by decide +kernel
theorem dL_law_426 : decode cL_law 426 = .ok (.iaload, 1) := by decide +kernel
theorem dL_law_427 : decode cL_law 427 = .ok (.invokevirtual 60, 3) := by decide +kernel
theorem dL_law_430 : decode cL_law 430 = .ok (.if_icmp .eq 215, 3) := by decide +kernel
theorem dL_law_433 : decode cL_law 433 = .ok (.iconst 0, 1) := by decide +kernel
theorem dL_law_434 : decode cL_law 434 = .ok (.ireturn, 1) := by decide +kernel
theorem dL_law_435 : decode cL_law 435 = .ok (.aload_n 1, 1) := by decide +kernel
theorem dL_law_436 : decode cL_law 436 = .ok (.invokevirtual 61, 3) := by decide +kernel
theorem dL_law_439 : decode cL_law 439 = .ok (.aload_n 2, 1) := by decide +kernel
theorem dL_law_440 : decode cL_law 440 = .ok (.invokevirtual 64, 3) := by decide +kernel
theorem dL_law_443 : decode cL_law 443 = .ok (.if_icmp .eq 202, 3) := by decide +kernel
theorem dL_law_446 : decode cL_law 446 = .ok (.iconst 0, 1) := by decide +kernel
theorem dL_law_447 : decode cL_law 447 = .ok (.ireturn, 1) := by decide +kernel
theorem dL_law_448 : decode cL_law 448 = .ok (.aload_n 1, 1) := by decide +kernel
theorem dL_law_449 : decode cL_law 449 = .ok (.aload_n 0, 1) := by decide +kernel
theorem dL_law_450 : decode cL_law 450 = .ok (.iload_n 3, 1) := by decide +kernel
theorem dL_law_451 : decode cL_law 451 = .ok (.iconst 1, 1) := by decide +kernel
theorem dL_law_452 : decode cL_law 452 = .ok (.iadd, 1) := by decide +kernel
theorem dL_law_453 : decode cL_law 453 = .ok (.iaload, 1) := by decide +kernel
theorem dL_law_454 : decode cL_law 454 = .ok (.aload_n 0, 1) := by decide +kernel
theorem dL_law_455 : decode cL_law 455 = .ok (.iload_n 3, 1) := by decide +kernel
theorem dL_law_456 : decode cL_law 456 = .ok (.iconst 2, 1) := by decide +kernel
theorem dL_law_457 : decode cL_law 457 = .ok (.iadd, 1) := by decide +kernel
theorem dL_law_458 : decode cL_law 458 = .ok (.iaload, 1) := by decide +kernel
theorem dL_law_459 : decode cL_law 459 = .ok (.invokevirtual 65, 3) := by decide +kernel
theorem dL_law_462 : decode cL_law 462 = .ok (.aload_n 2, 1) := by decide +kernel
theorem dL_law_463 : decode cL_law 463 = .ok (.aload_n 0, 1) := by decide +kernel
theorem dL_law_464 : decode cL_law 464 = .ok (.iload_n 3, 1) := by decide +kernel
theorem dL_law_465 : decode cL_law 465 = .ok (.iconst 1, 1) := by decide +kernel
theorem dL_law_466 : decode cL_law 466 = .ok (.iadd, 1) := by decide +kernel
theorem dL_law_467 : decode cL_law 467 = .ok (.iaload, 1) := by decide +kernel
theorem dL_law_468 : decode cL_law 468 = .ok (.aload_n 0, 1) := by decide +kernel
theorem dL_law_469 : decode cL_law 469 = .ok (.iload_n 3, 1) := by decide +kernel
theorem dL_law_470 : decode cL_law 470 = .ok (.iconst 2, 1) := by decide +kernel
theorem dL_law_471 : decode cL_law 471 = .ok (.iadd, 1) := by decide +kernel
theorem dL_law_472 : decode cL_law 472 = .ok (.iaload, 1) := by decide +kernel
theorem dL_law_473 : decode cL_law 473 = .ok (.invokevirtual 68, 3) := by decide +kernel
theorem dL_law_476 : decode cL_law 476 = .ok (.if_icmp .eq 169, 3) := by decide +kernel
theorem dL_law_479 : decode cL_law 479 = .ok (.iconst 0, 1) := by decide +kernel
theorem dL_law_480 : decode cL_law 480 = .ok (.ireturn, 1) := by decide +kernel
theorem dL_law_481 : decode cL_law 481 = .ok (.aload_n 1, 1) := by decide +kernel
theorem dL_law_482 : decode cL_law 482 = .ok (.invokevirtual 69, 3) := by decide +kernel
theorem dL_law_485 : decode cL_law 485 = .ok (.aload_n 2, 1) := by decide +kernel
theorem dL_law_486 : decode cL_law 486 = .ok (.invokevirtual 72, 3) := by decide +kernel
theorem dL_law_489 : decode cL_law 489 = .ok (.if_icmp .eq 156, 3) := by decide +kernel
theorem dL_law_492 : decode cL_law 492 = .ok (.iconst 0, 1) := by decide +kernel
theorem dL_law_493 : decode cL_law 493 = .ok (.ireturn, 1) := by decide +kernel
theorem dL_law_494 : decode cL_law 494 = .ok (.aload_n 1, 1) := by decide +kernel
theorem dL_law_495 : decode cL_law 495 = .ok (.invokevirtual 73, 3) := by decide +kernel
theorem dL_law_498 : decode cL_law 498 = .ok (.aload_n 2, 1) := by decide +kernel
theorem dL_law_499 : decode cL_law 499 = .ok (.invokevirtual 76, 3) := by decide +kernel
theorem dL_law_502 : decode cL_law 502 = .ok (.if_icmp .eq 143, 3) := by decide +kernel
theorem dL_law_505 : decode cL_law 505 = .ok (.iconst 0, 1) := by decide +kernel
theorem dL_law_506 : decode cL_law 506 = .ok (.ireturn, 1) := by decide +kernel
theorem dL_law_507 : decode cL_law 507 = .ok (.aload_n 1, 1) := by decide +kernel
theorem dL_law_508 : decode cL_law 508 = .ok (.aload_n 0, 1) := by decide +kernel
theorem dL_law_509 : decode cL_law 509 = .ok (.iload_n 3, 1) := by decide +kernel
theorem dL_law_510 : decode cL_law 510 = .ok (.iconst 1, 1) := by decide +kernel
theorem dL_law_511 : decode cL_law 511 = .ok (.iadd, 1) := by decide +kernel
theorem dL_law_512 : decode cL_law 512 = .ok (.iaload, 1) := by decide +kernel
theorem dL_law_513 : decode cL_law 513 = .ok (.i2l, 1) := by decide +kernel
theorem dL_law_514 : decode cL_law 514 = .ok (.bipush 32, 2) := by decide +kernel
theorem dL_law_516 : decode cL_law 516 = .ok (.lshl, 1) := by decide +kernel
theorem dL_law_517 : decode cL_law 517 = .ok (.aload_n 0, 1) := by decide +kernel
theorem dL_law_518 : decode cL_law 518 = .ok (.iload_n 3, 1) := by decide +kernel
theorem dL_law_519 : decode cL_law 519 = .ok (.iconst 2, 1) := by decide +kernel
theorem dL_law_520 : decode cL_law 520 = .ok (.iadd, 1) := by decide +kernel
theorem dL_law_521 : decode cL_law 521 = .ok (.iaload, 1) := by decide +kernel
theorem dL_law_522 : decode cL_law 522 = .ok (.i2l, 1) := by decide +kernel
theorem dL_law_523 : decode cL_law 523 = .ok (.ldc2_w 77, 3) := by decide +kernel
theorem dL_law_526 : decode cL_law 526 = .ok (.land, 1) := by decide +kernel
theorem dL_law_527 : decode cL_law 527 = .ok (.lor, 1) := by decide +kernel
theorem dL_law_528 : decode cL_law 528 = .ok (.invokevirtual 79, 3) := by decide +kernel
theorem dL_law_531 : decode cL_law 531 = .ok (.aload_n 2, 1) := by decide +kernel
theorem dL_law_532 : decode cL_law 532 = .ok (.aload_n 0, 1) := by decide +kernel
theorem dL_law_533 : decode cL_law 533 = .ok (.iload_n 3, 1) := by decide +kernel
theorem dL_law_534 : decode cL_law 534 = .ok (.iconst 1, 1) := by decide +kernel
theorem dL_law_535 : decode cL_law 535 = .ok (.iadd, 1) := by decide +kernel
theorem dL_law_536 : decode cL_law 536 = .ok (.iaload, 1) := by decide +kernel
theorem dL_law_537 : decode cL_law 537 = .ok (.i2l, 1) := by decide +kernel
theorem dL_law_538 : decode cL_law 538 = .ok (.bipush 32, 2) := by decide +kernel
theorem dL_law_540 : decode cL_law 540 = .ok (.lshl, 1) := by decide +kernel
theorem dL_law_541 : decode cL_law 541 = .ok (.aload_n 0, 1) := by decide +kernel
theorem dL_law_542 : decode cL_law 542 = .ok (.iload_n 3, 1) := by decide +kernel
theorem dL_law_543 : decode cL_law 543 = .ok (.iconst 2, 1) := by decide +kernel
theorem dL_law_544 : decode cL_law 544 = .ok (.iadd, 1) := by decide +kernel
theorem dL_law_545 : decode cL_law 545 = .ok (.iaload, 1) := by decide +kernel
theorem dL_law_546 : decode cL_law 546 = .ok (.i2l, 1) := by decide +kernel
theorem dL_law_547 : decode cL_law 547 = .ok (.ldc2_w 77, 3) := by decide +kernel
theorem dL_law_550 : decode cL_law 550 = .ok (.land, 1) := by decide +kernel
theorem dL_law_551 : decode cL_law 551 = .ok (.lor, 1) := by decide +kernel
theorem dL_law_552 : decode cL_law 552 = .ok (.invokevirtual 83, 3) := by decide +kernel
theorem dL_law_555 : decode cL_law 555 = .ok (.if_icmp .eq 90, 3) := by decide +kernel
theorem dL_law_558 : decode cL_law 558 = .ok (.iconst 0, 1) := by decide +kernel
theorem dL_law_559 : decode cL_law 559 = .ok (.ireturn, 1) := by decide +kernel
theorem dL_law_560 : decode cL_law 560 = .ok (.aload_n 1, 1) := by decide +kernel
theorem dL_law_561 : decode cL_law 561 = .ok (.invokevirtual 84, 3) := by decide +kernel
theorem dL_law_564 : decode cL_law 564 = .ok (.aload_n 2, 1) := by decide +kernel
theorem dL_law_565 : decode cL_law 565 = .ok (.invokevirtual 87, 3) := by decide +kernel
theorem dL_law_568 : decode cL_law 568 = .ok (.if_icmp .eq 77, 3) := by decide +kernel
theorem dL_law_571 : decode cL_law 571 = .ok (.iconst 0, 1) := by decide +kernel
theorem dL_law_572 : decode cL_law 572 = .ok (.ireturn, 1) := by decide +kernel
theorem dL_law_573 : decode cL_law 573 = .ok (.aload_n 1, 1) := by decide +kernel
theorem dL_law_574 : decode cL_law 574 = .ok (.invokevirtual 88, 3) := by decide +kernel
theorem dL_law_577 : decode cL_law 577 = .ok (.aload_n 2, 1) := by decide +kernel
theorem dL_law_578 : decode cL_law 578 = .ok (.invokevirtual 91, 3) := by decide +kernel
theorem dL_law_581 : decode cL_law 581 = .ok (.if_icmp .eq 64, 3) := by decide +kernel
theorem dL_law_584 : decode cL_law 584 = .ok (.iconst 0, 1) := by decide +kernel
theorem dL_law_585 : decode cL_law 585 = .ok (.ireturn, 1) := by decide +kernel
theorem dL_law_586 : decode cL_law 586 = .ok (.aload_n 1, 1) := by decide +kernel
theorem dL_law_587 : decode cL_law 587 = .ok (.invokevirtual 92, 3) := by decide +kernel
theorem dL_law_590 : decode cL_law 590 = .ok (.aload_n 2, 1) := by decide +kernel
theorem dL_law_591 : decode cL_law 591 = .ok (.invokevirtual 95, 3) := by decide +kernel
theorem dL_law_594 : decode cL_law 594 = .ok (.if_icmp .eq 51, 3) := by decide +kernel
theorem dL_law_597 : decode cL_law 597 = .ok (.iconst 0, 1) := by decide +kernel
theorem dL_law_598 : decode cL_law 598 = .ok (.ireturn, 1) := by decide +kernel
theorem dL_law_599 : decode cL_law 599 = .ok (.aload_n 1, 1) := by decide +kernel
theorem dL_law_600 : decode cL_law 600 = .ok (.aload_n 0, 1) := by decide +kernel
theorem dL_law_601 : decode cL_law 601 = .ok (.iload_n 3, 1) := by decide +kernel
theorem dL_law_602 : decode cL_law 602 = .ok (.iconst 1, 1) := by decide +kernel
theorem dL_law_603 : decode cL_law 603 = .ok (.iadd, 1) := by decide +kernel
theorem dL_law_604 : decode cL_law 604 = .ok (.iaload, 1) := by decide +kernel
theorem dL_law_605 : decode cL_law 605 = .ok (.invokevirtual 96, 3) := by decide +kernel
theorem dL_law_608 : decode cL_law 608 = .ok (.aload_n 2, 1) := by decide +kernel
theorem dL_law_609 : decode cL_law 609 = .ok (.aload_n 0, 1) := by decide +kernel
theorem dL_law_610 : decode cL_law 610 = .ok (.iload_n 3, 1) := by decide +kernel
theorem dL_law_611 : decode cL_law 611 = .ok (.iconst 1, 1) := by decide +kernel
theorem dL_law_612 : decode cL_law 612 = .ok (.iadd, 1) := by decide +kernel
theorem dL_law_613 : decode cL_law 613 = .ok (.iaload, 1) := by decide +kernel
theorem dL_law_614 : decode cL_law 614 = .ok (.invokevirtual 99, 3) := by decide +kernel
theorem dL_law_617 : decode cL_law 617 = .ok (.if_icmp .eq 28, 3) := by decide +kernel
theorem dL_law_620 : decode cL_law 620 = .ok (.iconst 0, 1) := by decide +kernel
theorem dL_law_621 : decode cL_law 621 = .ok (.ireturn, 1) := by decide +kernel
theorem dL_law_622 : decode cL_law 622 = .ok (.aload_n 1, 1) := by decide +kernel
theorem dL_law_623 : decode cL_law 623 = .ok (.aload_n 0, 1) := by decide +kernel
theorem dL_law_624 : decode cL_law 624 = .ok (.iload_n 3, 1) := by decide +kernel
theorem dL_law_625 : decode cL_law 625 = .ok (.iconst 1, 1) := by decide +kernel
theorem dL_law_626 : decode cL_law 626 = .ok (.iadd, 1) := by decide +kernel
theorem dL_law_627 : decode cL_law 627 = .ok (.iaload, 1) := by decide +kernel
theorem dL_law_628 : decode cL_law 628 = .ok (.invokevirtual 100, 3) := by decide +kernel
theorem dL_law_631 : decode cL_law 631 = .ok (.aload_n 2, 1) := by decide +kernel
theorem dL_law_632 : decode cL_law 632 = .ok (.aload_n 0, 1) := by decide +kernel
theorem dL_law_633 : decode cL_law 633 = .ok (.iload_n 3, 1) := by decide +kernel
theorem dL_law_634 : decode cL_law 634 = .ok (.iconst 1, 1) := by decide +kernel
theorem dL_law_635 : decode cL_law 635 = .ok (.iadd, 1) := by decide +kernel
theorem dL_law_636 : decode cL_law 636 = .ok (.iaload, 1) := by decide +kernel
theorem dL_law_637 : decode cL_law 637 = .ok (.invokevirtual 103, 3) := by decide +kernel
theorem dL_law_640 : decode cL_law 640 = .ok (.if_icmp .eq 5, 3) := by decide +kernel
theorem dL_law_643 : decode cL_law 643 = .ok (.iconst 0, 1) := by decide +kernel
theorem dL_law_644 : decode cL_law 644 = .ok (.ireturn, 1) := by decide +kernel
theorem dL_law_645 : decode cL_law 645 = .ok (.iinc 3 4, 3) := by decide +kernel
theorem dL_law_648 : decode cL_law 648 = .ok (.goto (-630), 3) := by decide +kernel
theorem dL_law_651 : decode cL_law 651 = .ok (.iconst 1, 1) := by decide +kernel
theorem dL_law_652 : decode cL_law 652 = .ok (.ireturn, 1) := by decide +kernel
