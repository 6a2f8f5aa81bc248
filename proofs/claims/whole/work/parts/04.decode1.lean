theorem d_X1_init_0 : decode c_X1_init 0 = .ok (.aload_n 0, 1) := by decide +kernel
theorem d_X1_init_1 : decode c_X1_init 1 = .ok (.invokespecial 1, 3) := by decide +kernel
theorem d_X1_init_4 : decode c_X1_init 4 = .ok (.aload_n 0, 1) := by decide +kernel
theorem d_X1_init_5 : decode c_X1_init 5 = .ok (.sipush 1216, 3) := by decide +kernel
theorem d_X1_init_8 : decode c_X1_init 8 = .ok (.newarray .int, 2) := by decide +kernel
theorem d_X1_init_10 : decode c_X1_init 10 = .ok (.putfield 7, 3) := by decide +kernel
theorem d_X1_init_13 : decode c_X1_init 13 = .ok (.aload_n 0, 1) := by decide +kernel
theorem d_X1_init_14 : decode c_X1_init 14 = .ok (.bipush 19, 2) := by decide +kernel
theorem d_X1_init_16 : decode c_X1_init 16 = .ok (.newarray .int, 2) := by decide +kernel
theorem d_X1_init_18 : decode c_X1_init 18 = .ok (.putfield 13, 3) := by decide +kernel
theorem d_X1_init_21 : decode c_X1_init 21 = .ok (.aload_n 0, 1) := by decide +kernel
theorem d_X1_init_22 : decode c_X1_init 22 = .ok (.bipush 64, 2) := by decide +kernel
theorem d_X1_init_24 : decode c_X1_init 24 = .ok (.newarray .int, 2) := by decide +kernel
theorem d_X1_init_26 : decode c_X1_init 26 = .ok (.putfield 16, 3) := by decide +kernel
theorem d_X1_init_29 : decode c_X1_init 29 = .ok (.aload_n 0, 1) := by decide +kernel
theorem d_X1_init_30 : decode c_X1_init 30 = .ok (.bipush 64, 2) := by decide +kernel
theorem d_X1_init_32 : decode c_X1_init 32 = .ok (.newarray .long, 2) := by decide +kernel
theorem d_X1_init_34 : decode c_X1_init 34 = .ok (.putfield 19, 3) := by decide +kernel
theorem d_X1_init_37 : decode c_X1_init 37 = .ok (.aload_n 0, 1) := by decide +kernel
theorem d_X1_init_38 : decode c_X1_init 38 = .ok (.bipush 19, 2) := by decide +kernel
theorem d_X1_init_40 : decode c_X1_init 40 = .ok (.newarray .int, 2) := by decide +kernel
theorem d_X1_init_42 : decode c_X1_init 42 = .ok (.putfield 23, 3) := by decide +kernel
theorem d_X1_init_45 : decode c_X1_init 45 = .ok (.aload_n 0, 1) := by decide +kernel
theorem d_X1_init_46 : decode c_X1_init 46 = .ok (.bipush 19, 2) := by decide +kernel
theorem d_X1_init_48 : decode c_X1_init 48 = .ok (.newarray .boolean, 2) := by decide +kernel
theorem d_X1_init_50 : decode c_X1_init 50 = .ok (.putfield 26, 3) := by decide +kernel
theorem d_X1_init_53 : decode c_X1_init 53 = .ok (.aload_n 0, 1) := by decide +kernel
theorem d_X1_init_54 : decode c_X1_init 54 = .ok (.bipush 19, 2) := by decide +kernel
theorem d_X1_init_56 : decode c_X1_init 56 = .ok (.newarray .int, 2) := by decide +kernel
theorem d_X1_init_58 : decode c_X1_init 58 = .ok (.putfield 30, 3) := by decide +kernel
theorem d_X1_init_61 : decode c_X1_init 61 = .ok (.aload_n 0, 1) := by decide +kernel
theorem d_X1_init_62 : decode c_X1_init 62 = .ok (.bipush 19, 2) := by decide +kernel
theorem d_X1_init_64 : decode c_X1_init 64 = .ok (.newarray .int, 2) := by decide +kernel
theorem d_X1_init_66 : decode c_X1_init 66 = .ok (.putfield 33, 3) := by decide +kernel
theorem d_X1_init_69 : decode c_X1_init 69 = .ok (.aload_n 0, 1) := by decide +kernel
theorem d_X1_init_70 : decode c_X1_init 70 = .ok (.bipush 64, 2) := by decide +kernel
theorem d_X1_init_72 : decode c_X1_init 72 = .ok (.newarray .int, 2) := by decide +kernel
theorem d_X1_init_74 : decode c_X1_init 74 = .ok (.putfield 36, 3) := by decide +kernel
theorem d_X1_init_77 : decode c_X1_init 77 = .ok (.aload_n 0, 1) := by decide +kernel
theorem d_X1_init_78 : decode c_X1_init 78 = .ok (.bipush 64, 2) := by decide +kernel
theorem d_X1_init_80 : decode c_X1_init 80 = .ok (.newarray .int, 2) := by decide +kernel
theorem d_X1_init_82 : decode c_X1_init 82 = .ok (.putfield 39, 3) := by decide +kernel
theorem d_X1_init_85 : decode c_X1_init 85 = .ok (.aload_n 0, 1) := by decide +kernel
theorem d_X1_init_86 : decode c_X1_init 86 = .ok (.invokevirtual 42, 3) := by decide +kernel
theorem d_X1_init_89 : decode c_X1_init 89 = .ok (.return_, 1) := by decide +kernel
theorem d_X1_thrown_0 : decode c_X1_thrown 0 = .ok (.aload_n 0, 1) := by decide +kernel
theorem d_X1_thrown_1 : decode c_X1_thrown 1 = .ok (.getfield 45, 3) := by decide +kernel
theorem d_X1_thrown_4 : decode c_X1_thrown 4 = .ok (.ireturn, 1) := by decide +kernel
theorem d_X1_lay_0 : decode c_X1_lay 0 = .ok (.iconst 0, 1) := by decide +kernel
theorem d_X1_lay_1 : decode c_X1_lay 1 = .ok (.istore_n 1, 1) := by decide +kernel
theorem d_X1_lay_2 : decode c_X1_lay 2 = .ok (.iload_n 1, 1) := by decide +kernel
theorem d_X1_lay_3 : decode c_X1_lay 3 = .ok (.bipush 64, 2) := by decide +kernel
theorem d_X1_lay_5 : decode c_X1_lay 5 = .ok (.if_icmp .ge 16, 3) := by decide +kernel
theorem d_X1_lay_8 : decode c_X1_lay 8 = .ok (.aload_n 0, 1) := by decide +kernel
theorem d_X1_lay_9 : decode c_X1_lay 9 = .ok (.getfield 7, 3) := by decide +kernel
theorem d_X1_lay_12 : decode c_X1_lay 12 = .ok (.iload_n 1, 1) := by decide +kernel
theorem d_X1_lay_13 : decode c_X1_lay 13 = .ok (.iconst 0, 1) := by decide +kernel
theorem d_X1_lay_14 : decode c_X1_lay 14 = .ok (.iastore, 1) := by decide +kernel
theorem d_X1_lay_15 : decode c_X1_lay 15 = .ok (.iinc 1 1, 3) := by decide +kernel
theorem d_X1_lay_18 : decode c_X1_lay 18 = .ok (.goto (-16), 3) := by decide +kernel
theorem d_X1_lay_21 : decode c_X1_lay 21 = .ok (.aload_n 0, 1) := by decide +kernel
theorem d_X1_lay_22 : decode c_X1_lay 22 = .ok (.getfield 7, 3) := by decide +kernel
theorem d_X1_lay_25 : decode c_X1_lay 25 = .ok (.bipush 28, 2) := by decide +kernel
theorem d_X1_lay_27 : decode c_X1_lay 27 = .ok (.iconst 1, 1) := by decide +kernel
theorem d_X1_lay_28 : decode c_X1_lay 28 = .ok (.iastore, 1) := by decide +kernel
theorem d_X1_lay_29 : decode c_X1_lay 29 = .ok (.aload_n 0, 1) := by decide +kernel
theorem d_X1_lay_30 : decode c_X1_lay 30 = .ok (.getfield 7, 3) := by decide +kernel
theorem d_X1_lay_33 : decode c_X1_lay 33 = .ok (.bipush 35, 2) := by decide +kernel
theorem d_X1_lay_35 : decode c_X1_lay 35 = .ok (.iconst 1, 1) := by decide +kernel
theorem d_X1_lay_36 : decode c_X1_lay 36 = .ok (.iastore, 1) := by decide +kernel
theorem d_X1_lay_37 : decode c_X1_lay 37 = .ok (.aload_n 0, 1) := by decide +kernel
theorem d_X1_lay_38 : decode c_X1_lay 38 = .ok (.getfield 7, 3) := by decide +kernel
theorem d_X1_lay_41 : decode c_X1_lay 41 = .ok (.bipush 27, 2) := by decide +kernel
theorem d_X1_lay_43 : decode c_X1_lay 43 = .ok (.iconst 2, 1) := by decide +kernel
theorem d_X1_lay_44 : decode c_X1_lay 44 = .ok (.iastore, 1) := by decide +kernel
theorem d_X1_lay_45 : decode c_X1_lay 45 = .ok (.aload_n 0, 1) := by decide +kernel
theorem d_X1_lay_46 : decode c_X1_lay 46 = .ok (.getfield 7, 3) := by decide +kernel
theorem d_X1_lay_49 : decode c_X1_lay 49 = .ok (.bipush 36, 2) := by decide +kernel
theorem d_X1_lay_51 : decode c_X1_lay 51 = .ok (.iconst 2, 1) := by decide +kernel
theorem d_X1_lay_52 : decode c_X1_lay 52 = .ok (.iastore, 1) := by decide +kernel
theorem d_X1_lay_53 : decode c_X1_lay 53 = .ok (.aload_n 0, 1) := by decide +kernel
theorem d_X1_lay_54 : decode c_X1_lay 54 = .ok (.getfield 13, 3) := by decide +kernel
theorem d_X1_lay_57 : decode c_X1_lay 57 = .ok (.iconst 0, 1) := by decide +kernel
theorem d_X1_lay_58 : decode c_X1_lay 58 = .ok (.iconst 0, 1) := by decide +kernel
theorem d_X1_lay_59 : decode c_X1_lay 59 = .ok (.iastore, 1) := by decide +kernel
theorem d_X1_lay_60 : decode c_X1_lay 60 = .ok (.aload_n 0, 1) := by decide +kernel
theorem d_X1_lay_61 : decode c_X1_lay 61 = .ok (.iconst 0, 1) := by decide +kernel
theorem d_X1_lay_62 : decode c_X1_lay 62 = .ok (.putfield 49, 3) := by decide +kernel
theorem d_X1_lay_65 : decode c_X1_lay 65 = .ok (.return_, 1) := by decide +kernel
theorem d_X1_begin_0 : decode c_X1_begin 0 = .ok (.aload_n 0, 1) := by decide +kernel
theorem d_X1_begin_1 : decode c_X1_begin 1 = .ok (.iconst 0, 1) := by decide +kernel
theorem d_X1_begin_2 : decode c_X1_begin 2 = .ok (.putfield 45, 3) := by decide +kernel
theorem d_X1_begin_5 : decode c_X1_begin 5 = .ok (.aload_n 0, 1) := by decide +kernel
theorem d_X1_begin_6 : decode c_X1_begin 6 = .ok (.invokevirtual 42, 3) := by decide +kernel
theorem d_X1_begin_9 : decode c_X1_begin 9 = .ok (.return_, 1) := by decide +kernel
theorem d_X1_set_0 : decode c_X1_set 0 = .ok (.aload_n 0, 1) := by decide +kernel
theorem d_X1_set_1 : decode c_X1_set 1 = .ok (.lload_n 1, 1) := by decide +kernel
theorem d_X1_set_2 : decode c_X1_set 2 = .ok (.lload_n 3, 1) := by decide +kernel
theorem d_X1_set_3 : decode c_X1_set 3 = .ok (.land, 1) := by decide +kernel
theorem d_X1_set_4 : decode c_X1_set 4 = .ok (.lconst 0, 1) := by decide +kernel
theorem d_X1_set_5 : decode c_X1_set 5 = .ok (.lcmp, 1) := by decide +kernel
theorem d_X1_set_6 : decode c_X1_set 6 = .ok (.ifCond .ne 14, 3) := by decide +kernel
theorem d_X1_set_9 : decode c_X1_set 9 = .ok (.iload 5, 2) := by decide +kernel
theorem d_X1_set_11 : decode c_X1_set 11 = .ok (.ifCond .lt 9, 3) := by decide +kernel
theorem d_X1_set_14 : decode c_X1_set 14 = .ok (.iload 5, 2) := by decide +kernel
theorem d_X1_set_16 : decode c_X1_set 16 = .ok (.iconst 1, 1) := by decide +kernel
theorem d_X1_set_17 : decode c_X1_set 17 = .ok (.if_icmp .le 7, 3) := by decide +kernel
theorem d_X1_set_20 : decode c_X1_set 20 = .ok (.iconst 1, 1) := by decide +kernel
theorem d_X1_set_21 : decode c_X1_set 21 = .ok (.goto 4, 3) := by decide +kernel
theorem d_X1_set_24 : decode c_X1_set 24 = .ok (.iconst 0, 1) := by decide +kernel
theorem d_X1_set_25 : decode c_X1_set 25 = .ok (.putfield 45, 3) := by decide +kernel
theorem d_X1_set_28 : decode c_X1_set 28 = .ok (.aload_n 0, 1) := by decide +kernel
theorem d_X1_set_29 : decode c_X1_set 29 = .ok (.getfield 45, 3) := by decide +kernel
theorem d_X1_set_32 : decode c_X1_set 32 = .ok (.ifCond .le 4, 3) := by decide +kernel
theorem d_X1_set_35 : decode c_X1_set 35 = .ok (.return_, 1) := by decide +kernel
theorem d_X1_set_36 : decode c_X1_set 36 = .ok (.iconst 0, 1) := by decide +kernel
theorem d_X1_set_37 : decode c_X1_set 37 = .ok (.istore 6, 2) := by decide +kernel
theorem d_X1_set_39 : decode c_X1_set 39 = .ok (.iload 6, 2) := by decide +kernel
theorem d_X1_set_41 : decode c_X1_set 41 = .ok (.bipush 64, 2) := by decide +kernel
theorem d_X1_set_43 : decode c_X1_set 43 = .ok (.if_icmp .ge 47, 3) := by decide +kernel
theorem d_X1_set_46 : decode c_X1_set 46 = .ok (.aload_n 0, 1) := by decide +kernel
theorem d_X1_set_47 : decode c_X1_set 47 = .ok (.getfield 7, 3) := by decide +kernel
theorem d_X1_set_50 : decode c_X1_set 50 = .ok (.iload 6, 2) := by decide +kernel
theorem d_X1_set_52 : decode c_X1_set 52 = .ok (.lload_n 1, 1) := by decide +kernel
theorem d_X1_set_53 : decode c_X1_set 53 = .ok (.iload 6, 2) := by decide +kernel
theorem d_X1_set_55 : decode c_X1_set 55 = .ok (.lshr, 1) := by decide +kernel
theorem d_X1_set_56 : decode c_X1_set 56 = .ok (.lconst 1, 1) := by decide +kernel
theorem d_X1_set_57 : decode c_X1_set 57 = .ok (.land, 1) := by decide +kernel
theorem d_X1_set_58 : decode c_X1_set 58 = .ok (.lconst 1, 1) := by decide +kernel
theorem d_X1_set_59 : decode c_X1_set 59 = .ok (.lcmp, 1) := by decide +kernel
theorem d_X1_set_60 : decode c_X1_set 60 = .ok (.ifCond .ne 7, 3) := by decide +kernel
theorem d_X1_set_63 : decode c_X1_set 63 = .ok (.iconst 1, 1) := by decide +kernel
theorem d_X1_set_64 : decode c_X1_set 64 = .ok (.goto 19, 3) := by decide +kernel
theorem d_X1_set_67 : decode c_X1_set 67 = .ok (.lload_n 3, 1) := by decide +kernel
theorem d_X1_set_68 : decode c_X1_set 68 = .ok (.iload 6, 2) := by decide +kernel
theorem d_X1_set_70 : decode c_X1_set 70 = .ok (.lshr, 1) := by decide +kernel
theorem d_X1_set_71 : decode c_X1_set 71 = .ok (.lconst 1, 1) := by decide +kernel
theorem d_X1_set_72 : decode c_X1_set 72 = .ok (.land, 1) := by decide +kernel
theorem d_X1_set_73 : decode c_X1_set 73 = .ok (.lconst 1, 1) := by decide +kernel
theorem d_X1_set_74 : decode c_X1_set 74 = .ok (.lcmp, 1) := by decide +kernel
theorem d_X1_set_75 : decode c_X1_set 75 = .ok (.ifCond .ne 7, 3) := by decide +kernel
theorem d_X1_set_78 : decode c_X1_set 78 = .ok (.iconst 2, 1) := by decide +kernel
theorem d_X1_set_79 : decode c_X1_set 79 = .ok (.goto 4, 3) := by decide +kernel
theorem d_X1_set_82 : decode c_X1_set 82 = .ok (.iconst 0, 1) := by decide +kernel
theorem d_X1_set_83 : decode c_X1_set 83 = .ok (.iastore, 1) := by decide +kernel
theorem d_X1_set_84 : decode c_X1_set 84 = .ok (.iinc 6 1, 3) := by decide +kernel
theorem d_X1_set_87 : decode c_X1_set 87 = .ok (.goto (-48), 3) := by decide +kernel
theorem d_X1_set_90 : decode c_X1_set 90 = .ok (.aload_n 0, 1) := by decide +kernel
theorem d_X1_set_91 : decode c_X1_set 91 = .ok (.getfield 13, 3) := by decide +kernel
theorem d_X1_set_94 : decode c_X1_set 94 = .ok (.iconst 0, 1) := by decide +kernel
theorem d_X1_set_95 : decode c_X1_set 95 = .ok (.iload 5, 2) := by decide +kernel
theorem d_X1_set_97 : decode c_X1_set 97 = .ok (.iastore, 1) := by decide +kernel
theorem d_X1_set_98 : decode c_X1_set 98 = .ok (.aload_n 0, 1) := by decide +kernel
theorem d_X1_set_99 : decode c_X1_set 99 = .ok (.iconst 0, 1) := by decide +kernel
theorem d_X1_set_100 : decode c_X1_set 100 = .ok (.putfield 49, 3) := by decide +kernel
theorem d_X1_set_103 : decode c_X1_set 103 = .ok (.return_, 1) := by decide +kernel
theorem d_X1_isOn_0 : decode c_X1_isOn 0 = .ok (.iload_n 0, 1) := by decide +kernel
theorem d_X1_isOn_1 : decode c_X1_isOn 1 = .ok (.ifCond .lt 23, 3) := by decide +kernel
theorem d_X1_isOn_4 : decode c_X1_isOn 4 = .ok (.iload_n 0, 1) := by decide +kernel
theorem d_X1_isOn_5 : decode c_X1_isOn 5 = .ok (.bipush 8, 2) := by decide +kernel
theorem d_X1_isOn_7 : decode c_X1_isOn 7 = .ok (.if_icmp .ge 17, 3) := by decide +kernel
theorem d_X1_isOn_10 : decode c_X1_isOn 10 = .ok (.iload_n 1, 1) := by decide +kernel
theorem d_X1_isOn_11 : decode c_X1_isOn 11 = .ok (.ifCond .lt 13, 3) := by decide +kernel
theorem d_X1_isOn_14 : decode c_X1_isOn 14 = .ok (.iload_n 1, 1) := by decide +kernel
theorem d_X1_isOn_15 : decode c_X1_isOn 15 = .ok (.bipush 8, 2) := by decide +kernel
theorem d_X1_isOn_17 : decode c_X1_isOn 17 = .ok (.if_icmp .ge 7, 3) := by decide +kernel
theorem d_X1_isOn_20 : decode c_X1_isOn 20 = .ok (.iconst 1, 1) := by decide +kernel
theorem d_X1_isOn_21 : decode c_X1_isOn 21 = .ok (.goto 4, 3) := by decide +kernel
theorem d_X1_isOn_24 : decode c_X1_isOn 24 = .ok (.iconst 0, 1) := by decide +kernel
theorem d_X1_isOn_25 : decode c_X1_isOn 25 = .ok (.ireturn, 1) := by decide +kernel
theorem d_X1_cellOf_0 : decode c_X1_cellOf 0 = .ok (.aload_n 0, 1) := by decide +kernel
theorem d_X1_cellOf_1 : decode c_X1_cellOf 1 = .ok (.getfield 7, 3) := by decide +kernel
theorem d_X1_cellOf_4 : decode c_X1_cellOf 4 = .ok (.bipush 64, 2) := by decide +kernel
theorem d_X1_cellOf_6 : decode c_X1_cellOf 6 = .ok (.iload_n 1, 1) := by decide +kernel
theorem d_X1_cellOf_7 : decode c_X1_cellOf 7 = .ok (.imul, 1) := by decide +kernel
theorem d_X1_cellOf_8 : decode c_X1_cellOf 8 = .ok (.bipush 8, 2) := by decide +kernel
theorem d_X1_cellOf_10 : decode c_X1_cellOf 10 = .ok (.iload_n 2, 1) := by decide +kernel
theorem d_X1_cellOf_11 : decode c_X1_cellOf 11 = .ok (.imul, 1) := by decide +kernel
theorem d_X1_cellOf_12 : decode c_X1_cellOf 12 = .ok (.iadd, 1) := by decide +kernel
theorem d_X1_cellOf_13 : decode c_X1_cellOf 13 = .ok (.iload_n 3, 1) := by decide +kernel
theorem d_X1_cellOf_14 : decode c_X1_cellOf 14 = .ok (.iadd, 1) := by decide +kernel
theorem d_X1_cellOf_15 : decode c_X1_cellOf 15 = .ok (.iaload, 1) := by decide +kernel
theorem d_X1_cellOf_16 : decode c_X1_cellOf 16 = .ok (.ireturn, 1) := by decide +kernel
theorem d_X1_rowWay_0 : decode c_X1_rowWay 0 = .ok (.iload_n 0, 1) := by decide +kernel
theorem d_X1_rowWay_1 : decode c_X1_rowWay 1 = .ok (.iconst 3, 1) := by decide +kernel
theorem d_X1_rowWay_2 : decode c_X1_rowWay 2 = .ok (.if_icmp .ge 7, 3) := by decide +kernel
theorem d_X1_rowWay_5 : decode c_X1_rowWay 5 = .ok (.iconst (-1), 1) := by decide +kernel
theorem d_X1_rowWay_6 : decode c_X1_rowWay 6 = .ok (.goto 13, 3) := by decide +kernel
theorem d_X1_rowWay_9 : decode c_X1_rowWay 9 = .ok (.iload_n 0, 1) := by decide +kernel
theorem d_X1_rowWay_10 : decode c_X1_rowWay 10 = .ok (.iconst 5, 1) := by decide +kernel
theorem d_X1_rowWay_11 : decode c_X1_rowWay 11 = .ok (.if_icmp .ge 7, 3) := by decide +kernel
theorem d_X1_rowWay_14 : decode c_X1_rowWay 14 = .ok (.iconst 0, 1) := by decide +kernel
theorem d_X1_rowWay_15 : decode c_X1_rowWay 15 = .ok (.goto 4, 3) := by decide +kernel
theorem d_X1_rowWay_18 : decode c_X1_rowWay 18 = .ok (.iconst 1, 1) := by decide +kernel
theorem d_X1_rowWay_19 : decode c_X1_rowWay 19 = .ok (.ireturn, 1) := by decide +kernel
theorem d_X1_columnWay_0 : decode c_X1_columnWay 0 = .ok (.iload_n 0, 1) := by decide +kernel
theorem d_X1_columnWay_1 : decode c_X1_columnWay 1 = .ok (.ifCond .eq 13, 3) := by decide +kernel
theorem d_X1_columnWay_4 : decode c_X1_columnWay 4 = .ok (.iload_n 0, 1) := by decide +kernel
theorem d_X1_columnWay_5 : decode c_X1_columnWay 5 = .ok (.iconst 3, 1) := by decide +kernel
theorem d_X1_columnWay_6 : decode c_X1_columnWay 6 = .ok (.if_icmp .eq 8, 3) := by decide +kernel
theorem d_X1_columnWay_9 : decode c_X1_columnWay 9 = .ok (.iload_n 0, 1) := by decide +kernel
theorem d_X1_columnWay_10 : decode c_X1_columnWay 10 = .ok (.iconst 5, 1) := by decide +kernel
theorem d_X1_columnWay_11 : decode c_X1_columnWay 11 = .ok (.if_icmp .ne 7, 3) := by decide +kernel
theorem d_X1_columnWay_14 : decode c_X1_columnWay 14 = .ok (.iconst (-1), 1) := by decide +kernel
theorem d_X1_columnWay_15 : decode c_X1_columnWay 15 = .ok (.goto 19, 3) := by decide +kernel
theorem d_X1_columnWay_18 : decode c_X1_columnWay 18 = .ok (.iload_n 0, 1) := by decide +kernel
theorem d_X1_columnWay_19 : decode c_X1_columnWay 19 = .ok (.iconst 1, 1) := by decide +kernel
theorem d_X1_columnWay_20 : decode c_X1_columnWay 20 = .ok (.if_icmp .eq 9, 3) := by decide +kernel
theorem d_X1_columnWay_23 : decode c_X1_columnWay 23 = .ok (.iload_n 0, 1) := by decide +kernel
theorem d_X1_columnWay_24 : decode c_X1_columnWay 24 = .ok (.bipush 6, 2) := by decide +kernel
theorem d_X1_columnWay_26 : decode c_X1_columnWay 26 = .ok (.if_icmp .ne 7, 3) := by decide +kernel
theorem d_X1_columnWay_29 : decode c_X1_columnWay 29 = .ok (.iconst 0, 1) := by decide +kernel
theorem d_X1_columnWay_30 : decode c_X1_columnWay 30 = .ok (.goto 4, 3) := by decide +kernel
theorem d_X1_columnWay_33 : decode c_X1_columnWay 33 = .ok (.iconst 1, 1) := by decide +kernel
theorem d_X1_columnWay_34 : decode c_X1_columnWay 34 = .ok (.ireturn, 1) := by decide +kernel
theorem d_X1_along_0 : decode c_X1_along 0 = .ok (.iload_n 2, 1) := by decide +kernel
theorem d_X1_along_1 : decode c_X1_along 1 = .ok (.bipush 8, 2) := by decide +kernel
theorem d_X1_along_3 : decode c_X1_along 3 = .ok (.idiv, 1) := by decide +kernel
theorem d_X1_along_4 : decode c_X1_along 4 = .ok (.iload_n 3, 1) := by decide +kernel
theorem d_X1_along_5 : decode c_X1_along 5 = .ok (.invokestatic 52, 3) := by decide +kernel
theorem d_X1_along_8 : decode c_X1_along 8 = .ok (.iadd, 1) := by decide +kernel
theorem d_X1_along_9 : decode c_X1_along 9 = .ok (.istore 5, 2) := by decide +kernel
theorem d_X1_along_11 : decode c_X1_along 11 = .ok (.iload_n 2, 1) := by decide +kernel
theorem d_X1_along_12 : decode c_X1_along 12 = .ok (.bipush 8, 2) := by decide +kernel
theorem d_X1_along_14 : decode c_X1_along 14 = .ok (.irem, 1) := by decide +kernel
theorem d_X1_along_15 : decode c_X1_along 15 = .ok (.iload_n 3, 1) := by decide +kernel
theorem d_X1_along_16 : decode c_X1_along 16 = .ok (.invokestatic 56, 3) := by decide +kernel
theorem d_X1_along_19 : decode c_X1_along 19 = .ok (.iadd, 1) := by decide +kernel
theorem d_X1_along_20 : decode c_X1_along 20 = .ok (.istore 6, 2) := by decide +kernel
theorem d_X1_along_22 : decode c_X1_along 22 = .ok (.iconst 0, 1) := by decide +kernel
theorem d_X1_along_23 : decode c_X1_along 23 = .ok (.istore 7, 2) := by decide +kernel
theorem d_X1_along_25 : decode c_X1_along 25 = .ok (.iload 5, 2) := by decide +kernel
theorem d_X1_along_27 : decode c_X1_along 27 = .ok (.iload 6, 2) := by decide +kernel
theorem d_X1_along_29 : decode c_X1_along 29 = .ok (.invokestatic 59, 3) := by decide +kernel
theorem d_X1_along_32 : decode c_X1_along 32 = .ok (.ifCond .eq 43, 3) := by decide +kernel
theorem d_X1_along_35 : decode c_X1_along 35 = .ok (.aload_n 0, 1) := by decide +kernel
theorem d_X1_along_36 : decode c_X1_along 36 = .ok (.iload_n 1, 1) := by decide +kernel
theorem d_X1_along_37 : decode c_X1_along 37 = .ok (.iload 5, 2) := by decide +kernel
theorem d_X1_along_39 : decode c_X1_along 39 = .ok (.iload 6, 2) := by decide +kernel
theorem d_X1_along_41 : decode c_X1_along 41 = .ok (.invokevirtual 63, 3) := by decide +kernel
theorem d_X1_along_44 : decode c_X1_along 44 = .ok (.iconst 2, 1) := by decide +kernel
theorem d_X1_along_45 : decode c_X1_along 45 = .ok (.iload 4, 2) := by decide +kernel
theorem d_X1_along_47 : decode c_X1_along 47 = .ok (.isub, 1) := by decide +kernel
theorem d_X1_along_48 : decode c_X1_along 48 = .ok (.if_icmp .ne 27, 3) := by decide +kernel
theorem d_X1_along_51 : decode c_X1_along 51 = .ok (.iinc 7 1, 3) := by decide +kernel
theorem d_X1_along_54 : decode c_X1_along 54 = .ok (.iload 5, 2) := by decide +kernel
theorem d_X1_along_56 : decode c_X1_along 56 = .ok (.iload_n 3, 1) := by decide +kernel
theorem d_X1_along_57 : decode c_X1_along 57 = .ok (.invokestatic 52, 3) := by decide +kernel
theorem d_X1_along_60 : decode c_X1_along 60 = .ok (.iadd, 1) := by decide +kernel
theorem d_X1_along_61 : decode c_X1_along 61 = .ok (.istore 5, 2) := by decide +kernel
theorem d_X1_along_63 : decode c_X1_along 63 = .ok (.iload 6, 2) := by decide +kernel
theorem d_X1_along_65 : decode c_X1_along 65 = .ok (.iload_n 3, 1) := by decide +kernel
theorem d_X1_along_66 : decode c_X1_along 66 = .ok (.invokestatic 56, 3) := by decide +kernel
theorem d_X1_along_69 : decode c_X1_along 69 = .ok (.iadd, 1) := by decide +kernel
theorem d_X1_along_70 : decode c_X1_along 70 = .ok (.istore 6, 2) := by decide +kernel
theorem d_X1_along_72 : decode c_X1_along 72 = .ok (.goto (-47), 3) := by decide +kernel
theorem d_X1_along_75 : decode c_X1_along 75 = .ok (.iload 5, 2) := by decide +kernel
theorem d_X1_along_77 : decode c_X1_along 77 = .ok (.iload 6, 2) := by decide +kernel
theorem d_X1_along_79 : decode c_X1_along 79 = .ok (.invokestatic 59, 3) := by decide +kernel
theorem d_X1_along_82 : decode c_X1_along 82 = .ok (.ifCond .eq 24, 3) := by decide +kernel
theorem d_X1_along_85 : decode c_X1_along 85 = .ok (.aload_n 0, 1) := by decide +kernel
theorem d_X1_along_86 : decode c_X1_along 86 = .ok (.iload_n 1, 1) := by decide +kernel
theorem d_X1_along_87 : decode c_X1_along 87 = .ok (.iload 5, 2) := by decide +kernel
theorem d_X1_along_89 : decode c_X1_along 89 = .ok (.iload 6, 2) := by decide +kernel
theorem d_X1_along_91 : decode c_X1_along 91 = .ok (.invokevirtual 63, 3) := by decide +kernel
theorem d_X1_along_94 : decode c_X1_along 94 = .ok (.iload 4, 2) := by decide +kernel
theorem d_X1_along_96 : decode c_X1_along 96 = .ok (.iconst 1, 1) := by decide +kernel
theorem d_X1_along_97 : decode c_X1_along 97 = .ok (.iadd, 1) := by decide +kernel
theorem d_X1_along_98 : decode c_X1_along 98 = .ok (.if_icmp .ne 8, 3) := by decide +kernel
theorem d_X1_along_101 : decode c_X1_along 101 = .ok (.iload 7, 2) := by decide +kernel
theorem d_X1_along_103 : decode c_X1_along 103 = .ok (.goto 4, 3) := by decide +kernel
theorem d_X1_along_106 : decode c_X1_along 106 = .ok (.iconst 0, 1) := by decide +kernel
theorem d_X1_along_107 : decode c_X1_along 107 = .ok (.ireturn, 1) := by decide +kernel
theorem d_X1_flipsAt_0 : decode c_X1_flipsAt 0 = .ok (.lconst 0, 1) := by decide +kernel
theorem d_X1_flipsAt_1 : decode c_X1_flipsAt 1 = .ok (.lstore 4, 2) := by decide +kernel
theorem d_X1_flipsAt_3 : decode c_X1_flipsAt 3 = .ok (.iconst 0, 1) := by decide +kernel
theorem d_X1_flipsAt_4 : decode c_X1_flipsAt 4 = .ok (.istore 6, 2) := by decide +kernel
theorem d_X1_flipsAt_6 : decode c_X1_flipsAt 6 = .ok (.iload 6, 2) := by decide +kernel
theorem d_X1_flipsAt_8 : decode c_X1_flipsAt 8 = .ok (.bipush 8, 2) := by decide +kernel
theorem d_X1_flipsAt_10 : decode c_X1_flipsAt 10 = .ok (.if_icmp .ge 80, 3) := by decide +kernel
theorem d_X1_flipsAt_13 : decode c_X1_flipsAt 13 = .ok (.aload_n 0, 1) := by decide +kernel
theorem d_X1_flipsAt_14 : decode c_X1_flipsAt 14 = .ok (.getfield 7, 3) := by decide +kernel
theorem d_X1_flipsAt_17 : decode c_X1_flipsAt 17 = .ok (.bipush 64, 2) := by decide +kernel
theorem d_X1_flipsAt_19 : decode c_X1_flipsAt 19 = .ok (.iload_n 1, 1) := by decide +kernel
theorem d_X1_flipsAt_20 : decode c_X1_flipsAt 20 = .ok (.imul, 1) := by decide +kernel
theorem d_X1_flipsAt_21 : decode c_X1_flipsAt 21 = .ok (.iload_n 2, 1) := by decide +kernel
theorem d_X1_flipsAt_22 : decode c_X1_flipsAt 22 = .ok (.iadd, 1) := by decide +kernel
theorem d_X1_flipsAt_23 : decode c_X1_flipsAt 23 = .ok (.iaload, 1) := by decide +kernel
theorem d_X1_flipsAt_24 : decode c_X1_flipsAt 24 = .ok (.ifCond .ne 66, 3) := by decide +kernel
theorem d_X1_flipsAt_27 : decode c_X1_flipsAt 27 = .ok (.aload_n 0, 1) := by decide +kernel
theorem d_X1_flipsAt_28 : decode c_X1_flipsAt 28 = .ok (.iload_n 1, 1) := by decide +kernel
theorem d_X1_flipsAt_29 : decode c_X1_flipsAt 29 = .ok (.iload_n 2, 1) := by decide +kernel
theorem d_X1_flipsAt_30 : decode c_X1_flipsAt 30 = .ok (.iload 6, 2) := by decide +kernel
theorem d_X1_flipsAt_32 : decode c_X1_flipsAt 32 = .ok (.iload_n 3, 1) := by decide +kernel
theorem d_X1_flipsAt_33 : decode c_X1_flipsAt 33 = .ok (.invokevirtual 67, 3) := by decide +kernel
theorem d_X1_flipsAt_36 : decode c_X1_flipsAt 36 = .ok (.istore 7, 2) := by decide +kernel
theorem d_X1_flipsAt_38 : decode c_X1_flipsAt 38 = .ok (.bipush 8, 2) := by decide +kernel
theorem d_X1_flipsAt_40 : decode c_X1_flipsAt 40 = .ok (.iload 6, 2) := by decide +kernel
theorem d_X1_flipsAt_42 : decode c_X1_flipsAt 42 = .ok (.invokestatic 52, 3) := by decide +kernel
theorem d_X1_flipsAt_45 : decode c_X1_flipsAt 45 = .ok (.imul, 1) := by decide +kernel
theorem d_X1_flipsAt_46 : decode c_X1_flipsAt 46 = .ok (.iload 6, 2) := by decide +kernel
theorem d_X1_flipsAt_48 : decode c_X1_flipsAt 48 = .ok (.invokestatic 56, 3) := by decide +kernel
theorem d_X1_flipsAt_51 : decode c_X1_flipsAt 51 = .ok (.iadd, 1) := by decide +kernel
theorem d_X1_flipsAt_52 : decode c_X1_flipsAt 52 = .ok (.istore 8, 2) := by decide +kernel
theorem d_X1_flipsAt_54 : decode c_X1_flipsAt 54 = .ok (.iconst 1, 1) := by decide +kernel
theorem d_X1_flipsAt_55 : decode c_X1_flipsAt 55 = .ok (.istore 9, 2) := by decide +kernel
theorem d_X1_flipsAt_57 : decode c_X1_flipsAt 57 = .ok (.iload 9, 2) := by decide +kernel
theorem d_X1_flipsAt_59 : decode c_X1_flipsAt 59 = .ok (.iload 7, 2) := by decide +kernel
theorem d_X1_flipsAt_61 : decode c_X1_flipsAt 61 = .ok (.if_icmp .gt 23, 3) := by decide +kernel
theorem d_X1_flipsAt_64 : decode c_X1_flipsAt 64 = .ok (.lload 4, 2) := by decide +kernel
theorem d_X1_flipsAt_66 : decode c_X1_flipsAt 66 = .ok (.lconst 1, 1) := by decide +kernel
theorem d_X1_flipsAt_67 : decode c_X1_flipsAt 67 = .ok (.iload_n 2, 1) := by decide +kernel
theorem d_X1_flipsAt_68 : decode c_X1_flipsAt 68 = .ok (.iload 9, 2) := by decide +kernel
theorem d_X1_flipsAt_70 : decode c_X1_flipsAt 70 = .ok (.iload 8, 2) := by decide +kernel
theorem d_X1_flipsAt_72 : decode c_X1_flipsAt 72 = .ok (.imul, 1) := by decide +kernel
theorem d_X1_flipsAt_73 : decode c_X1_flipsAt 73 = .ok (.iadd, 1) := by decide +kernel
theorem d_X1_flipsAt_74 : decode c_X1_flipsAt 74 = .ok (.lshl, 1) := by decide +kernel
theorem d_X1_flipsAt_75 : decode c_X1_flipsAt 75 = .ok (.lor, 1) := by decide +kernel
theorem d_X1_flipsAt_76 : decode c_X1_flipsAt 76 = .ok (.lstore 4, 2) := by decide +kernel
theorem d_X1_flipsAt_78 : decode c_X1_flipsAt 78 = .ok (.iinc 9 1, 3) := by decide +kernel
theorem d_X1_flipsAt_81 : decode c_X1_flipsAt 81 = .ok (.goto (-24), 3) := by decide +kernel
theorem d_X1_flipsAt_84 : decode c_X1_flipsAt 84 = .ok (.iinc 6 1, 3) := by decide +kernel
theorem d_X1_flipsAt_87 : decode c_X1_flipsAt 87 = .ok (.goto (-81), 3) := by decide +kernel
theorem d_X1_flipsAt_90 : decode c_X1_flipsAt 90 = .ok (.lload 4, 2) := by decide +kernel
theorem d_X1_flipsAt_92 : decode c_X1_flipsAt 92 = .ok (.lreturn, 1) := by decide +kernel
theorem d_X1_movesAt_0 : decode c_X1_movesAt 0 = .ok (.iconst 0, 1) := by decide +kernel
theorem d_X1_movesAt_1 : decode c_X1_movesAt 1 = .ok (.istore_n 3, 1) := by decide +kernel
theorem d_X1_movesAt_2 : decode c_X1_movesAt 2 = .ok (.iconst 0, 1) := by decide +kernel
theorem d_X1_movesAt_3 : decode c_X1_movesAt 3 = .ok (.istore 4, 2) := by decide +kernel
theorem d_X1_movesAt_5 : decode c_X1_movesAt 5 = .ok (.iload 4, 2) := by decide +kernel
theorem d_X1_movesAt_7 : decode c_X1_movesAt 7 = .ok (.bipush 64, 2) := by decide +kernel
theorem d_X1_movesAt_9 : decode c_X1_movesAt 9 = .ok (.if_icmp .ge 30, 3) := by decide +kernel
theorem d_X1_movesAt_12 : decode c_X1_movesAt 12 = .ok (.aload_n 0, 1) := by decide +kernel
theorem d_X1_movesAt_13 : decode c_X1_movesAt 13 = .ok (.iload_n 1, 1) := by decide +kernel
theorem d_X1_movesAt_14 : decode c_X1_movesAt 14 = .ok (.iload 4, 2) := by decide +kernel
theorem d_X1_movesAt_16 : decode c_X1_movesAt 16 = .ok (.iload_n 2, 1) := by decide +kernel
theorem d_X1_movesAt_17 : decode c_X1_movesAt 17 = .ok (.invokevirtual 71, 3) := by decide +kernel
theorem d_X1_movesAt_20 : decode c_X1_movesAt 20 = .ok (.lconst 0, 1) := by decide +kernel
theorem d_X1_movesAt_21 : decode c_X1_movesAt 21 = .ok (.lcmp, 1) := by decide +kernel
theorem d_X1_movesAt_22 : decode c_X1_movesAt 22 = .ok (.ifCond .eq 9, 3) := by decide +kernel
theorem d_X1_movesAt_25 : decode c_X1_movesAt 25 = .ok (.iload_n 3, 1) := by decide +kernel
theorem d_X1_movesAt_26 : decode c_X1_movesAt 26 = .ok (.iconst 1, 1) := by decide +kernel
theorem d_X1_movesAt_27 : decode c_X1_movesAt 27 = .ok (.iadd, 1) := by decide +kernel
theorem d_X1_movesAt_28 : decode c_X1_movesAt 28 = .ok (.goto 4, 3) := by decide +kernel
theorem d_X1_movesAt_31 : decode c_X1_movesAt 31 = .ok (.iload_n 3, 1) := by decide +kernel
theorem d_X1_movesAt_32 : decode c_X1_movesAt 32 = .ok (.istore_n 3, 1) := by decide +kernel
theorem d_X1_movesAt_33 : decode c_X1_movesAt 33 = .ok (.iinc 4 1, 3) := by decide +kernel
theorem d_X1_movesAt_36 : decode c_X1_movesAt 36 = .ok (.goto (-31), 3) := by decide +kernel
theorem d_X1_movesAt_39 : decode c_X1_movesAt 39 = .ok (.iload_n 3, 1) := by decide +kernel
theorem d_X1_movesAt_40 : decode c_X1_movesAt 40 = .ok (.ireturn, 1) := by decide +kernel
theorem d_X1_discsOf_0 : decode c_X1_discsOf 0 = .ok (.iconst 0, 1) := by decide +kernel
theorem d_X1_discsOf_1 : decode c_X1_discsOf 1 = .ok (.istore_n 3, 1) := by decide +kernel
theorem d_X1_discsOf_2 : decode c_X1_discsOf 2 = .ok (.iconst 0, 1) := by decide +kernel
theorem d_X1_discsOf_3 : decode c_X1_discsOf 3 = .ok (.istore 4, 2) := by decide +kernel
theorem d_X1_discsOf_5 : decode c_X1_discsOf 5 = .ok (.iload 4, 2) := by decide +kernel
theorem d_X1_discsOf_7 : decode c_X1_discsOf 7 = .ok (.bipush 64, 2) := by decide +kernel
theorem d_X1_discsOf_9 : decode c_X1_discsOf 9 = .ok (.if_icmp .ge 35, 3) := by decide +kernel
theorem d_X1_discsOf_12 : decode c_X1_discsOf 12 = .ok (.aload_n 0, 1) := by decide +kernel
theorem d_X1_discsOf_13 : decode c_X1_discsOf 13 = .ok (.getfield 7, 3) := by decide +kernel
theorem d_X1_discsOf_16 : decode c_X1_discsOf 16 = .ok (.bipush 64, 2) := by decide +kernel
theorem d_X1_discsOf_18 : decode c_X1_discsOf 18 = .ok (.iload_n 1, 1) := by decide +kernel
theorem d_X1_discsOf_19 : decode c_X1_discsOf 19 = .ok (.imul, 1) := by decide +kernel
theorem d_X1_discsOf_20 : decode c_X1_discsOf 20 = .ok (.iload 4, 2) := by decide +kernel
theorem d_X1_discsOf_22 : decode c_X1_discsOf 22 = .ok (.iadd, 1) := by decide +kernel
theorem d_X1_discsOf_23 : decode c_X1_discsOf 23 = .ok (.iaload, 1) := by decide +kernel
theorem d_X1_discsOf_24 : decode c_X1_discsOf 24 = .ok (.iload_n 2, 1) := by decide +kernel
theorem d_X1_discsOf_25 : decode c_X1_discsOf 25 = .ok (.iconst 1, 1) := by decide +kernel
theorem d_X1_discsOf_26 : decode c_X1_discsOf 26 = .ok (.iadd, 1) := by decide +kernel
theorem d_X1_discsOf_27 : decode c_X1_discsOf 27 = .ok (.if_icmp .ne 9, 3) := by decide +kernel
theorem d_X1_discsOf_30 : decode c_X1_discsOf 30 = .ok (.iload_n 3, 1) := by decide +kernel
theorem d_X1_discsOf_31 : decode c_X1_discsOf 31 = .ok (.iconst 1, 1) := by decide +kernel
theorem d_X1_discsOf_32 : decode c_X1_discsOf 32 = .ok (.iadd, 1) := by decide +kernel
theorem d_X1_discsOf_33 : decode c_X1_discsOf 33 = .ok (.goto 4, 3) := by decide +kernel
theorem d_X1_discsOf_36 : decode c_X1_discsOf 36 = .ok (.iload_n 3, 1) := by decide +kernel
theorem d_X1_discsOf_37 : decode c_X1_discsOf 37 = .ok (.istore_n 3, 1) := by decide +kernel
theorem d_X1_discsOf_38 : decode c_X1_discsOf 38 = .ok (.iinc 4 1, 3) := by decide +kernel
theorem d_X1_discsOf_41 : decode c_X1_discsOf 41 = .ok (.goto (-36), 3) := by decide +kernel
theorem d_X1_discsOf_44 : decode c_X1_discsOf 44 = .ok (.iload_n 3, 1) := by decide +kernel
theorem d_X1_discsOf_45 : decode c_X1_discsOf 45 = .ok (.ireturn, 1) := by decide +kernel
theorem d_X1_ones_0 : decode c_X1_ones 0 = .ok (.iconst 0, 1) := by decide +kernel
theorem d_X1_ones_1 : decode c_X1_ones 1 = .ok (.istore_n 2, 1) := by decide +kernel
theorem d_X1_ones_2 : decode c_X1_ones 2 = .ok (.iconst 0, 1) := by decide +kernel
theorem d_X1_ones_3 : decode c_X1_ones 3 = .ok (.istore_n 3, 1) := by decide +kernel
theorem d_X1_ones_4 : decode c_X1_ones 4 = .ok (.iload_n 3, 1) := by decide +kernel
theorem d_X1_ones_5 : decode c_X1_ones 5 = .ok (.bipush 64, 2) := by decide +kernel
theorem d_X1_ones_7 : decode c_X1_ones 7 = .ok (.if_icmp .ge 27, 3) := by decide +kernel
theorem d_X1_ones_10 : decode c_X1_ones 10 = .ok (.lload_n 0, 1) := by decide +kernel
theorem d_X1_ones_11 : decode c_X1_ones 11 = .ok (.iload_n 3, 1) := by decide +kernel
theorem d_X1_ones_12 : decode c_X1_ones 12 = .ok (.lshr, 1) := by decide +kernel
theorem d_X1_ones_13 : decode c_X1_ones 13 = .ok (.lconst 1, 1) := by decide +kernel
theorem d_X1_ones_14 : decode c_X1_ones 14 = .ok (.land, 1) := by decide +kernel
theorem d_X1_ones_15 : decode c_X1_ones 15 = .ok (.lconst 1, 1) := by decide +kernel
theorem d_X1_ones_16 : decode c_X1_ones 16 = .ok (.lcmp, 1) := by decide +kernel
theorem d_X1_ones_17 : decode c_X1_ones 17 = .ok (.ifCond .ne 9, 3) := by decide +kernel
theorem d_X1_ones_20 : decode c_X1_ones 20 = .ok (.iload_n 2, 1) := by decide +kernel
theorem d_X1_ones_21 : decode c_X1_ones 21 = .ok (.iconst 1, 1) := by decide +kernel
theorem d_X1_ones_22 : decode c_X1_ones 22 = .ok (.iadd, 1) := by decide +kernel
theorem d_X1_ones_23 : decode c_X1_ones 23 = .ok (.goto 4, 3) := by decide +kernel
theorem d_X1_ones_26 : decode c_X1_ones 26 = .ok (.iload_n 2, 1) := by decide +kernel
theorem d_X1_ones_27 : decode c_X1_ones 27 = .ok (.istore_n 2, 1) := by decide +kernel
theorem d_X1_ones_28 : decode c_X1_ones 28 = .ok (.iinc 3 1, 3) := by decide +kernel
theorem d_X1_ones_31 : decode c_X1_ones 31 = .ok (.goto (-27), 3) := by decide +kernel
theorem d_X1_ones_34 : decode c_X1_ones 34 = .ok (.iload_n 2, 1) := by decide +kernel
theorem d_X1_ones_35 : decode c_X1_ones 35 = .ok (.ireturn, 1) := by decide +kernel
theorem d_X1_discs_0 : decode c_X1_discs 0 = .ok (.aload_n 0, 1) := by decide +kernel
theorem d_X1_discs_1 : decode c_X1_discs 1 = .ok (.iload_n 1, 1) := by decide +kernel
theorem d_X1_discs_2 : decode c_X1_discs 2 = .ok (.ifCond .lt 8, 3) := by decide +kernel
theorem d_X1_discs_5 : decode c_X1_discs 5 = .ok (.iload_n 1, 1) := by decide +kernel
theorem d_X1_discs_6 : decode c_X1_discs 6 = .ok (.iconst 1, 1) := by decide +kernel
theorem d_X1_discs_7 : decode c_X1_discs 7 = .ok (.if_icmp .le 7, 3) := by decide +kernel
theorem d_X1_discs_10 : decode c_X1_discs 10 = .ok (.iconst 1, 1) := by decide +kernel
theorem d_X1_discs_11 : decode c_X1_discs 11 = .ok (.goto 4, 3) := by decide +kernel
theorem d_X1_discs_14 : decode c_X1_discs 14 = .ok (.iconst 0, 1) := by decide +kernel
theorem d_X1_discs_15 : decode c_X1_discs 15 = .ok (.putfield 45, 3) := by decide +kernel
theorem d_X1_discs_18 : decode c_X1_discs 18 = .ok (.lconst 0, 1) := by decide +kernel
theorem d_X1_discs_19 : decode c_X1_discs 19 = .ok (.lstore_n 2, 1) := by decide +kernel
theorem d_X1_discs_20 : decode c_X1_discs 20 = .ok (.iconst 0, 1) := by decide +kernel
theorem d_X1_discs_21 : decode c_X1_discs 21 = .ok (.istore 4, 2) := by decide +kernel
theorem d_X1_discs_23 : decode c_X1_discs 23 = .ok (.iload 4, 2) := by decide +kernel
theorem d_X1_discs_25 : decode c_X1_discs 25 = .ok (.bipush 64, 2) := by decide +kernel
theorem d_X1_discs_27 : decode c_X1_discs 27 = .ok (.if_icmp .ge 40, 3) := by decide +kernel
theorem d_X1_discs_30 : decode c_X1_discs 30 = .ok (.aload_n 0, 1) := by decide +kernel
theorem d_X1_discs_31 : decode c_X1_discs 31 = .ok (.getfield 45, 3) := by decide +kernel
theorem d_X1_discs_34 : decode c_X1_discs 34 = .ok (.ifCond .ne 33, 3) := by decide +kernel
theorem d_X1_discs_37 : decode c_X1_discs 37 = .ok (.aload_n 0, 1) := by decide +kernel
theorem d_X1_discs_38 : decode c_X1_discs 38 = .ok (.getfield 7, 3) := by decide +kernel
theorem d_X1_discs_41 : decode c_X1_discs 41 = .ok (.iload 4, 2) := by decide +kernel
theorem d_X1_discs_43 : decode c_X1_discs 43 = .ok (.iaload, 1) := by decide +kernel
theorem d_X1_discs_44 : decode c_X1_discs 44 = .ok (.iload_n 1, 1) := by decide +kernel
theorem d_X1_discs_45 : decode c_X1_discs 45 = .ok (.iconst 1, 1) := by decide +kernel
theorem d_X1_discs_46 : decode c_X1_discs 46 = .ok (.iadd, 1) := by decide +kernel
theorem d_X1_discs_47 : decode c_X1_discs 47 = .ok (.if_icmp .ne 12, 3) := by decide +kernel
theorem d_X1_discs_50 : decode c_X1_discs 50 = .ok (.lload_n 2, 1) := by decide +kernel
theorem d_X1_discs_51 : decode c_X1_discs 51 = .ok (.lconst 1, 1) := by decide +kernel
theorem d_X1_discs_52 : decode c_X1_discs 52 = .ok (.iload 4, 2) := by decide +kernel
theorem d_X1_discs_54 : decode c_X1_discs 54 = .ok (.lshl, 1) := by decide +kernel
theorem d_X1_discs_55 : decode c_X1_discs 55 = .ok (.lor, 1) := by decide +kernel
theorem d_X1_discs_56 : decode c_X1_discs 56 = .ok (.goto 4, 3) := by decide +kernel
theorem d_X1_discs_59 : decode c_X1_discs 59 = .ok (.lload_n 2, 1) := by decide +kernel
theorem d_X1_discs_60 : decode c_X1_discs 60 = .ok (.lstore_n 2, 1) := by decide +kernel
theorem d_X1_discs_61 : decode c_X1_discs 61 = .ok (.iinc 4 1, 3) := by decide +kernel
theorem d_X1_discs_64 : decode c_X1_discs 64 = .ok (.goto (-41), 3) := by decide +kernel
theorem d_X1_discs_67 : decode c_X1_discs 67 = .ok (.lload_n 2, 1) := by decide +kernel
theorem d_X1_discs_68 : decode c_X1_discs 68 = .ok (.lreturn, 1) := by decide +kernel
theorem d_X1_player_0 : decode c_X1_player 0 = .ok (.aload_n 0, 1) := by decide +kernel
theorem d_X1_player_1 : decode c_X1_player 1 = .ok (.iconst 0, 1) := by decide +kernel
theorem d_X1_player_2 : decode c_X1_player 2 = .ok (.putfield 45, 3) := by decide +kernel
theorem d_X1_player_5 : decode c_X1_player 5 = .ok (.aload_n 0, 1) := by decide +kernel
theorem d_X1_player_6 : decode c_X1_player 6 = .ok (.getfield 13, 3) := by decide +kernel
theorem d_X1_player_9 : decode c_X1_player 9 = .ok (.iconst 0, 1) := by decide +kernel
theorem d_X1_player_10 : decode c_X1_player 10 = .ok (.iaload, 1) := by decide +kernel
theorem d_X1_player_11 : decode c_X1_player 11 = .ok (.ireturn, 1) := by decide +kernel
theorem d_X1_moves_0 : decode c_X1_moves 0 = .ok (.aload_n 0, 1) := by decide +kernel
theorem d_X1_moves_1 : decode c_X1_moves 1 = .ok (.iconst 0, 1) := by decide +kernel
theorem d_X1_moves_2 : decode c_X1_moves 2 = .ok (.putfield 45, 3) := by decide +kernel
theorem d_X1_moves_5 : decode c_X1_moves 5 = .ok (.lconst 0, 1) := by decide +kernel
theorem d_X1_moves_6 : decode c_X1_moves 6 = .ok (.lstore_n 1, 1) := by decide +kernel
theorem d_X1_moves_7 : decode c_X1_moves 7 = .ok (.iconst 0, 1) := by decide +kernel
theorem d_X1_moves_8 : decode c_X1_moves 8 = .ok (.istore_n 3, 1) := by decide +kernel
theorem d_X1_moves_9 : decode c_X1_moves 9 = .ok (.iload_n 3, 1) := by decide +kernel
theorem d_X1_moves_10 : decode c_X1_moves 10 = .ok (.bipush 64, 2) := by decide +kernel
theorem d_X1_moves_12 : decode c_X1_moves 12 = .ok (.if_icmp .ge 36, 3) := by decide +kernel
theorem d_X1_moves_15 : decode c_X1_moves 15 = .ok (.aload_n 0, 1) := by decide +kernel
theorem d_X1_moves_16 : decode c_X1_moves 16 = .ok (.iconst 0, 1) := by decide +kernel
theorem d_X1_moves_17 : decode c_X1_moves 17 = .ok (.iload_n 3, 1) := by decide +kernel
theorem d_X1_moves_18 : decode c_X1_moves 18 = .ok (.aload_n 0, 1) := by decide +kernel
theorem d_X1_moves_19 : decode c_X1_moves 19 = .ok (.getfield 13, 3) := by decide +kernel
theorem d_X1_moves_22 : decode c_X1_moves 22 = .ok (.iconst 0, 1) := by decide +kernel
theorem d_X1_moves_23 : decode c_X1_moves 23 = .ok (.iaload, 1) := by decide +kernel
theorem d_X1_moves_24 : decode c_X1_moves 24 = .ok (.invokevirtual 71, 3) := by decide +kernel
theorem d_X1_moves_27 : decode c_X1_moves 27 = .ok (.lconst 0, 1) := by decide +kernel
theorem d_X1_moves_28 : decode c_X1_moves 28 = .ok (.lcmp, 1) := by decide +kernel
theorem d_X1_moves_29 : decode c_X1_moves 29 = .ok (.ifCond .eq 11, 3) := by decide +kernel
theorem d_X1_moves_32 : decode c_X1_moves 32 = .ok (.lload_n 1, 1) := by decide +kernel
theorem d_X1_moves_33 : decode c_X1_moves 33 = .ok (.lconst 1, 1) := by decide +kernel
theorem d_X1_moves_34 : decode c_X1_moves 34 = .ok (.iload_n 3, 1) := by decide +kernel
theorem d_X1_moves_35 : decode c_X1_moves 35 = .ok (.lshl, 1) := by decide +kernel
theorem d_X1_moves_36 : decode c_X1_moves 36 = .ok (.lor, 1) := by decide +kernel
theorem d_X1_moves_37 : decode c_X1_moves 37 = .ok (.goto 4, 3) := by decide +kernel
theorem d_X1_moves_40 : decode c_X1_moves 40 = .ok (.lload_n 1, 1) := by decide +kernel
theorem d_X1_moves_41 : decode c_X1_moves 41 = .ok (.lstore_n 1, 1) := by decide +kernel
theorem d_X1_moves_42 : decode c_X1_moves 42 = .ok (.iinc 3 1, 3) := by decide +kernel
theorem d_X1_moves_45 : decode c_X1_moves 45 = .ok (.goto (-36), 3) := by decide +kernel
theorem d_X1_moves_48 : decode c_X1_moves 48 = .ok (.lload_n 1, 1) := by decide +kernel
theorem d_X1_moves_49 : decode c_X1_moves 49 = .ok (.lreturn, 1) := by decide +kernel
theorem d_X1_turns_0 : decode c_X1_turns 0 = .ok (.aload_n 0, 1) := by decide +kernel
theorem d_X1_turns_1 : decode c_X1_turns 1 = .ok (.iload_n 1, 1) := by decide +kernel
theorem d_X1_turns_2 : decode c_X1_turns 2 = .ok (.ifCond .lt 9, 3) := by decide +kernel
theorem d_X1_turns_5 : decode c_X1_turns 5 = .ok (.iload_n 1, 1) := by decide +kernel
theorem d_X1_turns_6 : decode c_X1_turns 6 = .ok (.bipush 63, 2) := by decide +kernel
theorem d_X1_turns_8 : decode c_X1_turns 8 = .ok (.if_icmp .le 7, 3) := by decide +kernel
theorem d_X1_turns_11 : decode c_X1_turns 11 = .ok (.iconst 1, 1) := by decide +kernel
theorem d_X1_turns_12 : decode c_X1_turns 12 = .ok (.goto 4, 3) := by decide +kernel
theorem d_X1_turns_15 : decode c_X1_turns 15 = .ok (.iconst 0, 1) := by decide +kernel
theorem d_X1_turns_16 : decode c_X1_turns 16 = .ok (.putfield 45, 3) := by decide +kernel
theorem d_X1_turns_19 : decode c_X1_turns 19 = .ok (.aload_n 0, 1) := by decide +kernel
theorem d_X1_turns_20 : decode c_X1_turns 20 = .ok (.getfield 45, 3) := by decide +kernel
theorem d_X1_turns_23 : decode c_X1_turns 23 = .ok (.ifCond .le 7, 3) := by decide +kernel
theorem d_X1_turns_26 : decode c_X1_turns 26 = .ok (.lconst 0, 1) := by decide +kernel
theorem d_X1_turns_27 : decode c_X1_turns 27 = .ok (.goto 15, 3) := by decide +kernel
theorem d_X1_turns_30 : decode c_X1_turns 30 = .ok (.aload_n 0, 1) := by decide +kernel
theorem d_X1_turns_31 : decode c_X1_turns 31 = .ok (.iconst 0, 1) := by decide +kernel
theorem d_X1_turns_32 : decode c_X1_turns 32 = .ok (.iload_n 1, 1) := by decide +kernel
theorem d_X1_turns_33 : decode c_X1_turns 33 = .ok (.aload_n 0, 1) := by decide +kernel
theorem d_X1_turns_34 : decode c_X1_turns 34 = .ok (.getfield 13, 3) := by decide +kernel
theorem d_X1_turns_37 : decode c_X1_turns 37 = .ok (.iconst 0, 1) := by decide +kernel
theorem d_X1_turns_38 : decode c_X1_turns 38 = .ok (.iaload, 1) := by decide +kernel
theorem d_X1_turns_39 : decode c_X1_turns 39 = .ok (.invokevirtual 71, 3) := by decide +kernel
theorem d_X1_turns_42 : decode c_X1_turns 42 = .ok (.lreturn, 1) := by decide +kernel
theorem d_X1_isOver_0 : decode c_X1_isOver 0 = .ok (.aload_n 0, 1) := by decide +kernel
theorem d_X1_isOver_1 : decode c_X1_isOver 1 = .ok (.iload_n 1, 1) := by decide +kernel
theorem d_X1_isOver_2 : decode c_X1_isOver 2 = .ok (.iconst 0, 1) := by decide +kernel
theorem d_X1_isOver_3 : decode c_X1_isOver 3 = .ok (.invokevirtual 75, 3) := by decide +kernel
theorem d_X1_isOver_6 : decode c_X1_isOver 6 = .ok (.ifCond .ne 16, 3) := by decide +kernel
theorem d_X1_isOver_9 : decode c_X1_isOver 9 = .ok (.aload_n 0, 1) := by decide +kernel
theorem d_X1_isOver_10 : decode c_X1_isOver 10 = .ok (.iload_n 1, 1) := by decide +kernel
theorem d_X1_isOver_11 : decode c_X1_isOver 11 = .ok (.iconst 1, 1) := by decide +kernel
theorem d_X1_isOver_12 : decode c_X1_isOver 12 = .ok (.invokevirtual 75, 3) := by decide +kernel
theorem d_X1_isOver_15 : decode c_X1_isOver 15 = .ok (.ifCond .ne 7, 3) := by decide +kernel
theorem d_X1_isOver_18 : decode c_X1_isOver 18 = .ok (.iconst 1, 1) := by decide +kernel
theorem d_X1_isOver_19 : decode c_X1_isOver 19 = .ok (.goto 4, 3) := by decide +kernel
theorem d_X1_isOver_22 : decode c_X1_isOver 22 = .ok (.iconst 0, 1) := by decide +kernel
theorem d_X1_isOver_23 : decode c_X1_isOver 23 = .ok (.ireturn, 1) := by decide +kernel
theorem d_X1_over_0 : decode c_X1_over 0 = .ok (.aload_n 0, 1) := by decide +kernel
theorem d_X1_over_1 : decode c_X1_over 1 = .ok (.iconst 0, 1) := by decide +kernel
theorem d_X1_over_2 : decode c_X1_over 2 = .ok (.putfield 45, 3) := by decide +kernel
theorem d_X1_over_5 : decode c_X1_over 5 = .ok (.aload_n 0, 1) := by decide +kernel
theorem d_X1_over_6 : decode c_X1_over 6 = .ok (.iconst 0, 1) := by decide +kernel
theorem d_X1_over_7 : decode c_X1_over 7 = .ok (.invokevirtual 79, 3) := by decide +kernel
theorem d_X1_over_10 : decode c_X1_over 10 = .ok (.ireturn, 1) := by decide +kernel
theorem d_X1_mustPass_0 : decode c_X1_mustPass 0 = .ok (.aload_n 0, 1) := by decide +kernel
theorem d_X1_mustPass_1 : decode c_X1_mustPass 1 = .ok (.iload_n 1, 1) := by decide +kernel
theorem d_X1_mustPass_2 : decode c_X1_mustPass 2 = .ok (.aload_n 0, 1) := by decide +kernel
theorem d_X1_mustPass_3 : decode c_X1_mustPass 3 = .ok (.getfield 13, 3) := by decide +kernel
theorem d_X1_mustPass_6 : decode c_X1_mustPass 6 = .ok (.iload_n 1, 1) := by decide +kernel
theorem d_X1_mustPass_7 : decode c_X1_mustPass 7 = .ok (.iaload, 1) := by decide +kernel
theorem d_X1_mustPass_8 : decode c_X1_mustPass 8 = .ok (.invokevirtual 75, 3) := by decide +kernel
theorem d_X1_mustPass_11 : decode c_X1_mustPass 11 = .ok (.ifCond .ne 23, 3) := by decide +kernel
theorem d_X1_mustPass_14 : decode c_X1_mustPass 14 = .ok (.aload_n 0, 1) := by decide +kernel
theorem d_X1_mustPass_15 : decode c_X1_mustPass 15 = .ok (.iload_n 1, 1) := by decide +kernel
theorem d_X1_mustPass_16 : decode c_X1_mustPass 16 = .ok (.iconst 1, 1) := by decide +kernel
theorem d_X1_mustPass_17 : decode c_X1_mustPass 17 = .ok (.aload_n 0, 1) := by decide +kernel
theorem d_X1_mustPass_18 : decode c_X1_mustPass 18 = .ok (.getfield 13, 3) := by decide +kernel
theorem d_X1_mustPass_21 : decode c_X1_mustPass 21 = .ok (.iload_n 1, 1) := by decide +kernel
theorem d_X1_mustPass_22 : decode c_X1_mustPass 22 = .ok (.iaload, 1) := by decide +kernel
theorem d_X1_mustPass_23 : decode c_X1_mustPass 23 = .ok (.isub, 1) := by decide +kernel
theorem d_X1_mustPass_24 : decode c_X1_mustPass 24 = .ok (.invokevirtual 75, 3) := by decide +kernel
theorem d_X1_mustPass_27 : decode c_X1_mustPass 27 = .ok (.ifCond .le 7, 3) := by decide +kernel
theorem d_X1_mustPass_30 : decode c_X1_mustPass 30 = .ok (.iconst 1, 1) := by decide +kernel
theorem d_X1_mustPass_31 : decode c_X1_mustPass 31 = .ok (.goto 4, 3) := by decide +kernel
theorem d_X1_mustPass_34 : decode c_X1_mustPass 34 = .ok (.iconst 0, 1) := by decide +kernel
theorem d_X1_mustPass_35 : decode c_X1_mustPass 35 = .ok (.ireturn, 1) := by decide +kernel
theorem d_X1_put_0 : decode c_X1_put 0 = .ok (.aload_n 0, 1) := by decide +kernel
theorem d_X1_put_1 : decode c_X1_put 1 = .ok (.getfield 13, 3) := by decide +kernel
theorem d_X1_put_4 : decode c_X1_put 4 = .ok (.iconst 0, 1) := by decide +kernel
theorem d_X1_put_5 : decode c_X1_put 5 = .ok (.iaload, 1) := by decide +kernel
theorem d_X1_put_6 : decode c_X1_put 6 = .ok (.istore_n 2, 1) := by decide +kernel
theorem d_X1_put_7 : decode c_X1_put 7 = .ok (.iload_n 1, 1) := by decide +kernel
theorem d_X1_put_8 : decode c_X1_put 8 = .ok (.bipush 64, 2) := by decide +kernel
theorem d_X1_put_10 : decode c_X1_put 10 = .ok (.if_icmp .ne 7, 3) := by decide +kernel
theorem d_X1_put_13 : decode c_X1_put 13 = .ok (.lconst 0, 1) := by decide +kernel
theorem d_X1_put_14 : decode c_X1_put 14 = .ok (.goto 10, 3) := by decide +kernel
theorem d_X1_put_17 : decode c_X1_put 17 = .ok (.aload_n 0, 1) := by decide +kernel
theorem d_X1_put_18 : decode c_X1_put 18 = .ok (.iconst 0, 1) := by decide +kernel
theorem d_X1_put_19 : decode c_X1_put 19 = .ok (.iload_n 1, 1) := by decide +kernel
theorem d_X1_put_20 : decode c_X1_put 20 = .ok (.iload_n 2, 1) := by decide +kernel
theorem d_X1_put_21 : decode c_X1_put 21 = .ok (.invokevirtual 71, 3) := by decide +kernel
theorem d_X1_put_24 : decode c_X1_put 24 = .ok (.lstore_n 3, 1) := by decide +kernel
theorem d_X1_put_25 : decode c_X1_put 25 = .ok (.iconst 0, 1) := by decide +kernel
theorem d_X1_put_26 : decode c_X1_put 26 = .ok (.istore 5, 2) := by decide +kernel
theorem d_X1_put_28 : decode c_X1_put 28 = .ok (.iload 5, 2) := by decide +kernel
theorem d_X1_put_30 : decode c_X1_put 30 = .ok (.bipush 64, 2) := by decide +kernel
theorem d_X1_put_32 : decode c_X1_put 32 = .ok (.if_icmp .ge 46, 3) := by decide +kernel
theorem d_X1_put_35 : decode c_X1_put 35 = .ok (.aload_n 0, 1) := by decide +kernel
theorem d_X1_put_36 : decode c_X1_put 36 = .ok (.getfield 7, 3) := by decide +kernel
theorem d_X1_put_39 : decode c_X1_put 39 = .ok (.iload 5, 2) := by decide +kernel
theorem d_X1_put_41 : decode c_X1_put 41 = .ok (.iload 5, 2) := by decide +kernel
theorem d_X1_put_43 : decode c_X1_put 43 = .ok (.iload_n 1, 1) := by decide +kernel
theorem d_X1_put_44 : decode c_X1_put 44 = .ok (.if_icmp .eq 14, 3) := by decide +kernel
theorem d_X1_put_47 : decode c_X1_put 47 = .ok (.lload_n 3, 1) := by decide +kernel
theorem d_X1_put_48 : decode c_X1_put 48 = .ok (.iload 5, 2) := by decide +kernel
theorem d_X1_put_50 : decode c_X1_put 50 = .ok (.lshr, 1) := by decide +kernel
theorem d_X1_put_51 : decode c_X1_put 51 = .ok (.lconst 1, 1) := by decide +kernel
theorem d_X1_put_52 : decode c_X1_put 52 = .ok (.land, 1) := by decide +kernel
theorem d_X1_put_53 : decode c_X1_put 53 = .ok (.lconst 1, 1) := by decide +kernel
theorem d_X1_put_54 : decode c_X1_put 54 = .ok (.lcmp, 1) := by decide +kernel
theorem d_X1_put_55 : decode c_X1_put 55 = .ok (.ifCond .ne 9, 3) := by decide +kernel
theorem d_X1_put_58 : decode c_X1_put 58 = .ok (.iload_n 2, 1) := by decide +kernel
theorem d_X1_put_59 : decode c_X1_put 59 = .ok (.iconst 1, 1) := by decide +kernel
theorem d_X1_put_60 : decode c_X1_put 60 = .ok (.iadd, 1) := by decide +kernel
theorem d_X1_put_61 : decode c_X1_put 61 = .ok (.goto 10, 3) := by decide +kernel
theorem d_X1_put_64 : decode c_X1_put 64 = .ok (.aload_n 0, 1) := by decide +kernel
theorem d_X1_put_65 : decode c_X1_put 65 = .ok (.getfield 7, 3) := by decide +kernel
theorem d_X1_put_68 : decode c_X1_put 68 = .ok (.iload 5, 2) := by decide +kernel
theorem d_X1_put_70 : decode c_X1_put 70 = .ok (.iaload, 1) := by decide +kernel
theorem d_X1_put_71 : decode c_X1_put 71 = .ok (.iastore, 1) := by decide +kernel
theorem d_X1_put_72 : decode c_X1_put 72 = .ok (.iinc 5 1, 3) := by decide +kernel
theorem d_X1_put_75 : decode c_X1_put 75 = .ok (.goto (-47), 3) := by decide +kernel
theorem d_X1_put_78 : decode c_X1_put 78 = .ok (.aload_n 0, 1) := by decide +kernel
theorem d_X1_put_79 : decode c_X1_put 79 = .ok (.getfield 13, 3) := by decide +kernel
theorem d_X1_put_82 : decode c_X1_put 82 = .ok (.iconst 0, 1) := by decide +kernel
theorem d_X1_put_83 : decode c_X1_put 83 = .ok (.iconst 1, 1) := by decide +kernel
theorem d_X1_put_84 : decode c_X1_put 84 = .ok (.iload_n 2, 1) := by decide +kernel
theorem d_X1_put_85 : decode c_X1_put 85 = .ok (.isub, 1) := by decide +kernel
theorem d_X1_put_86 : decode c_X1_put 86 = .ok (.iastore, 1) := by decide +kernel
theorem d_X1_put_87 : decode c_X1_put 87 = .ok (.aload_n 0, 1) := by decide +kernel
theorem d_X1_put_88 : decode c_X1_put 88 = .ok (.getfield 16, 3) := by decide +kernel
theorem d_X1_put_91 : decode c_X1_put 91 = .ok (.aload_n 0, 1) := by decide +kernel
theorem d_X1_put_92 : decode c_X1_put 92 = .ok (.getfield 49, 3) := by decide +kernel
theorem d_X1_put_95 : decode c_X1_put 95 = .ok (.iload_n 1, 1) := by decide +kernel
theorem d_X1_put_96 : decode c_X1_put 96 = .ok (.iastore, 1) := by decide +kernel
theorem d_X1_put_97 : decode c_X1_put 97 = .ok (.aload_n 0, 1) := by decide +kernel
theorem d_X1_put_98 : decode c_X1_put 98 = .ok (.getfield 19, 3) := by decide +kernel
theorem d_X1_put_101 : decode c_X1_put 101 = .ok (.aload_n 0, 1) := by decide +kernel
theorem d_X1_put_102 : decode c_X1_put 102 = .ok (.getfield 49, 3) := by decide +kernel
theorem d_X1_put_105 : decode c_X1_put 105 = .ok (.lload_n 3, 1) := by decide +kernel
theorem d_X1_put_106 : decode c_X1_put 106 = .ok (.lastore, 1) := by decide +kernel
theorem d_X1_put_107 : decode c_X1_put 107 = .ok (.aload_n 0, 1) := by decide +kernel
theorem d_X1_put_108 : decode c_X1_put 108 = .ok (.dup, 1) := by decide +kernel
theorem d_X1_put_109 : decode c_X1_put 109 = .ok (.getfield 49, 3) := by decide +kernel
theorem d_X1_put_112 : decode c_X1_put 112 = .ok (.iconst 1, 1) := by decide +kernel
theorem d_X1_put_113 : decode c_X1_put 113 = .ok (.iadd, 1) := by decide +kernel
theorem d_X1_put_114 : decode c_X1_put 114 = .ok (.putfield 49, 3) := by decide +kernel
theorem d_X1_put_117 : decode c_X1_put 117 = .ok (.lload_n 3, 1) := by decide +kernel
theorem d_X1_put_118 : decode c_X1_put 118 = .ok (.invokestatic 83, 3) := by decide +kernel
theorem d_X1_put_121 : decode c_X1_put 121 = .ok (.ireturn, 1) := by decide +kernel
theorem d_X1_play_0 : decode c_X1_play 0 = .ok (.iload_n 1, 1) := by decide +kernel
theorem d_X1_play_1 : decode c_X1_play 1 = .ok (.ifCond .lt 34, 3) := by decide +kernel
theorem d_X1_play_4 : decode c_X1_play 4 = .ok (.iload_n 1, 1) := by decide +kernel
theorem d_X1_play_5 : decode c_X1_play 5 = .ok (.bipush 64, 2) := by decide +kernel
theorem d_X1_play_7 : decode c_X1_play 7 = .ok (.if_icmp .ge 28, 3) := by decide +kernel
theorem d_X1_play_10 : decode c_X1_play 10 = .ok (.aload_n 0, 1) := by decide +kernel
theorem d_X1_play_11 : decode c_X1_play 11 = .ok (.iconst 0, 1) := by decide +kernel
theorem d_X1_play_12 : decode c_X1_play 12 = .ok (.iload_n 1, 1) := by decide +kernel
theorem d_X1_play_13 : decode c_X1_play 13 = .ok (.aload_n 0, 1) := by decide +kernel
theorem d_X1_play_14 : decode c_X1_play 14 = .ok (.getfield 13, 3) := by decide +kernel
theorem d_X1_play_17 : decode c_X1_play 17 = .ok (.iconst 0, 1) := by decide +kernel
theorem d_X1_play_18 : decode c_X1_play 18 = .ok (.iaload, 1) := by decide +kernel
theorem d_X1_play_19 : decode c_X1_play 19 = .ok (.invokevirtual 71, 3) := by decide +kernel
theorem d_X1_play_22 : decode c_X1_play 22 = .ok (.lconst 0, 1) := by decide +kernel
theorem d_X1_play_23 : decode c_X1_play 23 = .ok (.lcmp, 1) := by decide +kernel
theorem d_X1_play_24 : decode c_X1_play 24 = .ok (.ifCond .eq 7, 3) := by decide +kernel
theorem d_X1_play_27 : decode c_X1_play 27 = .ok (.iconst 1, 1) := by decide +kernel
theorem d_X1_play_28 : decode c_X1_play 28 = .ok (.goto 26, 3) := by decide +kernel
theorem d_X1_play_31 : decode c_X1_play 31 = .ok (.iconst 0, 1) := by decide +kernel
theorem d_X1_play_32 : decode c_X1_play 32 = .ok (.goto 22, 3) := by decide +kernel
theorem d_X1_play_35 : decode c_X1_play 35 = .ok (.iload_n 1, 1) := by decide +kernel
theorem d_X1_play_36 : decode c_X1_play 36 = .ok (.bipush 64, 2) := by decide +kernel
theorem d_X1_play_38 : decode c_X1_play 38 = .ok (.if_icmp .ne 15, 3) := by decide +kernel
theorem d_X1_play_41 : decode c_X1_play 41 = .ok (.aload_n 0, 1) := by decide +kernel
theorem d_X1_play_42 : decode c_X1_play 42 = .ok (.iconst 0, 1) := by decide +kernel
theorem d_X1_play_43 : decode c_X1_play 43 = .ok (.invokevirtual 87, 3) := by decide +kernel
theorem d_X1_play_46 : decode c_X1_play 46 = .ok (.ifCond .eq 7, 3) := by decide +kernel
theorem d_X1_play_49 : decode c_X1_play 49 = .ok (.iconst 1, 1) := by decide +kernel
theorem d_X1_play_50 : decode c_X1_play 50 = .ok (.goto 4, 3) := by decide +kernel
theorem d_X1_play_53 : decode c_X1_play 53 = .ok (.iconst 0, 1) := by decide +kernel
theorem d_X1_play_54 : decode c_X1_play 54 = .ok (.istore_n 2, 1) := by decide +kernel
theorem d_X1_play_55 : decode c_X1_play 55 = .ok (.aload_n 0, 1) := by decide +kernel
theorem d_X1_play_56 : decode c_X1_play 56 = .ok (.iload_n 2, 1) := by decide +kernel
theorem d_X1_play_57 : decode c_X1_play 57 = .ok (.ifCond .ne 7, 3) := by decide +kernel
theorem d_X1_play_60 : decode c_X1_play 60 = .ok (.iconst 1, 1) := by decide +kernel
theorem d_X1_play_61 : decode c_X1_play 61 = .ok (.goto 17, 3) := by decide +kernel
theorem d_X1_play_64 : decode c_X1_play 64 = .ok (.aload_n 0, 1) := by decide +kernel
theorem d_X1_play_65 : decode c_X1_play 65 = .ok (.getfield 49, 3) := by decide +kernel
theorem d_X1_play_68 : decode c_X1_play 68 = .ok (.bipush 64, 2) := by decide +kernel
theorem d_X1_play_70 : decode c_X1_play 70 = .ok (.if_icmp .ne 7, 3) := by decide +kernel
theorem d_X1_play_73 : decode c_X1_play 73 = .ok (.iconst 2, 1) := by decide +kernel
theorem d_X1_play_74 : decode c_X1_play 74 = .ok (.goto 4, 3) := by decide +kernel
theorem d_X1_play_77 : decode c_X1_play 77 = .ok (.iconst 0, 1) := by decide +kernel
theorem d_X1_play_78 : decode c_X1_play 78 = .ok (.putfield 45, 3) := by decide +kernel
theorem d_X1_play_81 : decode c_X1_play 81 = .ok (.aload_n 0, 1) := by decide +kernel
theorem d_X1_play_82 : decode c_X1_play 82 = .ok (.getfield 45, 3) := by decide +kernel
theorem d_X1_play_85 : decode c_X1_play 85 = .ok (.ifCond .le 7, 3) := by decide +kernel
theorem d_X1_play_88 : decode c_X1_play 88 = .ok (.iconst 0, 1) := by decide +kernel
theorem d_X1_play_89 : decode c_X1_play 89 = .ok (.goto 8, 3) := by decide +kernel
theorem d_X1_play_92 : decode c_X1_play 92 = .ok (.aload_n 0, 1) := by decide +kernel
theorem d_X1_play_93 : decode c_X1_play 93 = .ok (.iload_n 1, 1) := by decide +kernel
theorem d_X1_play_94 : decode c_X1_play 94 = .ok (.invokevirtual 90, 3) := by decide +kernel
theorem d_X1_play_97 : decode c_X1_play 97 = .ok (.ireturn, 1) := by decide +kernel
theorem d_X1_back_0 : decode c_X1_back 0 = .ok (.aload_n 0, 1) := by decide +kernel
theorem d_X1_back_1 : decode c_X1_back 1 = .ok (.aload_n 0, 1) := by decide +kernel
theorem d_X1_back_2 : decode c_X1_back 2 = .ok (.getfield 49, 3) := by decide +kernel
theorem d_X1_back_5 : decode c_X1_back 5 = .ok (.ifCond .ne 7, 3) := by decide +kernel
theorem d_X1_back_8 : decode c_X1_back 8 = .ok (.iconst 1, 1) := by decide +kernel
theorem d_X1_back_9 : decode c_X1_back 9 = .ok (.goto 4, 3) := by decide +kernel
theorem d_X1_back_12 : decode c_X1_back 12 = .ok (.iconst 0, 1) := by decide +kernel
theorem d_X1_back_13 : decode c_X1_back 13 = .ok (.putfield 45, 3) := by decide +kernel
theorem d_X1_back_16 : decode c_X1_back 16 = .ok (.aload_n 0, 1) := by decide +kernel
theorem d_X1_back_17 : decode c_X1_back 17 = .ok (.getfield 45, 3) := by decide +kernel
theorem d_X1_back_20 : decode c_X1_back 20 = .ok (.ifCond .le 5, 3) := by decide +kernel
theorem d_X1_back_23 : decode c_X1_back 23 = .ok (.iconst 0, 1) := by decide +kernel
theorem d_X1_back_24 : decode c_X1_back 24 = .ok (.ireturn, 1) := by decide +kernel
theorem d_X1_back_25 : decode c_X1_back 25 = .ok (.aload_n 0, 1) := by decide +kernel
theorem d_X1_back_26 : decode c_X1_back 26 = .ok (.dup, 1) := by decide +kernel
theorem d_X1_back_27 : decode c_X1_back 27 = .ok (.getfield 49, 3) := by decide +kernel
theorem d_X1_back_30 : decode c_X1_back 30 = .ok (.iconst 1, 1) := by decide +kernel
theorem d_X1_back_31 : decode c_X1_back 31 = .ok (.isub, 1) := by decide +kernel
theorem d_X1_back_32 : decode c_X1_back 32 = .ok (.putfield 49, 3) := by decide +kernel
theorem d_X1_back_35 : decode c_X1_back 35 = .ok (.iconst 1, 1) := by decide +kernel
theorem d_X1_back_36 : decode c_X1_back 36 = .ok (.aload_n 0, 1) := by decide +kernel
theorem d_X1_back_37 : decode c_X1_back 37 = .ok (.getfield 13, 3) := by decide +kernel
theorem d_X1_back_40 : decode c_X1_back 40 = .ok (.iconst 0, 1) := by decide +kernel
theorem d_X1_back_41 : decode c_X1_back 41 = .ok (.iaload, 1) := by decide +kernel
theorem d_X1_back_42 : decode c_X1_back 42 = .ok (.isub, 1) := by decide +kernel
theorem d_X1_back_43 : decode c_X1_back 43 = .ok (.istore_n 1, 1) := by decide +kernel
theorem d_X1_back_44 : decode c_X1_back 44 = .ok (.iconst 0, 1) := by decide +kernel
theorem d_X1_back_45 : decode c_X1_back 45 = .ok (.istore_n 2, 1) := by decide +kernel
theorem d_X1_back_46 : decode c_X1_back 46 = .ok (.iload_n 2, 1) := by decide +kernel
theorem d_X1_back_47 : decode c_X1_back 47 = .ok (.bipush 64, 2) := by decide +kernel
theorem d_X1_back_49 : decode c_X1_back 49 = .ok (.if_icmp .ge 62, 3) := by decide +kernel
theorem d_X1_back_52 : decode c_X1_back 52 = .ok (.aload_n 0, 1) := by decide +kernel
theorem d_X1_back_53 : decode c_X1_back 53 = .ok (.getfield 7, 3) := by decide +kernel
theorem d_X1_back_56 : decode c_X1_back 56 = .ok (.iload_n 2, 1) := by decide +kernel
theorem d_X1_back_57 : decode c_X1_back 57 = .ok (.aload_n 0, 1) := by decide +kernel
theorem d_X1_back_58 : decode c_X1_back 58 = .ok (.getfield 19, 3) := by decide +kernel
theorem d_X1_back_61 : decode c_X1_back 61 = .ok (.aload_n 0, 1) := by decide +kernel
theorem d_X1_back_62 : decode c_X1_back 62 = .ok (.getfield 49, 3) := by decide +kernel
theorem d_X1_back_65 : decode c_X1_back 65 = .ok (.laload, 1) := by decide +kernel
theorem d_X1_back_66 : decode c_X1_back 66 = .ok (.iload_n 2, 1) := by decide +kernel
theorem d_X1_back_67 : decode c_X1_back 67 = .ok (.lshr, 1) := by decide +kernel
theorem d_X1_back_68 : decode c_X1_back 68 = .ok (.lconst 1, 1) := by decide +kernel
theorem d_X1_back_69 : decode c_X1_back 69 = .ok (.land, 1) := by decide +kernel
theorem d_X1_back_70 : decode c_X1_back 70 = .ok (.lconst 1, 1) := by decide +kernel
theorem d_X1_back_71 : decode c_X1_back 71 = .ok (.lcmp, 1) := by decide +kernel
theorem d_X1_back_72 : decode c_X1_back 72 = .ok (.ifCond .ne 9, 3) := by decide +kernel
theorem d_X1_back_75 : decode c_X1_back 75 = .ok (.iconst 2, 1) := by decide +kernel
theorem d_X1_back_76 : decode c_X1_back 76 = .ok (.iload_n 1, 1) := by decide +kernel
theorem d_X1_back_77 : decode c_X1_back 77 = .ok (.isub, 1) := by decide +kernel
theorem d_X1_back_78 : decode c_X1_back 78 = .ok (.goto 26, 3) := by decide +kernel
theorem d_X1_back_81 : decode c_X1_back 81 = .ok (.iload_n 2, 1) := by decide +kernel
theorem d_X1_back_82 : decode c_X1_back 82 = .ok (.aload_n 0, 1) := by decide +kernel
theorem d_X1_back_83 : decode c_X1_back 83 = .ok (.getfield 16, 3) := by decide +kernel
theorem d_X1_back_86 : decode c_X1_back 86 = .ok (.aload_n 0, 1) := by decide +kernel
theorem d_X1_back_87 : decode c_X1_back 87 = .ok (.getfield 49, 3) := by decide +kernel
theorem d_X1_back_90 : decode c_X1_back 90 = .ok (.iaload, 1) := by decide +kernel
theorem d_X1_back_91 : decode c_X1_back 91 = .ok (.if_icmp .ne 7, 3) := by decide +kernel
theorem d_X1_back_94 : decode c_X1_back 94 = .ok (.iconst 0, 1) := by decide +kernel
theorem d_X1_back_95 : decode c_X1_back 95 = .ok (.goto 9, 3) := by decide +kernel
theorem d_X1_back_98 : decode c_X1_back 98 = .ok (.aload_n 0, 1) := by decide +kernel
theorem d_X1_back_99 : decode c_X1_back 99 = .ok (.getfield 7, 3) := by decide +kernel
theorem d_X1_back_102 : decode c_X1_back 102 = .ok (.iload_n 2, 1) := by decide +kernel
theorem d_X1_back_103 : decode c_X1_back 103 = .ok (.iaload, 1) := by decide +kernel
theorem d_X1_back_104 : decode c_X1_back 104 = .ok (.iastore, 1) := by decide +kernel
theorem d_X1_back_105 : decode c_X1_back 105 = .ok (.iinc 2 1, 3) := by decide +kernel
theorem d_X1_back_108 : decode c_X1_back 108 = .ok (.goto (-62), 3) := by decide +kernel
theorem d_X1_back_111 : decode c_X1_back 111 = .ok (.aload_n 0, 1) := by decide +kernel
theorem d_X1_back_112 : decode c_X1_back 112 = .ok (.getfield 13, 3) := by decide +kernel
theorem d_X1_back_115 : decode c_X1_back 115 = .ok (.iconst 0, 1) := by decide +kernel
theorem d_X1_back_116 : decode c_X1_back 116 = .ok (.iload_n 1, 1) := by decide +kernel
theorem d_X1_back_117 : decode c_X1_back 117 = .ok (.iastore, 1) := by decide +kernel
theorem d_X1_back_118 : decode c_X1_back 118 = .ok (.aload_n 0, 1) := by decide +kernel
theorem d_X1_back_119 : decode c_X1_back 119 = .ok (.getfield 16, 3) := by decide +kernel
theorem d_X1_back_122 : decode c_X1_back 122 = .ok (.aload_n 0, 1) := by decide +kernel
theorem d_X1_back_123 : decode c_X1_back 123 = .ok (.getfield 49, 3) := by decide +kernel
theorem d_X1_back_126 : decode c_X1_back 126 = .ok (.iaload, 1) := by decide +kernel
theorem d_X1_back_127 : decode c_X1_back 127 = .ok (.ireturn, 1) := by decide +kernel
theorem d_X1_made_0 : decode c_X1_made 0 = .ok (.aload_n 0, 1) := by decide +kernel
theorem d_X1_made_1 : decode c_X1_made 1 = .ok (.iconst 0, 1) := by decide +kernel
theorem d_X1_made_2 : decode c_X1_made 2 = .ok (.putfield 45, 3) := by decide +kernel
theorem d_X1_made_5 : decode c_X1_made 5 = .ok (.aload_n 0, 1) := by decide +kernel
theorem d_X1_made_6 : decode c_X1_made 6 = .ok (.getfield 49, 3) := by decide +kernel
theorem d_X1_made_9 : decode c_X1_made 9 = .ok (.ireturn, 1) := by decide +kernel
theorem d_X1_difference_0 : decode c_X1_difference 0 = .ok (.aload_n 0, 1) := by decide +kernel
theorem d_X1_difference_1 : decode c_X1_difference 1 = .ok (.iconst 0, 1) := by decide +kernel
theorem d_X1_difference_2 : decode c_X1_difference 2 = .ok (.putfield 45, 3) := by decide +kernel
theorem d_X1_difference_5 : decode c_X1_difference 5 = .ok (.aload_n 0, 1) := by decide +kernel
theorem d_X1_difference_6 : decode c_X1_difference 6 = .ok (.iconst 0, 1) := by decide +kernel
theorem d_X1_difference_7 : decode c_X1_difference 7 = .ok (.iconst 0, 1) := by decide +kernel
theorem d_X1_difference_8 : decode c_X1_difference 8 = .ok (.invokevirtual 93, 3) := by decide +kernel
theorem d_X1_difference_11 : decode c_X1_difference 11 = .ok (.aload_n 0, 1) := by decide +kernel
theorem d_X1_difference_12 : decode c_X1_difference 12 = .ok (.iconst 0, 1) := by decide +kernel
theorem d_X1_difference_13 : decode c_X1_difference 13 = .ok (.iconst 1, 1) := by decide +kernel
theorem d_X1_difference_14 : decode c_X1_difference 14 = .ok (.invokevirtual 93, 3) := by decide +kernel
theorem d_X1_difference_17 : decode c_X1_difference 17 = .ok (.isub, 1) := by decide +kernel
theorem d_X1_difference_18 : decode c_X1_difference 18 = .ok (.ireturn, 1) := by decide +kernel
theorem d_X1_layNext_0 : decode c_X1_layNext 0 = .ok (.aload_n 0, 1) := by decide +kernel
theorem d_X1_layNext_1 : decode c_X1_layNext 1 = .ok (.getfield 13, 3) := by decide +kernel
theorem d_X1_layNext_4 : decode c_X1_layNext 4 = .ok (.iload_n 1, 1) := by decide +kernel
theorem d_X1_layNext_5 : decode c_X1_layNext 5 = .ok (.iaload, 1) := by decide +kernel
theorem d_X1_layNext_6 : decode c_X1_layNext 6 = .ok (.istore_n 3, 1) := by decide +kernel
theorem d_X1_layNext_7 : decode c_X1_layNext 7 = .ok (.iload_n 2, 1) := by decide +kernel
theorem d_X1_layNext_8 : decode c_X1_layNext 8 = .ok (.bipush 64, 2) := by decide +kernel
theorem d_X1_layNext_10 : decode c_X1_layNext 10 = .ok (.if_icmp .ne 7, 3) := by decide +kernel
theorem d_X1_layNext_13 : decode c_X1_layNext 13 = .ok (.lconst 0, 1) := by decide +kernel
theorem d_X1_layNext_14 : decode c_X1_layNext 14 = .ok (.goto 10, 3) := by decide +kernel
theorem d_X1_layNext_17 : decode c_X1_layNext 17 = .ok (.aload_n 0, 1) := by decide +kernel
theorem d_X1_layNext_18 : decode c_X1_layNext 18 = .ok (.iload_n 1, 1) := by decide +kernel
theorem d_X1_layNext_19 : decode c_X1_layNext 19 = .ok (.iload_n 2, 1) := by decide +kernel
theorem d_X1_layNext_20 : decode c_X1_layNext 20 = .ok (.iload_n 3, 1) := by decide +kernel
theorem d_X1_layNext_21 : decode c_X1_layNext 21 = .ok (.invokevirtual 71, 3) := by decide +kernel
theorem d_X1_layNext_24 : decode c_X1_layNext 24 = .ok (.lstore 4, 2) := by decide +kernel
theorem d_X1_layNext_26 : decode c_X1_layNext 26 = .ok (.iconst 0, 1) := by decide +kernel
theorem d_X1_layNext_27 : decode c_X1_layNext 27 = .ok (.istore 6, 2) := by decide +kernel
theorem d_X1_layNext_29 : decode c_X1_layNext 29 = .ok (.iload 6, 2) := by decide +kernel
theorem d_X1_layNext_31 : decode c_X1_layNext 31 = .ok (.bipush 64, 2) := by decide +kernel
theorem d_X1_layNext_33 : decode c_X1_layNext 33 = .ok (.if_icmp .ge 72, 3) := by decide +kernel
theorem d_X1_layNext_36 : decode c_X1_layNext 36 = .ok (.iload 6, 2) := by decide +kernel
theorem d_X1_layNext_38 : decode c_X1_layNext 38 = .ok (.iload_n 2, 1) := by decide +kernel
theorem d_X1_layNext_39 : decode c_X1_layNext 39 = .ok (.if_icmp .eq 15, 3) := by decide +kernel
theorem d_X1_layNext_42 : decode c_X1_layNext 42 = .ok (.lload 4, 2) := by decide +kernel
theorem d_X1_layNext_44 : decode c_X1_layNext 44 = .ok (.iload 6, 2) := by decide +kernel
theorem d_X1_layNext_46 : decode c_X1_layNext 46 = .ok (.lshr, 1) := by decide +kernel
theorem d_X1_layNext_47 : decode c_X1_layNext 47 = .ok (.lconst 1, 1) := by decide +kernel
theorem d_X1_layNext_48 : decode c_X1_layNext 48 = .ok (.land, 1) := by decide +kernel
theorem d_X1_layNext_49 : decode c_X1_layNext 49 = .ok (.lconst 1, 1) := by decide +kernel
theorem d_X1_layNext_50 : decode c_X1_layNext 50 = .ok (.lcmp, 1) := by decide +kernel
theorem d_X1_layNext_51 : decode c_X1_layNext 51 = .ok (.ifCond .ne 7, 3) := by decide +kernel
theorem d_X1_layNext_54 : decode c_X1_layNext 54 = .ok (.iconst 1, 1) := by decide +kernel
theorem d_X1_layNext_55 : decode c_X1_layNext 55 = .ok (.goto 4, 3) := by decide +kernel
theorem d_X1_layNext_58 : decode c_X1_layNext 58 = .ok (.iconst 0, 1) := by decide +kernel
theorem d_X1_layNext_59 : decode c_X1_layNext 59 = .ok (.istore 7, 2) := by decide +kernel
theorem d_X1_layNext_61 : decode c_X1_layNext 61 = .ok (.aload_n 0, 1) := by decide +kernel
theorem d_X1_layNext_62 : decode c_X1_layNext 62 = .ok (.getfield 7, 3) := by decide +kernel
theorem d_X1_layNext_65 : decode c_X1_layNext 65 = .ok (.bipush 64, 2) := by decide +kernel
theorem d_X1_layNext_67 : decode c_X1_layNext 67 = .ok (.iload_n 1, 1) := by decide +kernel
theorem d_X1_layNext_68 : decode c_X1_layNext 68 = .ok (.imul, 1) := by decide +kernel
theorem d_X1_layNext_69 : decode c_X1_layNext 69 = .ok (.bipush 64, 2) := by decide +kernel
theorem d_X1_layNext_71 : decode c_X1_layNext 71 = .ok (.iadd, 1) := by decide +kernel
theorem d_X1_layNext_72 : decode c_X1_layNext 72 = .ok (.iload 6, 2) := by decide +kernel
theorem d_X1_layNext_74 : decode c_X1_layNext 74 = .ok (.iadd, 1) := by decide +kernel
theorem d_X1_layNext_75 : decode c_X1_layNext 75 = .ok (.iload 7, 2) := by decide +kernel
theorem d_X1_layNext_77 : decode c_X1_layNext 77 = .ok (.ifCond .eq 9, 3) := by decide +kernel
theorem d_X1_layNext_80 : decode c_X1_layNext 80 = .ok (.iload_n 3, 1) := by decide +kernel
theorem d_X1_layNext_81 : decode c_X1_layNext 81 = .ok (.iconst 1, 1) := by decide +kernel
theorem d_X1_layNext_82 : decode c_X1_layNext 82 = .ok (.iadd, 1) := by decide +kernel
theorem d_X1_layNext_83 : decode c_X1_layNext 83 = .ok (.goto 15, 3) := by decide +kernel
theorem d_X1_layNext_86 : decode c_X1_layNext 86 = .ok (.aload_n 0, 1) := by decide +kernel
theorem d_X1_layNext_87 : decode c_X1_layNext 87 = .ok (.getfield 7, 3) := by decide +kernel
theorem d_X1_layNext_90 : decode c_X1_layNext 90 = .ok (.bipush 64, 2) := by decide +kernel
theorem d_X1_layNext_92 : decode c_X1_layNext 92 = .ok (.iload_n 1, 1) := by decide +kernel
theorem d_X1_layNext_93 : decode c_X1_layNext 93 = .ok (.imul, 1) := by decide +kernel
theorem d_X1_layNext_94 : decode c_X1_layNext 94 = .ok (.iload 6, 2) := by decide +kernel
theorem d_X1_layNext_96 : decode c_X1_layNext 96 = .ok (.iadd, 1) := by decide +kernel
theorem d_X1_layNext_97 : decode c_X1_layNext 97 = .ok (.iaload, 1) := by decide +kernel
theorem d_X1_layNext_98 : decode c_X1_layNext 98 = .ok (.iastore, 1) := by decide +kernel
theorem d_X1_layNext_99 : decode c_X1_layNext 99 = .ok (.iinc 6 1, 3) := by decide +kernel
theorem d_X1_layNext_102 : decode c_X1_layNext 102 = .ok (.goto (-73), 3) := by decide +kernel
theorem d_X1_layNext_105 : decode c_X1_layNext 105 = .ok (.aload_n 0, 1) := by decide +kernel
theorem d_X1_layNext_106 : decode c_X1_layNext 106 = .ok (.getfield 13, 3) := by decide +kernel
theorem d_X1_layNext_109 : decode c_X1_layNext 109 = .ok (.iload_n 1, 1) := by decide +kernel
theorem d_X1_layNext_110 : decode c_X1_layNext 110 = .ok (.iconst 1, 1) := by decide +kernel
theorem d_X1_layNext_111 : decode c_X1_layNext 111 = .ok (.iadd, 1) := by decide +kernel
theorem d_X1_layNext_112 : decode c_X1_layNext 112 = .ok (.iconst 1, 1) := by decide +kernel
theorem d_X1_layNext_113 : decode c_X1_layNext 113 = .ok (.iload_n 3, 1) := by decide +kernel
theorem d_X1_layNext_114 : decode c_X1_layNext 114 = .ok (.isub, 1) := by decide +kernel
theorem d_X1_layNext_115 : decode c_X1_layNext 115 = .ok (.iastore, 1) := by decide +kernel
theorem d_X1_layNext_116 : decode c_X1_layNext 116 = .ok (.return_, 1) := by decide +kernel
theorem d_X1_findSpots_0 : decode c_X1_findSpots 0 = .ok (.aload_n 0, 1) := by decide +kernel
theorem d_X1_findSpots_1 : decode c_X1_findSpots 1 = .ok (.iconst 0, 1) := by decide +kernel
theorem d_X1_findSpots_2 : decode c_X1_findSpots 2 = .ok (.putfield 96, 3) := by decide +kernel
theorem d_X1_findSpots_5 : decode c_X1_findSpots 5 = .ok (.iconst 0, 1) := by decide +kernel
theorem d_X1_findSpots_6 : decode c_X1_findSpots 6 = .ok (.istore_n 1, 1) := by decide +kernel
theorem d_X1_findSpots_7 : decode c_X1_findSpots 7 = .ok (.iload_n 1, 1) := by decide +kernel
theorem d_X1_findSpots_8 : decode c_X1_findSpots 8 = .ok (.bipush 64, 2) := by decide +kernel
theorem d_X1_findSpots_10 : decode c_X1_findSpots 10 = .ok (.if_icmp .ge 38, 3) := by decide +kernel
theorem d_X1_findSpots_13 : decode c_X1_findSpots 13 = .ok (.aload_n 0, 1) := by decide +kernel
theorem d_X1_findSpots_14 : decode c_X1_findSpots 14 = .ok (.getfield 7, 3) := by decide +kernel
theorem d_X1_findSpots_17 : decode c_X1_findSpots 17 = .ok (.iload_n 1, 1) := by decide +kernel
theorem d_X1_findSpots_18 : decode c_X1_findSpots 18 = .ok (.iaload, 1) := by decide +kernel
theorem d_X1_findSpots_19 : decode c_X1_findSpots 19 = .ok (.ifCond .ne 23, 3) := by decide +kernel
theorem d_X1_findSpots_22 : decode c_X1_findSpots 22 = .ok (.aload_n 0, 1) := by decide +kernel
theorem d_X1_findSpots_23 : decode c_X1_findSpots 23 = .ok (.getfield 36, 3) := by decide +kernel
theorem d_X1_findSpots_26 : decode c_X1_findSpots 26 = .ok (.aload_n 0, 1) := by decide +kernel
theorem d_X1_findSpots_27 : decode c_X1_findSpots 27 = .ok (.getfield 96, 3) := by decide +kernel
theorem d_X1_findSpots_30 : decode c_X1_findSpots 30 = .ok (.iload_n 1, 1) := by decide +kernel
theorem d_X1_findSpots_31 : decode c_X1_findSpots 31 = .ok (.iastore, 1) := by decide +kernel
theorem d_X1_findSpots_32 : decode c_X1_findSpots 32 = .ok (.aload_n 0, 1) := by decide +kernel
theorem d_X1_findSpots_33 : decode c_X1_findSpots 33 = .ok (.dup, 1) := by decide +kernel
theorem d_X1_findSpots_34 : decode c_X1_findSpots 34 = .ok (.getfield 96, 3) := by decide +kernel
theorem d_X1_findSpots_37 : decode c_X1_findSpots 37 = .ok (.iconst 1, 1) := by decide +kernel
theorem d_X1_findSpots_38 : decode c_X1_findSpots 38 = .ok (.iadd, 1) := by decide +kernel
theorem d_X1_findSpots_39 : decode c_X1_findSpots 39 = .ok (.putfield 96, 3) := by decide +kernel
theorem d_X1_findSpots_42 : decode c_X1_findSpots 42 = .ok (.iinc 1 1, 3) := by decide +kernel
theorem d_X1_findSpots_45 : decode c_X1_findSpots 45 = .ok (.goto (-38), 3) := by decide +kernel
theorem d_X1_findSpots_48 : decode c_X1_findSpots 48 = .ok (.return_, 1) := by decide +kernel
theorem d_X1_turnsAny_0 : decode c_X1_turnsAny 0 = .ok (.iconst 0, 1) := by decide +kernel
theorem d_X1_turnsAny_1 : decode c_X1_turnsAny 1 = .ok (.istore 4, 2) := by decide +kernel
theorem d_X1_turnsAny_3 : decode c_X1_turnsAny 3 = .ok (.iconst 0, 1) := by decide +kernel
theorem d_X1_turnsAny_4 : decode c_X1_turnsAny 4 = .ok (.istore 5, 2) := by decide +kernel
theorem d_X1_turnsAny_6 : decode c_X1_turnsAny 6 = .ok (.iload 5, 2) := by decide +kernel
theorem d_X1_turnsAny_8 : decode c_X1_turnsAny 8 = .ok (.bipush 8, 2) := by decide +kernel
theorem d_X1_turnsAny_10 : decode c_X1_turnsAny 10 = .ok (.if_icmp .ge 47, 3) := by decide +kernel
theorem d_X1_turnsAny_13 : decode c_X1_turnsAny 13 = .ok (.aload_n 0, 1) := by decide +kernel
theorem d_X1_turnsAny_14 : decode c_X1_turnsAny 14 = .ok (.getfield 7, 3) := by decide +kernel
theorem d_X1_turnsAny_17 : decode c_X1_turnsAny 17 = .ok (.bipush 64, 2) := by decide +kernel
theorem d_X1_turnsAny_19 : decode c_X1_turnsAny 19 = .ok (.iload_n 1, 1) := by decide +kernel
theorem d_X1_turnsAny_20 : decode c_X1_turnsAny 20 = .ok (.imul, 1) := by decide +kernel
theorem d_X1_turnsAny_21 : decode c_X1_turnsAny 21 = .ok (.iload_n 2, 1) := by decide +kernel
theorem d_X1_turnsAny_22 : decode c_X1_turnsAny 22 = .ok (.iadd, 1) := by decide +kernel
theorem d_X1_turnsAny_23 : decode c_X1_turnsAny 23 = .ok (.iaload, 1) := by decide +kernel
theorem d_X1_turnsAny_24 : decode c_X1_turnsAny 24 = .ok (.ifCond .ne 33, 3) := by decide +kernel
theorem d_X1_turnsAny_27 : decode c_X1_turnsAny 27 = .ok (.iload 4, 2) := by decide +kernel
theorem d_X1_turnsAny_29 : decode c_X1_turnsAny 29 = .ok (.ifCond .ne 28, 3) := by decide +kernel
theorem d_X1_turnsAny_32 : decode c_X1_turnsAny 32 = .ok (.aload_n 0, 1) := by decide +kernel
theorem d_X1_turnsAny_33 : decode c_X1_turnsAny 33 = .ok (.iload_n 1, 1) := by decide +kernel
theorem d_X1_turnsAny_34 : decode c_X1_turnsAny 34 = .ok (.iload_n 2, 1) := by decide +kernel
theorem d_X1_turnsAny_35 : decode c_X1_turnsAny 35 = .ok (.iload 5, 2) := by decide +kernel
theorem d_X1_turnsAny_37 : decode c_X1_turnsAny 37 = .ok (.iload_n 3, 1) := by decide +kernel
theorem d_X1_turnsAny_38 : decode c_X1_turnsAny 38 = .ok (.invokevirtual 67, 3) := by decide +kernel
theorem d_X1_turnsAny_41 : decode c_X1_turnsAny 41 = .ok (.ifCond .le 7, 3) := by decide +kernel
theorem d_X1_turnsAny_44 : decode c_X1_turnsAny 44 = .ok (.iconst 1, 1) := by decide +kernel
theorem d_X1_turnsAny_45 : decode c_X1_turnsAny 45 = .ok (.goto 4, 3) := by decide +kernel
theorem d_X1_turnsAny_48 : decode c_X1_turnsAny 48 = .ok (.iconst 0, 1) := by decide +kernel
theorem d_X1_turnsAny_49 : decode c_X1_turnsAny 49 = .ok (.istore 4, 2) := by decide +kernel
theorem d_X1_turnsAny_51 : decode c_X1_turnsAny 51 = .ok (.iinc 5 1, 3) := by decide +kernel
theorem d_X1_turnsAny_54 : decode c_X1_turnsAny 54 = .ok (.goto (-48), 3) := by decide +kernel
theorem d_X1_turnsAny_57 : decode c_X1_turnsAny 57 = .ok (.iload 4, 2) := by decide +kernel
theorem d_X1_turnsAny_59 : decode c_X1_turnsAny 59 = .ok (.ireturn, 1) := by decide +kernel
theorem d_X1_movable_0 : decode c_X1_movable 0 = .ok (.iconst 0, 1) := by decide +kernel
theorem d_X1_movable_1 : decode c_X1_movable 1 = .ok (.istore 4, 2) := by decide +kernel
theorem d_X1_movable_3 : decode c_X1_movable 3 = .ok (.iconst 0, 1) := by decide +kernel
theorem d_X1_movable_4 : decode c_X1_movable 4 = .ok (.istore 5, 2) := by decide +kernel
theorem d_X1_movable_6 : decode c_X1_movable 6 = .ok (.iload 5, 2) := by decide +kernel
theorem d_X1_movable_8 : decode c_X1_movable 8 = .ok (.aload_n 0, 1) := by decide +kernel
theorem d_X1_movable_9 : decode c_X1_movable 9 = .ok (.getfield 96, 3) := by decide +kernel
theorem d_X1_movable_12 : decode c_X1_movable 12 = .ok (.if_icmp .ge 42, 3) := by decide +kernel
theorem d_X1_movable_15 : decode c_X1_movable 15 = .ok (.iload 4, 2) := by decide +kernel
theorem d_X1_movable_17 : decode c_X1_movable 17 = .ok (.iload_n 3, 1) := by decide +kernel
theorem d_X1_movable_18 : decode c_X1_movable 18 = .ok (.if_icmp .ge 36, 3) := by decide +kernel
theorem d_X1_movable_21 : decode c_X1_movable 21 = .ok (.aload_n 0, 1) := by decide +kernel
theorem d_X1_movable_22 : decode c_X1_movable 22 = .ok (.iload_n 1, 1) := by decide +kernel
theorem d_X1_movable_23 : decode c_X1_movable 23 = .ok (.aload_n 0, 1) := by decide +kernel
theorem d_X1_movable_24 : decode c_X1_movable 24 = .ok (.getfield 36, 3) := by decide +kernel
theorem d_X1_movable_27 : decode c_X1_movable 27 = .ok (.iload 5, 2) := by decide +kernel
theorem d_X1_movable_29 : decode c_X1_movable 29 = .ok (.iaload, 1) := by decide +kernel
theorem d_X1_movable_30 : decode c_X1_movable 30 = .ok (.iload_n 2, 1) := by decide +kernel
theorem d_X1_movable_31 : decode c_X1_movable 31 = .ok (.invokevirtual 99, 3) := by decide +kernel
theorem d_X1_movable_34 : decode c_X1_movable 34 = .ok (.ifCond .eq 10, 3) := by decide +kernel
theorem d_X1_movable_37 : decode c_X1_movable 37 = .ok (.iload 4, 2) := by decide +kernel
theorem d_X1_movable_39 : decode c_X1_movable 39 = .ok (.iconst 1, 1) := by decide +kernel
theorem d_X1_movable_40 : decode c_X1_movable 40 = .ok (.iadd, 1) := by decide +kernel
theorem d_X1_movable_41 : decode c_X1_movable 41 = .ok (.goto 5, 3) := by decide +kernel
theorem d_X1_movable_44 : decode c_X1_movable 44 = .ok (.iload 4, 2) := by decide +kernel
theorem d_X1_movable_46 : decode c_X1_movable 46 = .ok (.istore 4, 2) := by decide +kernel
theorem d_X1_movable_48 : decode c_X1_movable 48 = .ok (.iinc 5 1, 3) := by decide +kernel
theorem d_X1_movable_51 : decode c_X1_movable 51 = .ok (.goto (-45), 3) := by decide +kernel
theorem d_X1_movable_54 : decode c_X1_movable 54 = .ok (.iload 4, 2) := by decide +kernel
theorem d_X1_movable_56 : decode c_X1_movable 56 = .ok (.ireturn, 1) := by decide +kernel
theorem d_X1_enter_0 : decode c_X1_enter 0 = .ok (.aload_n 0, 1) := by decide +kernel
theorem d_X1_enter_1 : decode c_X1_enter 1 = .ok (.getfield 13, 3) := by decide +kernel
theorem d_X1_enter_4 : decode c_X1_enter 4 = .ok (.iload_n 1, 1) := by decide +kernel
theorem d_X1_enter_5 : decode c_X1_enter 5 = .ok (.iaload, 1) := by decide +kernel
theorem d_X1_enter_6 : decode c_X1_enter 6 = .ok (.istore_n 2, 1) := by decide +kernel
theorem d_X1_enter_7 : decode c_X1_enter 7 = .ok (.aload_n 0, 1) := by decide +kernel
theorem d_X1_enter_8 : decode c_X1_enter 8 = .ok (.iload_n 1, 1) := by decide +kernel
theorem d_X1_enter_9 : decode c_X1_enter 9 = .ok (.iload_n 2, 1) := by decide +kernel
theorem d_X1_enter_10 : decode c_X1_enter 10 = .ok (.iconst 1, 1) := by decide +kernel
theorem d_X1_enter_11 : decode c_X1_enter 11 = .ok (.invokevirtual 103, 3) := by decide +kernel
theorem d_X1_enter_14 : decode c_X1_enter 14 = .ok (.ifCond .le 7, 3) := by decide +kernel
theorem d_X1_enter_17 : decode c_X1_enter 17 = .ok (.iconst 1, 1) := by decide +kernel
theorem d_X1_enter_18 : decode c_X1_enter 18 = .ok (.goto 4, 3) := by decide +kernel
theorem d_X1_enter_21 : decode c_X1_enter 21 = .ok (.iconst 0, 1) := by decide +kernel
theorem d_X1_enter_22 : decode c_X1_enter 22 = .ok (.istore_n 3, 1) := by decide +kernel
theorem d_X1_enter_23 : decode c_X1_enter 23 = .ok (.aload_n 0, 1) := by decide +kernel
theorem d_X1_enter_24 : decode c_X1_enter 24 = .ok (.getfield 23, 3) := by decide +kernel
theorem d_X1_enter_27 : decode c_X1_enter 27 = .ok (.iload_n 1, 1) := by decide +kernel
theorem d_X1_enter_28 : decode c_X1_enter 28 = .ok (.iload_n 3, 1) := by decide +kernel
theorem d_X1_enter_29 : decode c_X1_enter 29 = .ok (.ifCond .eq 7, 3) := by decide +kernel
theorem d_X1_enter_32 : decode c_X1_enter 32 = .ok (.iconst 0, 1) := by decide +kernel
theorem d_X1_enter_33 : decode c_X1_enter 33 = .ok (.goto 7, 3) := by decide +kernel
theorem d_X1_enter_36 : decode c_X1_enter 36 = .ok (.aload_n 0, 1) := by decide +kernel
theorem d_X1_enter_37 : decode c_X1_enter 37 = .ok (.getfield 96, 3) := by decide +kernel
theorem d_X1_enter_40 : decode c_X1_enter 40 = .ok (.iastore, 1) := by decide +kernel
theorem d_X1_enter_41 : decode c_X1_enter 41 = .ok (.aload_n 0, 1) := by decide +kernel
theorem d_X1_enter_42 : decode c_X1_enter 42 = .ok (.getfield 30, 3) := by decide +kernel
theorem d_X1_enter_45 : decode c_X1_enter 45 = .ok (.iload_n 1, 1) := by decide +kernel
theorem d_X1_enter_46 : decode c_X1_enter 46 = .ok (.sipush (-1000), 3) := by decide +kernel
theorem d_X1_enter_49 : decode c_X1_enter 49 = .ok (.iastore, 1) := by decide +kernel
theorem d_X1_enter_50 : decode c_X1_enter 50 = .ok (.aload_n 0, 1) := by decide +kernel
theorem d_X1_enter_51 : decode c_X1_enter 51 = .ok (.getfield 26, 3) := by decide +kernel
theorem d_X1_enter_54 : decode c_X1_enter 54 = .ok (.iload_n 1, 1) := by decide +kernel
theorem d_X1_enter_55 : decode c_X1_enter 55 = .ok (.iload_n 3, 1) := by decide +kernel
theorem d_X1_enter_56 : decode c_X1_enter 56 = .ok (.ifCond .ne 19, 3) := by decide +kernel
theorem d_X1_enter_59 : decode c_X1_enter 59 = .ok (.aload_n 0, 1) := by decide +kernel
theorem d_X1_enter_60 : decode c_X1_enter 60 = .ok (.iload_n 1, 1) := by decide +kernel
theorem d_X1_enter_61 : decode c_X1_enter 61 = .ok (.iconst 1, 1) := by decide +kernel
theorem d_X1_enter_62 : decode c_X1_enter 62 = .ok (.iload_n 2, 1) := by decide +kernel
theorem d_X1_enter_63 : decode c_X1_enter 63 = .ok (.isub, 1) := by decide +kernel
theorem d_X1_enter_64 : decode c_X1_enter 64 = .ok (.iconst 1, 1) := by decide +kernel
theorem d_X1_enter_65 : decode c_X1_enter 65 = .ok (.invokevirtual 103, 3) := by decide +kernel
theorem d_X1_enter_68 : decode c_X1_enter 68 = .ok (.ifCond .le 7, 3) := by decide +kernel
theorem d_X1_enter_71 : decode c_X1_enter 71 = .ok (.iconst 1, 1) := by decide +kernel
theorem d_X1_enter_72 : decode c_X1_enter 72 = .ok (.goto 4, 3) := by decide +kernel
theorem d_X1_enter_75 : decode c_X1_enter 75 = .ok (.iconst 0, 1) := by decide +kernel
theorem d_X1_enter_76 : decode c_X1_enter 76 = .ok (.bastore, 1) := by decide +kernel
theorem d_X1_enter_77 : decode c_X1_enter 77 = .ok (.iload_n 3, 1) := by decide +kernel
theorem d_X1_enter_78 : decode c_X1_enter 78 = .ok (.ifCond .ne 33, 3) := by decide +kernel
theorem d_X1_enter_81 : decode c_X1_enter 81 = .ok (.aload_n 0, 1) := by decide +kernel
theorem d_X1_enter_82 : decode c_X1_enter 82 = .ok (.getfield 26, 3) := by decide +kernel
theorem d_X1_enter_85 : decode c_X1_enter 85 = .ok (.iload_n 1, 1) := by decide +kernel
theorem d_X1_enter_86 : decode c_X1_enter 86 = .ok (.baload, 1) := by decide +kernel
theorem d_X1_enter_87 : decode c_X1_enter 87 = .ok (.ifCond .ne 24, 3) := by decide +kernel
theorem d_X1_enter_90 : decode c_X1_enter 90 = .ok (.aload_n 0, 1) := by decide +kernel
theorem d_X1_enter_91 : decode c_X1_enter 91 = .ok (.getfield 30, 3) := by decide +kernel
theorem d_X1_enter_94 : decode c_X1_enter 94 = .ok (.iload_n 1, 1) := by decide +kernel
theorem d_X1_enter_95 : decode c_X1_enter 95 = .ok (.aload_n 0, 1) := by decide +kernel
theorem d_X1_enter_96 : decode c_X1_enter 96 = .ok (.iload_n 1, 1) := by decide +kernel
theorem d_X1_enter_97 : decode c_X1_enter 97 = .ok (.iload_n 2, 1) := by decide +kernel
theorem d_X1_enter_98 : decode c_X1_enter 98 = .ok (.invokevirtual 93, 3) := by decide +kernel
theorem d_X1_enter_101 : decode c_X1_enter 101 = .ok (.aload_n 0, 1) := by decide +kernel
theorem d_X1_enter_102 : decode c_X1_enter 102 = .ok (.iload_n 1, 1) := by decide +kernel
theorem d_X1_enter_103 : decode c_X1_enter 103 = .ok (.iconst 1, 1) := by decide +kernel
theorem d_X1_enter_104 : decode c_X1_enter 104 = .ok (.iload_n 2, 1) := by decide +kernel
theorem d_X1_enter_105 : decode c_X1_enter 105 = .ok (.isub, 1) := by decide +kernel
theorem d_X1_enter_106 : decode c_X1_enter 106 = .ok (.invokevirtual 93, 3) := by decide +kernel
theorem d_X1_enter_109 : decode c_X1_enter 109 = .ok (.isub, 1) := by decide +kernel
theorem d_X1_enter_110 : decode c_X1_enter 110 = .ok (.iastore, 1) := by decide +kernel
theorem d_X1_enter_111 : decode c_X1_enter 111 = .ok (.return_, 1) := by decide +kernel
theorem d_X1_nextAt_0 : decode c_X1_nextAt 0 = .ok (.aload_n 0, 1) := by decide +kernel
theorem d_X1_nextAt_1 : decode c_X1_nextAt 1 = .ok (.getfield 26, 3) := by decide +kernel
theorem d_X1_nextAt_4 : decode c_X1_nextAt 4 = .ok (.iload_n 1, 1) := by decide +kernel
theorem d_X1_nextAt_5 : decode c_X1_nextAt 5 = .ok (.baload, 1) := by decide +kernel
theorem d_X1_nextAt_6 : decode c_X1_nextAt 6 = .ok (.ifCond .eq 13, 3) := by decide +kernel
theorem d_X1_nextAt_9 : decode c_X1_nextAt 9 = .ok (.aload_n 0, 1) := by decide +kernel
theorem d_X1_nextAt_10 : decode c_X1_nextAt 10 = .ok (.getfield 26, 3) := by decide +kernel
theorem d_X1_nextAt_13 : decode c_X1_nextAt 13 = .ok (.iload_n 1, 1) := by decide +kernel
theorem d_X1_nextAt_14 : decode c_X1_nextAt 14 = .ok (.iconst 0, 1) := by decide +kernel
theorem d_X1_nextAt_15 : decode c_X1_nextAt 15 = .ok (.bastore, 1) := by decide +kernel
theorem d_X1_nextAt_16 : decode c_X1_nextAt 16 = .ok (.bipush 64, 2) := by decide +kernel
theorem d_X1_nextAt_18 : decode c_X1_nextAt 18 = .ok (.ireturn, 1) := by decide +kernel
theorem d_X1_nextAt_19 : decode c_X1_nextAt 19 = .ok (.aload_n 0, 1) := by decide +kernel
theorem d_X1_nextAt_20 : decode c_X1_nextAt 20 = .ok (.getfield 23, 3) := by decide +kernel
theorem d_X1_nextAt_23 : decode c_X1_nextAt 23 = .ok (.iload_n 1, 1) := by decide +kernel
theorem d_X1_nextAt_24 : decode c_X1_nextAt 24 = .ok (.iaload, 1) := by decide +kernel
theorem d_X1_nextAt_25 : decode c_X1_nextAt 25 = .ok (.aload_n 0, 1) := by decide +kernel
theorem d_X1_nextAt_26 : decode c_X1_nextAt 26 = .ok (.getfield 96, 3) := by decide +kernel
theorem d_X1_nextAt_29 : decode c_X1_nextAt 29 = .ok (.if_icmp .ge 45, 3) := by decide +kernel
theorem d_X1_nextAt_32 : decode c_X1_nextAt 32 = .ok (.aload_n 0, 1) := by decide +kernel
theorem d_X1_nextAt_33 : decode c_X1_nextAt 33 = .ok (.getfield 36, 3) := by decide +kernel
theorem d_X1_nextAt_36 : decode c_X1_nextAt 36 = .ok (.aload_n 0, 1) := by decide +kernel
theorem d_X1_nextAt_37 : decode c_X1_nextAt 37 = .ok (.getfield 23, 3) := by decide +kernel
theorem d_X1_nextAt_40 : decode c_X1_nextAt 40 = .ok (.iload_n 1, 1) := by decide +kernel
theorem d_X1_nextAt_41 : decode c_X1_nextAt 41 = .ok (.iaload, 1) := by decide +kernel
theorem d_X1_nextAt_42 : decode c_X1_nextAt 42 = .ok (.iaload, 1) := by decide +kernel
theorem d_X1_nextAt_43 : decode c_X1_nextAt 43 = .ok (.istore_n 2, 1) := by decide +kernel
theorem d_X1_nextAt_44 : decode c_X1_nextAt 44 = .ok (.aload_n 0, 1) := by decide +kernel
theorem d_X1_nextAt_45 : decode c_X1_nextAt 45 = .ok (.getfield 23, 3) := by decide +kernel
theorem d_X1_nextAt_48 : decode c_X1_nextAt 48 = .ok (.iload_n 1, 1) := by decide +kernel
theorem d_X1_nextAt_49 : decode c_X1_nextAt 49 = .ok (.dup2, 1) := by decide +kernel
theorem d_X1_nextAt_50 : decode c_X1_nextAt 50 = .ok (.iaload, 1) := by decide +kernel
theorem d_X1_nextAt_51 : decode c_X1_nextAt 51 = .ok (.iconst 1, 1) := by decide +kernel
theorem d_X1_nextAt_52 : decode c_X1_nextAt 52 = .ok (.iadd, 1) := by decide +kernel
theorem d_X1_nextAt_53 : decode c_X1_nextAt 53 = .ok (.iastore, 1) := by decide +kernel
theorem d_X1_nextAt_54 : decode c_X1_nextAt 54 = .ok (.aload_n 0, 1) := by decide +kernel
theorem d_X1_nextAt_55 : decode c_X1_nextAt 55 = .ok (.iload_n 1, 1) := by decide +kernel
theorem d_X1_nextAt_56 : decode c_X1_nextAt 56 = .ok (.iload_n 2, 1) := by decide +kernel
theorem d_X1_nextAt_57 : decode c_X1_nextAt 57 = .ok (.aload_n 0, 1) := by decide +kernel
theorem d_X1_nextAt_58 : decode c_X1_nextAt 58 = .ok (.getfield 13, 3) := by decide +kernel
theorem d_X1_nextAt_61 : decode c_X1_nextAt 61 = .ok (.iload_n 1, 1) := by decide +kernel
theorem d_X1_nextAt_62 : decode c_X1_nextAt 62 = .ok (.iaload, 1) := by decide +kernel
theorem d_X1_nextAt_63 : decode c_X1_nextAt 63 = .ok (.invokevirtual 99, 3) := by decide +kernel
theorem d_X1_nextAt_66 : decode c_X1_nextAt 66 = .ok (.ifCond .eq 5, 3) := by decide +kernel
theorem d_X1_nextAt_69 : decode c_X1_nextAt 69 = .ok (.iload_n 2, 1) := by decide +kernel
theorem d_X1_nextAt_70 : decode c_X1_nextAt 70 = .ok (.ireturn, 1) := by decide +kernel
theorem d_X1_nextAt_71 : decode c_X1_nextAt 71 = .ok (.goto (-52), 3) := by decide +kernel
theorem d_X1_nextAt_74 : decode c_X1_nextAt 74 = .ok (.sipush (-1000), 3) := by decide +kernel
theorem d_X1_nextAt_77 : decode c_X1_nextAt 77 = .ok (.ireturn, 1) := by decide +kernel
theorem d_X1_count_0 : decode c_X1_count 0 = .ok (.aload_n 0, 1) := by decide +kernel
theorem d_X1_count_1 : decode c_X1_count 1 = .ok (.iload_n 1, 1) := by decide +kernel
theorem d_X1_count_2 : decode c_X1_count 2 = .ok (.ifCond .lt 8, 3) := by decide +kernel
theorem d_X1_count_5 : decode c_X1_count 5 = .ok (.iload_n 1, 1) := by decide +kernel
theorem d_X1_count_6 : decode c_X1_count 6 = .ok (.iconst 4, 1) := by decide +kernel
theorem d_X1_count_7 : decode c_X1_count 7 = .ok (.if_icmp .le 7, 3) := by decide +kernel
theorem d_X1_count_10 : decode c_X1_count 10 = .ok (.iconst 1, 1) := by decide +kernel
theorem d_X1_count_11 : decode c_X1_count 11 = .ok (.goto 4, 3) := by decide +kernel
theorem d_X1_count_14 : decode c_X1_count 14 = .ok (.iconst 0, 1) := by decide +kernel
theorem d_X1_count_15 : decode c_X1_count 15 = .ok (.putfield 45, 3) := by decide +kernel
theorem d_X1_count_18 : decode c_X1_count 18 = .ok (.aload_n 0, 1) := by decide +kernel
theorem d_X1_count_19 : decode c_X1_count 19 = .ok (.getfield 45, 3) := by decide +kernel
theorem d_X1_count_22 : decode c_X1_count 22 = .ok (.ifCond .gt 7, 3) := by decide +kernel
theorem d_X1_count_25 : decode c_X1_count 25 = .ok (.iload_n 1, 1) := by decide +kernel
theorem d_X1_count_26 : decode c_X1_count 26 = .ok (.ifCond .ne 16, 3) := by decide +kernel
theorem d_X1_count_29 : decode c_X1_count 29 = .ok (.aload_n 0, 1) := by decide +kernel
theorem d_X1_count_30 : decode c_X1_count 30 = .ok (.getfield 45, 3) := by decide +kernel
theorem d_X1_count_33 : decode c_X1_count 33 = .ok (.ifCond .le 7, 3) := by decide +kernel
theorem d_X1_count_36 : decode c_X1_count 36 = .ok (.lconst 0, 1) := by decide +kernel
theorem d_X1_count_37 : decode c_X1_count 37 = .ok (.goto 4, 3) := by decide +kernel
theorem d_X1_count_40 : decode c_X1_count 40 = .ok (.lconst 1, 1) := by decide +kernel
theorem d_X1_count_41 : decode c_X1_count 41 = .ok (.lreturn, 1) := by decide +kernel
theorem d_X1_count_42 : decode c_X1_count 42 = .ok (.lconst 0, 1) := by decide +kernel
theorem d_X1_count_43 : decode c_X1_count 43 = .ok (.lstore_n 2, 1) := by decide +kernel
theorem d_X1_count_44 : decode c_X1_count 44 = .ok (.iconst 0, 1) := by decide +kernel
theorem d_X1_count_45 : decode c_X1_count 45 = .ok (.istore 4, 2) := by decide +kernel
theorem d_X1_count_47 : decode c_X1_count 47 = .ok (.aload_n 0, 1) := by decide +kernel
theorem d_X1_count_48 : decode c_X1_count 48 = .ok (.invokevirtual 106, 3) := by decide +kernel
theorem d_X1_count_51 : decode c_X1_count 51 = .ok (.aload_n 0, 1) := by decide +kernel
theorem d_X1_count_52 : decode c_X1_count 52 = .ok (.iconst 0, 1) := by decide +kernel
theorem d_X1_count_53 : decode c_X1_count 53 = .ok (.invokevirtual 109, 3) := by decide +kernel
theorem d_X1_count_56 : decode c_X1_count 56 = .ok (.iload 4, 2) := by decide +kernel
theorem d_X1_count_58 : decode c_X1_count 58 = .ok (.ifCond .lt 113, 3) := by decide +kernel
theorem d_X1_count_61 : decode c_X1_count 61 = .ok (.sipush (-1000), 3) := by decide +kernel
theorem d_X1_count_64 : decode c_X1_count 64 = .ok (.istore 5, 2) := by decide +kernel
theorem d_X1_count_66 : decode c_X1_count 66 = .ok (.iload 4, 2) := by decide +kernel
theorem d_X1_count_68 : decode c_X1_count 68 = .ok (.iload_n 1, 1) := by decide +kernel
theorem d_X1_count_69 : decode c_X1_count 69 = .ok (.iconst 1, 1) := by decide +kernel
theorem d_X1_count_70 : decode c_X1_count 70 = .ok (.isub, 1) := by decide +kernel
theorem d_X1_count_71 : decode c_X1_count 71 = .ok (.if_icmp .ne 38, 3) := by decide +kernel
theorem d_X1_count_74 : decode c_X1_count 74 = .ok (.aload_n 0, 1) := by decide +kernel
theorem d_X1_count_75 : decode c_X1_count 75 = .ok (.iload 4, 2) := by decide +kernel
theorem d_X1_count_77 : decode c_X1_count 77 = .ok (.aload_n 0, 1) := by decide +kernel
theorem d_X1_count_78 : decode c_X1_count 78 = .ok (.getfield 13, 3) := by decide +kernel
theorem d_X1_count_81 : decode c_X1_count 81 = .ok (.iload 4, 2) := by decide +kernel
theorem d_X1_count_83 : decode c_X1_count 83 = .ok (.iaload, 1) := by decide +kernel
theorem d_X1_count_84 : decode c_X1_count 84 = .ok (.bipush 64, 2) := by decide +kernel
theorem d_X1_count_86 : decode c_X1_count 86 = .ok (.invokevirtual 103, 3) := by decide +kernel
theorem d_X1_count_89 : decode c_X1_count 89 = .ok (.istore 6, 2) := by decide +kernel
theorem d_X1_count_91 : decode c_X1_count 91 = .ok (.lload_n 2, 1) := by decide +kernel
theorem d_X1_count_92 : decode c_X1_count 92 = .ok (.iload 6, 2) := by decide +kernel
theorem d_X1_count_94 : decode c_X1_count 94 = .ok (.ifCond .le 8, 3) := by decide +kernel
theorem d_X1_count_97 : decode c_X1_count 97 = .ok (.iload 6, 2) := by decide +kernel
theorem d_X1_count_99 : decode c_X1_count 99 = .ok (.goto 4, 3) := by decide +kernel
theorem d_X1_count_102 : decode c_X1_count 102 = .ok (.iconst 1, 1) := by decide +kernel
theorem d_X1_count_103 : decode c_X1_count 103 = .ok (.i2l, 1) := by decide +kernel
theorem d_X1_count_104 : decode c_X1_count 104 = .ok (.ladd, 1) := by decide +kernel
theorem d_X1_count_105 : decode c_X1_count 105 = .ok (.lstore_n 2, 1) := by decide +kernel
theorem d_X1_count_106 : decode c_X1_count 106 = .ok (.goto 31, 3) := by decide +kernel
theorem d_X1_count_109 : decode c_X1_count 109 = .ok (.aload_n 0, 1) := by decide +kernel
theorem d_X1_count_110 : decode c_X1_count 110 = .ok (.getfield 30, 3) := by decide +kernel
theorem d_X1_count_113 : decode c_X1_count 113 = .ok (.iload 4, 2) := by decide +kernel
theorem d_X1_count_115 : decode c_X1_count 115 = .ok (.iaload, 1) := by decide +kernel
theorem d_X1_count_116 : decode c_X1_count 116 = .ok (.sipush (-1000), 3) := by decide +kernel
theorem d_X1_count_119 : decode c_X1_count 119 = .ok (.if_icmp .eq 10, 3) := by decide +kernel
theorem d_X1_count_122 : decode c_X1_count 122 = .ok (.lload_n 2, 1) := by decide +kernel
theorem d_X1_count_123 : decode c_X1_count 123 = .ok (.lconst 1, 1) := by decide +kernel
theorem d_X1_count_124 : decode c_X1_count 124 = .ok (.ladd, 1) := by decide +kernel
theorem d_X1_count_125 : decode c_X1_count 125 = .ok (.lstore_n 2, 1) := by decide +kernel
theorem d_X1_count_126 : decode c_X1_count 126 = .ok (.goto 11, 3) := by decide +kernel
theorem d_X1_count_129 : decode c_X1_count 129 = .ok (.aload_n 0, 1) := by decide +kernel
theorem d_X1_count_130 : decode c_X1_count 130 = .ok (.iload 4, 2) := by decide +kernel
theorem d_X1_count_132 : decode c_X1_count 132 = .ok (.invokevirtual 113, 3) := by decide +kernel
theorem d_X1_count_135 : decode c_X1_count 135 = .ok (.istore 5, 2) := by decide +kernel
theorem d_X1_count_137 : decode c_X1_count 137 = .ok (.iload 5, 2) := by decide +kernel
theorem d_X1_count_139 : decode c_X1_count 139 = .ok (.sipush (-1000), 3) := by decide +kernel
theorem d_X1_count_142 : decode c_X1_count 142 = .ok (.if_icmp .ne 9, 3) := by decide +kernel
theorem d_X1_count_145 : decode c_X1_count 145 = .ok (.iinc 4 (-1), 3) := by decide +kernel
theorem d_X1_count_148 : decode c_X1_count 148 = .ok (.goto 20, 3) := by decide +kernel
theorem d_X1_count_151 : decode c_X1_count 151 = .ok (.aload_n 0, 1) := by decide +kernel
theorem d_X1_count_152 : decode c_X1_count 152 = .ok (.iload 4, 2) := by decide +kernel
theorem d_X1_count_154 : decode c_X1_count 154 = .ok (.iload 5, 2) := by decide +kernel
theorem d_X1_count_156 : decode c_X1_count 156 = .ok (.invokevirtual 116, 3) := by decide +kernel
theorem d_X1_count_159 : decode c_X1_count 159 = .ok (.iinc 4 1, 3) := by decide +kernel
theorem d_X1_count_162 : decode c_X1_count 162 = .ok (.aload_n 0, 1) := by decide +kernel
theorem d_X1_count_163 : decode c_X1_count 163 = .ok (.iload 4, 2) := by decide +kernel
theorem d_X1_count_165 : decode c_X1_count 165 = .ok (.invokevirtual 109, 3) := by decide +kernel
theorem d_X1_count_168 : decode c_X1_count 168 = .ok (.goto (-112), 3) := by decide +kernel
theorem d_X1_count_171 : decode c_X1_count 171 = .ok (.lload_n 2, 1) := by decide +kernel
theorem d_X1_count_172 : decode c_X1_count 172 = .ok (.lreturn, 1) := by decide +kernel
theorem d_X1_empties_0 : decode c_X1_empties 0 = .ok (.bipush 64, 2) := by decide +kernel
theorem d_X1_empties_2 : decode c_X1_empties 2 = .ok (.aload_n 0, 1) := by decide +kernel
theorem d_X1_empties_3 : decode c_X1_empties 3 = .ok (.iconst 0, 1) := by decide +kernel
theorem d_X1_empties_4 : decode c_X1_empties 4 = .ok (.iconst 0, 1) := by decide +kernel
theorem d_X1_empties_5 : decode c_X1_empties 5 = .ok (.invokevirtual 93, 3) := by decide +kernel
theorem d_X1_empties_8 : decode c_X1_empties 8 = .ok (.isub, 1) := by decide +kernel
theorem d_X1_empties_9 : decode c_X1_empties 9 = .ok (.aload_n 0, 1) := by decide +kernel
theorem d_X1_empties_10 : decode c_X1_empties 10 = .ok (.iconst 0, 1) := by decide +kernel
theorem d_X1_empties_11 : decode c_X1_empties 11 = .ok (.iconst 1, 1) := by decide +kernel
theorem d_X1_empties_12 : decode c_X1_empties 12 = .ok (.invokevirtual 93, 3) := by decide +kernel
theorem d_X1_empties_15 : decode c_X1_empties 15 = .ok (.isub, 1) := by decide +kernel
theorem d_X1_empties_16 : decode c_X1_empties 16 = .ok (.ireturn, 1) := by decide +kernel
theorem d_X1_search_0 : decode c_X1_search 0 = .ok (.iconst 0, 1) := by decide +kernel
theorem d_X1_search_1 : decode c_X1_search 1 = .ok (.istore_n 1, 1) := by decide +kernel
theorem d_X1_search_2 : decode c_X1_search 2 = .ok (.aload_n 0, 1) := by decide +kernel
theorem d_X1_search_3 : decode c_X1_search 3 = .ok (.bipush 65, 2) := by decide +kernel
theorem d_X1_search_5 : decode c_X1_search 5 = .ok (.putfield 120, 3) := by decide +kernel
theorem d_X1_search_8 : decode c_X1_search 8 = .ok (.aload_n 0, 1) := by decide +kernel
theorem d_X1_search_9 : decode c_X1_search 9 = .ok (.invokevirtual 106, 3) := by decide +kernel
theorem d_X1_search_12 : decode c_X1_search 12 = .ok (.aload_n 0, 1) := by decide +kernel
theorem d_X1_search_13 : decode c_X1_search 13 = .ok (.iconst 0, 1) := by decide +kernel
theorem d_X1_search_14 : decode c_X1_search 14 = .ok (.invokevirtual 109, 3) := by decide +kernel
theorem d_X1_search_17 : decode c_X1_search 17 = .ok (.iconst 1, 1) := by decide +kernel
theorem d_X1_search_18 : decode c_X1_search 18 = .ok (.istore_n 2, 1) := by decide +kernel
theorem d_X1_search_19 : decode c_X1_search 19 = .ok (.iload_n 2, 1) := by decide +kernel
theorem d_X1_search_20 : decode c_X1_search 20 = .ok (.ifCond .eq 124, 3) := by decide +kernel
theorem d_X1_search_23 : decode c_X1_search 23 = .ok (.aload_n 0, 1) := by decide +kernel
theorem d_X1_search_24 : decode c_X1_search 24 = .ok (.iload_n 1, 1) := by decide +kernel
theorem d_X1_search_25 : decode c_X1_search 25 = .ok (.invokevirtual 113, 3) := by decide +kernel
theorem d_X1_search_28 : decode c_X1_search 28 = .ok (.istore_n 3, 1) := by decide +kernel
theorem d_X1_search_29 : decode c_X1_search 29 = .ok (.iload_n 3, 1) := by decide +kernel
theorem d_X1_search_30 : decode c_X1_search 30 = .ok (.sipush (-1000), 3) := by decide +kernel
theorem d_X1_search_33 : decode c_X1_search 33 = .ok (.if_icmp .eq 27, 3) := by decide +kernel
theorem d_X1_search_36 : decode c_X1_search 36 = .ok (.aload_n 0, 1) := by decide +kernel
theorem d_X1_search_37 : decode c_X1_search 37 = .ok (.getfield 33, 3) := by decide +kernel
theorem d_X1_search_40 : decode c_X1_search 40 = .ok (.iload_n 1, 1) := by decide +kernel
theorem d_X1_search_41 : decode c_X1_search 41 = .ok (.iload_n 3, 1) := by decide +kernel
theorem d_X1_search_42 : decode c_X1_search 42 = .ok (.iastore, 1) := by decide +kernel
theorem d_X1_search_43 : decode c_X1_search 43 = .ok (.aload_n 0, 1) := by decide +kernel
theorem d_X1_search_44 : decode c_X1_search 44 = .ok (.iload_n 1, 1) := by decide +kernel
theorem d_X1_search_45 : decode c_X1_search 45 = .ok (.iload_n 3, 1) := by decide +kernel
theorem d_X1_search_46 : decode c_X1_search 46 = .ok (.invokevirtual 116, 3) := by decide +kernel
theorem d_X1_search_49 : decode c_X1_search 49 = .ok (.iinc 1 1, 3) := by decide +kernel
theorem d_X1_search_52 : decode c_X1_search 52 = .ok (.aload_n 0, 1) := by decide +kernel
theorem d_X1_search_53 : decode c_X1_search 53 = .ok (.iload_n 1, 1) := by decide +kernel
theorem d_X1_search_54 : decode c_X1_search 54 = .ok (.invokevirtual 109, 3) := by decide +kernel
theorem d_X1_search_57 : decode c_X1_search 57 = .ok (.goto 84, 3) := by decide +kernel
theorem d_X1_search_60 : decode c_X1_search 60 = .ok (.iload_n 1, 1) := by decide +kernel
theorem d_X1_search_61 : decode c_X1_search 61 = .ok (.ifCond .le 78, 3) := by decide +kernel
theorem d_X1_search_64 : decode c_X1_search 64 = .ok (.aload_n 0, 1) := by decide +kernel
theorem d_X1_search_65 : decode c_X1_search 65 = .ok (.getfield 30, 3) := by decide +kernel
theorem d_X1_search_68 : decode c_X1_search 68 = .ok (.iload_n 1, 1) := by decide +kernel
theorem d_X1_search_69 : decode c_X1_search 69 = .ok (.iaload, 1) := by decide +kernel
theorem d_X1_search_70 : decode c_X1_search 70 = .ok (.ineg, 1) := by decide +kernel
theorem d_X1_search_71 : decode c_X1_search 71 = .ok (.istore 4, 2) := by decide +kernel
theorem d_X1_search_73 : decode c_X1_search 73 = .ok (.iinc 1 (-1), 3) := by decide +kernel
theorem d_X1_search_76 : decode c_X1_search 76 = .ok (.aload_n 0, 1) := by decide +kernel
theorem d_X1_search_77 : decode c_X1_search 77 = .ok (.iload_n 1, 1) := by decide +kernel
theorem d_X1_search_78 : decode c_X1_search 78 = .ok (.ifCond .ne 23, 3) := by decide +kernel
theorem d_X1_search_81 : decode c_X1_search 81 = .ok (.iload 4, 2) := by decide +kernel
theorem d_X1_search_83 : decode c_X1_search 83 = .ok (.aload_n 0, 1) := by decide +kernel
theorem d_X1_search_84 : decode c_X1_search 84 = .ok (.getfield 30, 3) := by decide +kernel
theorem d_X1_search_87 : decode c_X1_search 87 = .ok (.iconst 0, 1) := by decide +kernel
theorem d_X1_search_88 : decode c_X1_search 88 = .ok (.iaload, 1) := by decide +kernel
theorem d_X1_search_89 : decode c_X1_search 89 = .ok (.if_icmp .le 12, 3) := by decide +kernel
theorem d_X1_search_92 : decode c_X1_search 92 = .ok (.aload_n 0, 1) := by decide +kernel
theorem d_X1_search_93 : decode c_X1_search 93 = .ok (.getfield 33, 3) := by decide +kernel
theorem d_X1_search_96 : decode c_X1_search 96 = .ok (.iconst 0, 1) := by decide +kernel
theorem d_X1_search_97 : decode c_X1_search 97 = .ok (.iaload, 1) := by decide +kernel
theorem d_X1_search_98 : decode c_X1_search 98 = .ok (.goto 7, 3) := by decide +kernel
theorem d_X1_search_101 : decode c_X1_search 101 = .ok (.aload_n 0, 1) := by decide +kernel
theorem d_X1_search_102 : decode c_X1_search 102 = .ok (.getfield 120, 3) := by decide +kernel
theorem d_X1_search_105 : decode c_X1_search 105 = .ok (.putfield 120, 3) := by decide +kernel
theorem d_X1_search_108 : decode c_X1_search 108 = .ok (.aload_n 0, 1) := by decide +kernel
theorem d_X1_search_109 : decode c_X1_search 109 = .ok (.getfield 30, 3) := by decide +kernel
theorem d_X1_search_112 : decode c_X1_search 112 = .ok (.iload_n 1, 1) := by decide +kernel
theorem d_X1_search_113 : decode c_X1_search 113 = .ok (.iload 4, 2) := by decide +kernel
theorem d_X1_search_115 : decode c_X1_search 115 = .ok (.aload_n 0, 1) := by decide +kernel
theorem d_X1_search_116 : decode c_X1_search 116 = .ok (.getfield 30, 3) := by decide +kernel
theorem d_X1_search_119 : decode c_X1_search 119 = .ok (.iload_n 1, 1) := by decide +kernel
theorem d_X1_search_120 : decode c_X1_search 120 = .ok (.iaload, 1) := by decide +kernel
theorem d_X1_search_121 : decode c_X1_search 121 = .ok (.if_icmp .le 8, 3) := by decide +kernel
theorem d_X1_search_124 : decode c_X1_search 124 = .ok (.iload 4, 2) := by decide +kernel
theorem d_X1_search_126 : decode c_X1_search 126 = .ok (.goto 9, 3) := by decide +kernel
theorem d_X1_search_129 : decode c_X1_search 129 = .ok (.aload_n 0, 1) := by decide +kernel
theorem d_X1_search_130 : decode c_X1_search 130 = .ok (.getfield 30, 3) := by decide +kernel
theorem d_X1_search_133 : decode c_X1_search 133 = .ok (.iload_n 1, 1) := by decide +kernel
theorem d_X1_search_134 : decode c_X1_search 134 = .ok (.iaload, 1) := by decide +kernel
theorem d_X1_search_135 : decode c_X1_search 135 = .ok (.iastore, 1) := by decide +kernel
theorem d_X1_search_136 : decode c_X1_search 136 = .ok (.goto 5, 3) := by decide +kernel
theorem d_X1_search_139 : decode c_X1_search 139 = .ok (.iconst 0, 1) := by decide +kernel
theorem d_X1_search_140 : decode c_X1_search 140 = .ok (.istore_n 2, 1) := by decide +kernel
theorem d_X1_search_141 : decode c_X1_search 141 = .ok (.goto (-122), 3) := by decide +kernel
theorem d_X1_search_144 : decode c_X1_search 144 = .ok (.aload_n 0, 1) := by decide +kernel
theorem d_X1_search_145 : decode c_X1_search 145 = .ok (.getfield 30, 3) := by decide +kernel
theorem d_X1_search_148 : decode c_X1_search 148 = .ok (.iconst 0, 1) := by decide +kernel
theorem d_X1_search_149 : decode c_X1_search 149 = .ok (.iaload, 1) := by decide +kernel
theorem d_X1_search_150 : decode c_X1_search 150 = .ok (.ireturn, 1) := by decide +kernel
theorem d_X1_outcome_0 : decode c_X1_outcome 0 = .ok (.aload_n 0, 1) := by decide +kernel
theorem d_X1_outcome_1 : decode c_X1_outcome 1 = .ok (.aload_n 0, 1) := by decide +kernel
theorem d_X1_outcome_2 : decode c_X1_outcome 2 = .ok (.invokevirtual 123, 3) := by decide +kernel
theorem d_X1_outcome_5 : decode c_X1_outcome 5 = .ok (.bipush 7, 2) := by decide +kernel
theorem d_X1_outcome_7 : decode c_X1_outcome 7 = .ok (.if_icmp .le 7, 3) := by decide +kernel
theorem d_X1_outcome_10 : decode c_X1_outcome 10 = .ok (.iconst 1, 1) := by decide +kernel
theorem d_X1_outcome_11 : decode c_X1_outcome 11 = .ok (.goto 4, 3) := by decide +kernel
theorem d_X1_outcome_14 : decode c_X1_outcome 14 = .ok (.iconst 0, 1) := by decide +kernel
theorem d_X1_outcome_15 : decode c_X1_outcome 15 = .ok (.putfield 45, 3) := by decide +kernel
theorem d_X1_outcome_18 : decode c_X1_outcome 18 = .ok (.aload_n 0, 1) := by decide +kernel
theorem d_X1_outcome_19 : decode c_X1_outcome 19 = .ok (.getfield 45, 3) := by decide +kernel
theorem d_X1_outcome_22 : decode c_X1_outcome 22 = .ok (.ifCond .le 7, 3) := by decide +kernel
theorem d_X1_outcome_25 : decode c_X1_outcome 25 = .ok (.iconst 0, 1) := by decide +kernel
theorem d_X1_outcome_26 : decode c_X1_outcome 26 = .ok (.goto 7, 3) := by decide +kernel
theorem d_X1_outcome_29 : decode c_X1_outcome 29 = .ok (.aload_n 0, 1) := by decide +kernel
theorem d_X1_outcome_30 : decode c_X1_outcome 30 = .ok (.invokevirtual 127, 3) := by decide +kernel
theorem d_X1_outcome_33 : decode c_X1_outcome 33 = .ok (.ireturn, 1) := by decide +kernel
theorem d_X1_best_0 : decode c_X1_best 0 = .ok (.aload_n 0, 1) := by decide +kernel
theorem d_X1_best_1 : decode c_X1_best 1 = .ok (.aload_n 0, 1) := by decide +kernel
theorem d_X1_best_2 : decode c_X1_best 2 = .ok (.invokevirtual 123, 3) := by decide +kernel
theorem d_X1_best_5 : decode c_X1_best 5 = .ok (.bipush 7, 2) := by decide +kernel
theorem d_X1_best_7 : decode c_X1_best 7 = .ok (.if_icmp .le 7, 3) := by decide +kernel
theorem d_X1_best_10 : decode c_X1_best 10 = .ok (.iconst 1, 1) := by decide +kernel
theorem d_X1_best_11 : decode c_X1_best 11 = .ok (.goto 4, 3) := by decide +kernel
theorem d_X1_best_14 : decode c_X1_best 14 = .ok (.iconst 0, 1) := by decide +kernel
theorem d_X1_best_15 : decode c_X1_best 15 = .ok (.putfield 45, 3) := by decide +kernel
theorem d_X1_best_18 : decode c_X1_best 18 = .ok (.aload_n 0, 1) := by decide +kernel
theorem d_X1_best_19 : decode c_X1_best 19 = .ok (.getfield 45, 3) := by decide +kernel
theorem d_X1_best_22 : decode c_X1_best 22 = .ok (.ifCond .le 7, 3) := by decide +kernel
theorem d_X1_best_25 : decode c_X1_best 25 = .ok (.iconst 0, 1) := by decide +kernel
theorem d_X1_best_26 : decode c_X1_best 26 = .ok (.goto 7, 3) := by decide +kernel
theorem d_X1_best_29 : decode c_X1_best 29 = .ok (.aload_n 0, 1) := by decide +kernel
theorem d_X1_best_30 : decode c_X1_best 30 = .ok (.invokevirtual 127, 3) := by decide +kernel
theorem d_X1_best_33 : decode c_X1_best 33 = .ok (.istore_n 1, 1) := by decide +kernel
theorem d_X1_best_34 : decode c_X1_best 34 = .ok (.aload_n 0, 1) := by decide +kernel
theorem d_X1_best_35 : decode c_X1_best 35 = .ok (.getfield 45, 3) := by decide +kernel
theorem d_X1_best_38 : decode c_X1_best 38 = .ok (.ifCond .le 7, 3) := by decide +kernel
theorem d_X1_best_41 : decode c_X1_best 41 = .ok (.iconst 0, 1) := by decide +kernel
theorem d_X1_best_42 : decode c_X1_best 42 = .ok (.goto 19, 3) := by decide +kernel
theorem d_X1_best_45 : decode c_X1_best 45 = .ok (.iload_n 1, 1) := by decide +kernel
theorem d_X1_best_46 : decode c_X1_best 46 = .ok (.sipush (-1000), 3) := by decide +kernel
theorem d_X1_best_49 : decode c_X1_best 49 = .ok (.if_icmp .le 10, 3) := by decide +kernel
theorem d_X1_best_52 : decode c_X1_best 52 = .ok (.aload_n 0, 1) := by decide +kernel
theorem d_X1_best_53 : decode c_X1_best 53 = .ok (.getfield 120, 3) := by decide +kernel
theorem d_X1_best_56 : decode c_X1_best 56 = .ok (.goto 5, 3) := by decide +kernel
theorem d_X1_best_59 : decode c_X1_best 59 = .ok (.bipush 65, 2) := by decide +kernel
theorem d_X1_best_61 : decode c_X1_best 61 = .ok (.ireturn, 1) := by decide +kernel
theorem d_X1_finish_0 : decode c_X1_finish 0 = .ok (.aload_n 0, 1) := by decide +kernel
theorem d_X1_finish_1 : decode c_X1_finish 1 = .ok (.aload_n 0, 1) := by decide +kernel
theorem d_X1_finish_2 : decode c_X1_finish 2 = .ok (.invokevirtual 123, 3) := by decide +kernel
theorem d_X1_finish_5 : decode c_X1_finish 5 = .ok (.bipush 7, 2) := by decide +kernel
theorem d_X1_finish_7 : decode c_X1_finish 7 = .ok (.if_icmp .le 7, 3) := by decide +kernel
theorem d_X1_finish_10 : decode c_X1_finish 10 = .ok (.iconst 1, 1) := by decide +kernel
theorem d_X1_finish_11 : decode c_X1_finish 11 = .ok (.goto 4, 3) := by decide +kernel
theorem d_X1_finish_14 : decode c_X1_finish 14 = .ok (.iconst 0, 1) := by decide +kernel
theorem d_X1_finish_15 : decode c_X1_finish 15 = .ok (.putfield 45, 3) := by decide +kernel
theorem d_X1_finish_18 : decode c_X1_finish 18 = .ok (.aload_n 0, 1) := by decide +kernel
theorem d_X1_finish_19 : decode c_X1_finish 19 = .ok (.getfield 45, 3) := by decide +kernel
theorem d_X1_finish_22 : decode c_X1_finish 22 = .ok (.ifCond .le 5, 3) := by decide +kernel
theorem d_X1_finish_25 : decode c_X1_finish 25 = .ok (.iconst 0, 1) := by decide +kernel
theorem d_X1_finish_26 : decode c_X1_finish 26 = .ok (.ireturn, 1) := by decide +kernel
theorem d_X1_finish_27 : decode c_X1_finish 27 = .ok (.aload_n 0, 1) := by decide +kernel
theorem d_X1_finish_28 : decode c_X1_finish 28 = .ok (.getfield 49, 3) := by decide +kernel
theorem d_X1_finish_31 : decode c_X1_finish 31 = .ok (.istore_n 1, 1) := by decide +kernel
theorem d_X1_finish_32 : decode c_X1_finish 32 = .ok (.aload_n 0, 1) := by decide +kernel
theorem d_X1_finish_33 : decode c_X1_finish 33 = .ok (.getfield 13, 3) := by decide +kernel
theorem d_X1_finish_36 : decode c_X1_finish 36 = .ok (.iconst 0, 1) := by decide +kernel
theorem d_X1_finish_37 : decode c_X1_finish 37 = .ok (.iaload, 1) := by decide +kernel
theorem d_X1_finish_38 : decode c_X1_finish 38 = .ok (.istore_n 2, 1) := by decide +kernel
theorem d_X1_finish_39 : decode c_X1_finish 39 = .ok (.iconst 0, 1) := by decide +kernel
theorem d_X1_finish_40 : decode c_X1_finish 40 = .ok (.istore_n 3, 1) := by decide +kernel
theorem d_X1_finish_41 : decode c_X1_finish 41 = .ok (.iload_n 3, 1) := by decide +kernel
theorem d_X1_finish_42 : decode c_X1_finish 42 = .ok (.bipush 64, 2) := by decide +kernel
theorem d_X1_finish_44 : decode c_X1_finish 44 = .ok (.if_icmp .ge 21, 3) := by decide +kernel
theorem d_X1_finish_47 : decode c_X1_finish 47 = .ok (.aload_n 0, 1) := by decide +kernel
theorem d_X1_finish_48 : decode c_X1_finish 48 = .ok (.getfield 39, 3) := by decide +kernel
theorem d_X1_finish_51 : decode c_X1_finish 51 = .ok (.iload_n 3, 1) := by decide +kernel
theorem d_X1_finish_52 : decode c_X1_finish 52 = .ok (.aload_n 0, 1) := by decide +kernel
theorem d_X1_finish_53 : decode c_X1_finish 53 = .ok (.getfield 7, 3) := by decide +kernel
theorem d_X1_finish_56 : decode c_X1_finish 56 = .ok (.iload_n 3, 1) := by decide +kernel
theorem d_X1_finish_57 : decode c_X1_finish 57 = .ok (.iaload, 1) := by decide +kernel
theorem d_X1_finish_58 : decode c_X1_finish 58 = .ok (.iastore, 1) := by decide +kernel
theorem d_X1_finish_59 : decode c_X1_finish 59 = .ok (.iinc 3 1, 3) := by decide +kernel
theorem d_X1_finish_62 : decode c_X1_finish 62 = .ok (.goto (-21), 3) := by decide +kernel
theorem d_X1_finish_65 : decode c_X1_finish 65 = .ok (.aload_n 0, 1) := by decide +kernel
theorem d_X1_finish_66 : decode c_X1_finish 66 = .ok (.getfield 45, 3) := by decide +kernel
theorem d_X1_finish_69 : decode c_X1_finish 69 = .ok (.ifCond .ne 46, 3) := by decide +kernel
theorem d_X1_finish_72 : decode c_X1_finish 72 = .ok (.aload_n 0, 1) := by decide +kernel
theorem d_X1_finish_73 : decode c_X1_finish 73 = .ok (.iconst 0, 1) := by decide +kernel
theorem d_X1_finish_74 : decode c_X1_finish 74 = .ok (.invokevirtual 79, 3) := by decide +kernel
theorem d_X1_finish_77 : decode c_X1_finish 77 = .ok (.ifCond .ne 38, 3) := by decide +kernel
theorem d_X1_finish_80 : decode c_X1_finish 80 = .ok (.aload_n 0, 1) := by decide +kernel
theorem d_X1_finish_81 : decode c_X1_finish 81 = .ok (.invokevirtual 127, 3) := by decide +kernel
theorem d_X1_finish_84 : decode c_X1_finish 84 = .ok (.istore_n 3, 1) := by decide +kernel
theorem d_X1_finish_85 : decode c_X1_finish 85 = .ok (.aload_n 0, 1) := by decide +kernel
theorem d_X1_finish_86 : decode c_X1_finish 86 = .ok (.getfield 49, 3) := by decide +kernel
theorem d_X1_finish_89 : decode c_X1_finish 89 = .ok (.bipush 64, 2) := by decide +kernel
theorem d_X1_finish_91 : decode c_X1_finish 91 = .ok (.if_icmp .ne 11, 3) := by decide +kernel
theorem d_X1_finish_94 : decode c_X1_finish 94 = .ok (.aload_n 0, 1) := by decide +kernel
theorem d_X1_finish_95 : decode c_X1_finish 95 = .ok (.iconst 1, 1) := by decide +kernel
theorem d_X1_finish_96 : decode c_X1_finish 96 = .ok (.putfield 45, 3) := by decide +kernel
theorem d_X1_finish_99 : decode c_X1_finish 99 = .ok (.goto 13, 3) := by decide +kernel
theorem d_X1_finish_102 : decode c_X1_finish 102 = .ok (.aload_n 0, 1) := by decide +kernel
theorem d_X1_finish_103 : decode c_X1_finish 103 = .ok (.aload_n 0, 1) := by decide +kernel
theorem d_X1_finish_104 : decode c_X1_finish 104 = .ok (.getfield 120, 3) := by decide +kernel
theorem d_X1_finish_107 : decode c_X1_finish 107 = .ok (.invokevirtual 90, 3) := by decide +kernel
theorem d_X1_finish_110 : decode c_X1_finish 110 = .ok (.istore 4, 2) := by decide +kernel
theorem d_X1_finish_112 : decode c_X1_finish 112 = .ok (.goto (-47), 3) := by decide +kernel
theorem d_X1_finish_115 : decode c_X1_finish 115 = .ok (.aload_n 0, 1) := by decide +kernel
theorem d_X1_finish_116 : decode c_X1_finish 116 = .ok (.getfield 45, 3) := by decide +kernel
theorem d_X1_finish_119 : decode c_X1_finish 119 = .ok (.ifCond .le 43, 3) := by decide +kernel
theorem d_X1_finish_122 : decode c_X1_finish 122 = .ok (.aload_n 0, 1) := by decide +kernel
theorem d_X1_finish_123 : decode c_X1_finish 123 = .ok (.iload_n 1, 1) := by decide +kernel
theorem d_X1_finish_124 : decode c_X1_finish 124 = .ok (.putfield 49, 3) := by decide +kernel
theorem d_X1_finish_127 : decode c_X1_finish 127 = .ok (.aload_n 0, 1) := by decide +kernel
theorem d_X1_finish_128 : decode c_X1_finish 128 = .ok (.getfield 13, 3) := by decide +kernel
theorem d_X1_finish_131 : decode c_X1_finish 131 = .ok (.iconst 0, 1) := by decide +kernel
theorem d_X1_finish_132 : decode c_X1_finish 132 = .ok (.iload_n 2, 1) := by decide +kernel
theorem d_X1_finish_133 : decode c_X1_finish 133 = .ok (.iastore, 1) := by decide +kernel
theorem d_X1_finish_134 : decode c_X1_finish 134 = .ok (.iconst 0, 1) := by decide +kernel
theorem d_X1_finish_135 : decode c_X1_finish 135 = .ok (.istore_n 3, 1) := by decide +kernel
theorem d_X1_finish_136 : decode c_X1_finish 136 = .ok (.iload_n 3, 1) := by decide +kernel
theorem d_X1_finish_137 : decode c_X1_finish 137 = .ok (.bipush 64, 2) := by decide +kernel
theorem d_X1_finish_139 : decode c_X1_finish 139 = .ok (.if_icmp .ge 21, 3) := by decide +kernel
theorem d_X1_finish_142 : decode c_X1_finish 142 = .ok (.aload_n 0, 1) := by decide +kernel
theorem d_X1_finish_143 : decode c_X1_finish 143 = .ok (.getfield 7, 3) := by decide +kernel
theorem d_X1_finish_146 : decode c_X1_finish 146 = .ok (.iload_n 3, 1) := by decide +kernel
theorem d_X1_finish_147 : decode c_X1_finish 147 = .ok (.aload_n 0, 1) := by decide +kernel
theorem d_X1_finish_148 : decode c_X1_finish 148 = .ok (.getfield 39, 3) := by decide +kernel
theorem d_X1_finish_151 : decode c_X1_finish 151 = .ok (.iload_n 3, 1) := by decide +kernel
theorem d_X1_finish_152 : decode c_X1_finish 152 = .ok (.iaload, 1) := by decide +kernel
theorem d_X1_finish_153 : decode c_X1_finish 153 = .ok (.iastore, 1) := by decide +kernel
theorem d_X1_finish_154 : decode c_X1_finish 154 = .ok (.iinc 3 1, 3) := by decide +kernel
theorem d_X1_finish_157 : decode c_X1_finish 157 = .ok (.goto (-21), 3) := by decide +kernel
theorem d_X1_finish_160 : decode c_X1_finish 160 = .ok (.iconst 0, 1) := by decide +kernel
theorem d_X1_finish_161 : decode c_X1_finish 161 = .ok (.ireturn, 1) := by decide +kernel
theorem d_X1_finish_162 : decode c_X1_finish 162 = .ok (.aload_n 0, 1) := by decide +kernel
theorem d_X1_finish_163 : decode c_X1_finish 163 = .ok (.getfield 49, 3) := by decide +kernel
theorem d_X1_finish_166 : decode c_X1_finish 166 = .ok (.iload_n 1, 1) := by decide +kernel
theorem d_X1_finish_167 : decode c_X1_finish 167 = .ok (.isub, 1) := by decide +kernel
theorem d_X1_finish_168 : decode c_X1_finish 168 = .ok (.ireturn, 1) := by decide +kernel
theorem d_X1_border_0 : decode c_X1_border 0 = .ok (.aload_n 0, 1) := by decide +kernel
theorem d_X1_border_1 : decode c_X1_border 1 = .ok (.iload_n 1, 1) := by decide +kernel
theorem d_X1_border_2 : decode c_X1_border 2 = .ok (.ifCond .lt 8, 3) := by decide +kernel
theorem d_X1_border_5 : decode c_X1_border 5 = .ok (.iload_n 1, 1) := by decide +kernel
theorem d_X1_border_6 : decode c_X1_border 6 = .ok (.iconst 1, 1) := by decide +kernel
theorem d_X1_border_7 : decode c_X1_border 7 = .ok (.if_icmp .le 7, 3) := by decide +kernel
theorem d_X1_border_10 : decode c_X1_border 10 = .ok (.iconst 1, 1) := by decide +kernel
theorem d_X1_border_11 : decode c_X1_border 11 = .ok (.goto 4, 3) := by decide +kernel
theorem d_X1_border_14 : decode c_X1_border 14 = .ok (.iconst 0, 1) := by decide +kernel
theorem d_X1_border_15 : decode c_X1_border 15 = .ok (.putfield 45, 3) := by decide +kernel
theorem d_X1_border_18 : decode c_X1_border 18 = .ok (.iconst 0, 1) := by decide +kernel
theorem d_X1_border_19 : decode c_X1_border 19 = .ok (.istore_n 2, 1) := by decide +kernel
theorem d_X1_border_20 : decode c_X1_border 20 = .ok (.iconst 0, 1) := by decide +kernel
theorem d_X1_border_21 : decode c_X1_border 21 = .ok (.istore_n 3, 1) := by decide +kernel
theorem d_X1_border_22 : decode c_X1_border 22 = .ok (.iload_n 3, 1) := by decide +kernel
theorem d_X1_border_23 : decode c_X1_border 23 = .ok (.bipush 64, 2) := by decide +kernel
theorem d_X1_border_25 : decode c_X1_border 25 = .ok (.if_icmp .ge 118, 3) := by decide +kernel
theorem d_X1_border_28 : decode c_X1_border 28 = .ok (.aload_n 0, 1) := by decide +kernel
theorem d_X1_border_29 : decode c_X1_border 29 = .ok (.getfield 45, 3) := by decide +kernel
theorem d_X1_border_32 : decode c_X1_border 32 = .ok (.ifCond .ne 111, 3) := by decide +kernel
theorem d_X1_border_35 : decode c_X1_border 35 = .ok (.iconst 0, 1) := by decide +kernel
theorem d_X1_border_36 : decode c_X1_border 36 = .ok (.istore 4, 2) := by decide +kernel
theorem d_X1_border_38 : decode c_X1_border 38 = .ok (.iconst 0, 1) := by decide +kernel
theorem d_X1_border_39 : decode c_X1_border 39 = .ok (.istore 5, 2) := by decide +kernel
theorem d_X1_border_41 : decode c_X1_border 41 = .ok (.iload 5, 2) := by decide +kernel
theorem d_X1_border_43 : decode c_X1_border 43 = .ok (.bipush 8, 2) := by decide +kernel
theorem d_X1_border_45 : decode c_X1_border 45 = .ok (.if_icmp .ge 70, 3) := by decide +kernel
theorem d_X1_border_48 : decode c_X1_border 48 = .ok (.iload_n 3, 1) := by decide +kernel
theorem d_X1_border_49 : decode c_X1_border 49 = .ok (.bipush 8, 2) := by decide +kernel
theorem d_X1_border_51 : decode c_X1_border 51 = .ok (.idiv, 1) := by decide +kernel
theorem d_X1_border_52 : decode c_X1_border 52 = .ok (.iload 5, 2) := by decide +kernel
theorem d_X1_border_54 : decode c_X1_border 54 = .ok (.invokestatic 52, 3) := by decide +kernel
theorem d_X1_border_57 : decode c_X1_border 57 = .ok (.iadd, 1) := by decide +kernel
theorem d_X1_border_58 : decode c_X1_border 58 = .ok (.istore 6, 2) := by decide +kernel
theorem d_X1_border_60 : decode c_X1_border 60 = .ok (.iload_n 3, 1) := by decide +kernel
theorem d_X1_border_61 : decode c_X1_border 61 = .ok (.bipush 8, 2) := by decide +kernel
theorem d_X1_border_63 : decode c_X1_border 63 = .ok (.irem, 1) := by decide +kernel
theorem d_X1_border_64 : decode c_X1_border 64 = .ok (.iload 5, 2) := by decide +kernel
theorem d_X1_border_66 : decode c_X1_border 66 = .ok (.invokestatic 56, 3) := by decide +kernel
theorem d_X1_border_69 : decode c_X1_border 69 = .ok (.iadd, 1) := by decide +kernel
theorem d_X1_border_70 : decode c_X1_border 70 = .ok (.istore 7, 2) := by decide +kernel
theorem d_X1_border_72 : decode c_X1_border 72 = .ok (.iload 4, 2) := by decide +kernel
theorem d_X1_border_74 : decode c_X1_border 74 = .ok (.ifCond .ne 28, 3) := by decide +kernel
theorem d_X1_border_77 : decode c_X1_border 77 = .ok (.iload 6, 2) := by decide +kernel
theorem d_X1_border_79 : decode c_X1_border 79 = .ok (.iload 7, 2) := by decide +kernel
theorem d_X1_border_81 : decode c_X1_border 81 = .ok (.invokestatic 59, 3) := by decide +kernel
theorem d_X1_border_84 : decode c_X1_border 84 = .ok (.ifCond .eq 22, 3) := by decide +kernel
theorem d_X1_border_87 : decode c_X1_border 87 = .ok (.aload_n 0, 1) := by decide +kernel
theorem d_X1_border_88 : decode c_X1_border 88 = .ok (.iconst 0, 1) := by decide +kernel
theorem d_X1_border_89 : decode c_X1_border 89 = .ok (.iload 6, 2) := by decide +kernel
theorem d_X1_border_91 : decode c_X1_border 91 = .ok (.iload 7, 2) := by decide +kernel
theorem d_X1_border_93 : decode c_X1_border 93 = .ok (.invokevirtual 63, 3) := by decide +kernel
theorem d_X1_border_96 : decode c_X1_border 96 = .ok (.iload_n 1, 1) := by decide +kernel
theorem d_X1_border_97 : decode c_X1_border 97 = .ok (.iconst 1, 1) := by decide +kernel
theorem d_X1_border_98 : decode c_X1_border 98 = .ok (.iadd, 1) := by decide +kernel
theorem d_X1_border_99 : decode c_X1_border 99 = .ok (.if_icmp .ne 7, 3) := by decide +kernel
theorem d_X1_border_102 : decode c_X1_border 102 = .ok (.iconst 1, 1) := by decide +kernel
theorem d_X1_border_103 : decode c_X1_border 103 = .ok (.goto 4, 3) := by decide +kernel
theorem d_X1_border_106 : decode c_X1_border 106 = .ok (.iconst 0, 1) := by decide +kernel
theorem d_X1_border_107 : decode c_X1_border 107 = .ok (.istore 4, 2) := by decide +kernel
theorem d_X1_border_109 : decode c_X1_border 109 = .ok (.iinc 5 1, 3) := by decide +kernel
theorem d_X1_border_112 : decode c_X1_border 112 = .ok (.goto (-71), 3) := by decide +kernel
theorem d_X1_border_115 : decode c_X1_border 115 = .ok (.aload_n 0, 1) := by decide +kernel
theorem d_X1_border_116 : decode c_X1_border 116 = .ok (.getfield 7, 3) := by decide +kernel
theorem d_X1_border_119 : decode c_X1_border 119 = .ok (.iload_n 3, 1) := by decide +kernel
theorem d_X1_border_120 : decode c_X1_border 120 = .ok (.iaload, 1) := by decide +kernel
theorem d_X1_border_121 : decode c_X1_border 121 = .ok (.ifCond .ne 14, 3) := by decide +kernel
theorem d_X1_border_124 : decode c_X1_border 124 = .ok (.iload 4, 2) := by decide +kernel
theorem d_X1_border_126 : decode c_X1_border 126 = .ok (.ifCond .eq 9, 3) := by decide +kernel
theorem d_X1_border_129 : decode c_X1_border 129 = .ok (.iload_n 2, 1) := by decide +kernel
theorem d_X1_border_130 : decode c_X1_border 130 = .ok (.iconst 1, 1) := by decide +kernel
theorem d_X1_border_131 : decode c_X1_border 131 = .ok (.iadd, 1) := by decide +kernel
theorem d_X1_border_132 : decode c_X1_border 132 = .ok (.goto 4, 3) := by decide +kernel
theorem d_X1_border_135 : decode c_X1_border 135 = .ok (.iload_n 2, 1) := by decide +kernel
theorem d_X1_border_136 : decode c_X1_border 136 = .ok (.istore_n 2, 1) := by decide +kernel
theorem d_X1_border_137 : decode c_X1_border 137 = .ok (.iinc 3 1, 3) := by decide +kernel
theorem d_X1_border_140 : decode c_X1_border 140 = .ok (.goto (-118), 3) := by decide +kernel
theorem d_X1_border_143 : decode c_X1_border 143 = .ok (.iload_n 2, 1) := by decide +kernel
theorem d_X1_border_144 : decode c_X1_border 144 = .ok (.ireturn, 1) := by decide +kernel
theorem d_X1_isFull_0 : decode c_X1_isFull 0 = .ok (.iload_n 1, 1) := by decide +kernel
theorem d_X1_isFull_1 : decode c_X1_isFull 1 = .ok (.bipush 8, 2) := by decide +kernel
theorem d_X1_isFull_3 : decode c_X1_isFull 3 = .ok (.idiv, 1) := by decide +kernel
theorem d_X1_isFull_4 : decode c_X1_isFull 4 = .ok (.iload_n 2, 1) := by decide +kernel
theorem d_X1_isFull_5 : decode c_X1_isFull 5 = .ok (.invokestatic 52, 3) := by decide +kernel
theorem d_X1_isFull_8 : decode c_X1_isFull 8 = .ok (.iadd, 1) := by decide +kernel
theorem d_X1_isFull_9 : decode c_X1_isFull 9 = .ok (.istore 4, 2) := by decide +kernel
theorem d_X1_isFull_11 : decode c_X1_isFull 11 = .ok (.iload_n 1, 1) := by decide +kernel
theorem d_X1_isFull_12 : decode c_X1_isFull 12 = .ok (.bipush 8, 2) := by decide +kernel
theorem d_X1_isFull_14 : decode c_X1_isFull 14 = .ok (.irem, 1) := by decide +kernel
theorem d_X1_isFull_15 : decode c_X1_isFull 15 = .ok (.iload_n 2, 1) := by decide +kernel
theorem d_X1_isFull_16 : decode c_X1_isFull 16 = .ok (.invokestatic 56, 3) := by decide +kernel
theorem d_X1_isFull_19 : decode c_X1_isFull 19 = .ok (.iadd, 1) := by decide +kernel
theorem d_X1_isFull_20 : decode c_X1_isFull 20 = .ok (.istore 5, 2) := by decide +kernel
theorem d_X1_isFull_22 : decode c_X1_isFull 22 = .ok (.iload 4, 2) := by decide +kernel
theorem d_X1_isFull_24 : decode c_X1_isFull 24 = .ok (.iload 5, 2) := by decide +kernel
theorem d_X1_isFull_26 : decode c_X1_isFull 26 = .ok (.invokestatic 59, 3) := by decide +kernel
theorem d_X1_isFull_29 : decode c_X1_isFull 29 = .ok (.ifCond .eq 39, 3) := by decide +kernel
theorem d_X1_isFull_32 : decode c_X1_isFull 32 = .ok (.aload_n 0, 1) := by decide +kernel
theorem d_X1_isFull_33 : decode c_X1_isFull 33 = .ok (.iconst 0, 1) := by decide +kernel
theorem d_X1_isFull_34 : decode c_X1_isFull 34 = .ok (.iload 4, 2) := by decide +kernel
theorem d_X1_isFull_36 : decode c_X1_isFull 36 = .ok (.iload 5, 2) := by decide +kernel
theorem d_X1_isFull_38 : decode c_X1_isFull 38 = .ok (.invokevirtual 63, 3) := by decide +kernel
theorem d_X1_isFull_41 : decode c_X1_isFull 41 = .ok (.iload_n 3, 1) := by decide +kernel
theorem d_X1_isFull_42 : decode c_X1_isFull 42 = .ok (.iconst 1, 1) := by decide +kernel
theorem d_X1_isFull_43 : decode c_X1_isFull 43 = .ok (.iadd, 1) := by decide +kernel
theorem d_X1_isFull_44 : decode c_X1_isFull 44 = .ok (.if_icmp .ne 24, 3) := by decide +kernel
theorem d_X1_isFull_47 : decode c_X1_isFull 47 = .ok (.iload 4, 2) := by decide +kernel
theorem d_X1_isFull_49 : decode c_X1_isFull 49 = .ok (.iload_n 2, 1) := by decide +kernel
theorem d_X1_isFull_50 : decode c_X1_isFull 50 = .ok (.invokestatic 52, 3) := by decide +kernel
theorem d_X1_isFull_53 : decode c_X1_isFull 53 = .ok (.iadd, 1) := by decide +kernel
theorem d_X1_isFull_54 : decode c_X1_isFull 54 = .ok (.istore 4, 2) := by decide +kernel
theorem d_X1_isFull_56 : decode c_X1_isFull 56 = .ok (.iload 5, 2) := by decide +kernel
theorem d_X1_isFull_58 : decode c_X1_isFull 58 = .ok (.iload_n 2, 1) := by decide +kernel
theorem d_X1_isFull_59 : decode c_X1_isFull 59 = .ok (.invokestatic 56, 3) := by decide +kernel
theorem d_X1_isFull_62 : decode c_X1_isFull 62 = .ok (.iadd, 1) := by decide +kernel
theorem d_X1_isFull_63 : decode c_X1_isFull 63 = .ok (.istore 5, 2) := by decide +kernel
theorem d_X1_isFull_65 : decode c_X1_isFull 65 = .ok (.goto (-43), 3) := by decide +kernel
theorem d_X1_isFull_68 : decode c_X1_isFull 68 = .ok (.iload 4, 2) := by decide +kernel
theorem d_X1_isFull_70 : decode c_X1_isFull 70 = .ok (.iload 5, 2) := by decide +kernel
theorem d_X1_isFull_72 : decode c_X1_isFull 72 = .ok (.invokestatic 59, 3) := by decide +kernel
theorem d_X1_isFull_75 : decode c_X1_isFull 75 = .ok (.ifCond .ne 7, 3) := by decide +kernel
theorem d_X1_isFull_78 : decode c_X1_isFull 78 = .ok (.iconst 1, 1) := by decide +kernel
theorem d_X1_isFull_79 : decode c_X1_isFull 79 = .ok (.goto 4, 3) := by decide +kernel
theorem d_X1_isFull_82 : decode c_X1_isFull 82 = .ok (.iconst 0, 1) := by decide +kernel
theorem d_X1_isFull_83 : decode c_X1_isFull 83 = .ok (.ireturn, 1) := by decide +kernel
theorem d_X1_safe_0 : decode c_X1_safe 0 = .ok (.aload_n 0, 1) := by decide +kernel
theorem d_X1_safe_1 : decode c_X1_safe 1 = .ok (.iload_n 1, 1) := by decide +kernel
theorem d_X1_safe_2 : decode c_X1_safe 2 = .ok (.ifCond .lt 8, 3) := by decide +kernel
theorem d_X1_safe_5 : decode c_X1_safe 5 = .ok (.iload_n 1, 1) := by decide +kernel
theorem d_X1_safe_6 : decode c_X1_safe 6 = .ok (.iconst 1, 1) := by decide +kernel
theorem d_X1_safe_7 : decode c_X1_safe 7 = .ok (.if_icmp .le 7, 3) := by decide +kernel
theorem d_X1_safe_10 : decode c_X1_safe 10 = .ok (.iconst 1, 1) := by decide +kernel
theorem d_X1_safe_11 : decode c_X1_safe 11 = .ok (.goto 4, 3) := by decide +kernel
theorem d_X1_safe_14 : decode c_X1_safe 14 = .ok (.iconst 0, 1) := by decide +kernel
theorem d_X1_safe_15 : decode c_X1_safe 15 = .ok (.putfield 45, 3) := by decide +kernel
theorem d_X1_safe_18 : decode c_X1_safe 18 = .ok (.lconst 0, 1) := by decide +kernel
theorem d_X1_safe_19 : decode c_X1_safe 19 = .ok (.lstore_n 2, 1) := by decide +kernel
theorem d_X1_safe_20 : decode c_X1_safe 20 = .ok (.iconst 0, 1) := by decide +kernel
theorem d_X1_safe_21 : decode c_X1_safe 21 = .ok (.istore 4, 2) := by decide +kernel
theorem d_X1_safe_23 : decode c_X1_safe 23 = .ok (.iload 4, 2) := by decide +kernel
theorem d_X1_safe_25 : decode c_X1_safe 25 = .ok (.bipush 64, 2) := by decide +kernel
theorem d_X1_safe_27 : decode c_X1_safe 27 = .ok (.if_icmp .ge 106, 3) := by decide +kernel
theorem d_X1_safe_30 : decode c_X1_safe 30 = .ok (.aload_n 0, 1) := by decide +kernel
theorem d_X1_safe_31 : decode c_X1_safe 31 = .ok (.getfield 45, 3) := by decide +kernel
theorem d_X1_safe_34 : decode c_X1_safe 34 = .ok (.ifCond .ne 99, 3) := by decide +kernel
theorem d_X1_safe_37 : decode c_X1_safe 37 = .ok (.aload_n 0, 1) := by decide +kernel
theorem d_X1_safe_38 : decode c_X1_safe 38 = .ok (.getfield 7, 3) := by decide +kernel
theorem d_X1_safe_41 : decode c_X1_safe 41 = .ok (.iload 4, 2) := by decide +kernel
theorem d_X1_safe_43 : decode c_X1_safe 43 = .ok (.iaload, 1) := by decide +kernel
theorem d_X1_safe_44 : decode c_X1_safe 44 = .ok (.iload_n 1, 1) := by decide +kernel
theorem d_X1_safe_45 : decode c_X1_safe 45 = .ok (.iconst 1, 1) := by decide +kernel
theorem d_X1_safe_46 : decode c_X1_safe 46 = .ok (.iadd, 1) := by decide +kernel
theorem d_X1_safe_47 : decode c_X1_safe 47 = .ok (.if_icmp .ne 7, 3) := by decide +kernel
theorem d_X1_safe_50 : decode c_X1_safe 50 = .ok (.iconst 1, 1) := by decide +kernel
theorem d_X1_safe_51 : decode c_X1_safe 51 = .ok (.goto 4, 3) := by decide +kernel
theorem d_X1_safe_54 : decode c_X1_safe 54 = .ok (.iconst 0, 1) := by decide +kernel
theorem d_X1_safe_55 : decode c_X1_safe 55 = .ok (.istore 5, 2) := by decide +kernel
theorem d_X1_safe_57 : decode c_X1_safe 57 = .ok (.iconst 0, 1) := by decide +kernel
theorem d_X1_safe_58 : decode c_X1_safe 58 = .ok (.istore 6, 2) := by decide +kernel
theorem d_X1_safe_60 : decode c_X1_safe 60 = .ok (.iload 6, 2) := by decide +kernel
theorem d_X1_safe_62 : decode c_X1_safe 62 = .ok (.iconst 4, 1) := by decide +kernel
theorem d_X1_safe_63 : decode c_X1_safe 63 = .ok (.if_icmp .ge 48, 3) := by decide +kernel
theorem d_X1_safe_66 : decode c_X1_safe 66 = .ok (.iload 5, 2) := by decide +kernel
theorem d_X1_safe_68 : decode c_X1_safe 68 = .ok (.ifCond .eq 43, 3) := by decide +kernel
theorem d_X1_safe_71 : decode c_X1_safe 71 = .ok (.aload_n 0, 1) := by decide +kernel
theorem d_X1_safe_72 : decode c_X1_safe 72 = .ok (.iload 4, 2) := by decide +kernel
theorem d_X1_safe_74 : decode c_X1_safe 74 = .ok (.iload 6, 2) := by decide +kernel
theorem d_X1_safe_76 : decode c_X1_safe 76 = .ok (.iload_n 1, 1) := by decide +kernel
theorem d_X1_safe_77 : decode c_X1_safe 77 = .ok (.invokevirtual 130, 3) := by decide +kernel
theorem d_X1_safe_80 : decode c_X1_safe 80 = .ok (.ifCond .ne 18, 3) := by decide +kernel
theorem d_X1_safe_83 : decode c_X1_safe 83 = .ok (.aload_n 0, 1) := by decide +kernel
theorem d_X1_safe_84 : decode c_X1_safe 84 = .ok (.iload 4, 2) := by decide +kernel
theorem d_X1_safe_86 : decode c_X1_safe 86 = .ok (.bipush 7, 2) := by decide +kernel
theorem d_X1_safe_88 : decode c_X1_safe 88 = .ok (.iload 6, 2) := by decide +kernel
theorem d_X1_safe_90 : decode c_X1_safe 90 = .ok (.isub, 1) := by decide +kernel
theorem d_X1_safe_91 : decode c_X1_safe 91 = .ok (.iload_n 1, 1) := by decide +kernel
theorem d_X1_safe_92 : decode c_X1_safe 92 = .ok (.invokevirtual 130, 3) := by decide +kernel
theorem d_X1_safe_95 : decode c_X1_safe 95 = .ok (.ifCond .eq 7, 3) := by decide +kernel
theorem d_X1_safe_98 : decode c_X1_safe 98 = .ok (.iconst 1, 1) := by decide +kernel
theorem d_X1_safe_99 : decode c_X1_safe 99 = .ok (.goto 4, 3) := by decide +kernel
theorem d_X1_safe_102 : decode c_X1_safe 102 = .ok (.iconst 0, 1) := by decide +kernel
theorem d_X1_safe_103 : decode c_X1_safe 103 = .ok (.istore 5, 2) := by decide +kernel
theorem d_X1_safe_105 : decode c_X1_safe 105 = .ok (.iinc 6 1, 3) := by decide +kernel
theorem d_X1_safe_108 : decode c_X1_safe 108 = .ok (.goto (-48), 3) := by decide +kernel
theorem d_X1_safe_111 : decode c_X1_safe 111 = .ok (.iload 5, 2) := by decide +kernel
theorem d_X1_safe_113 : decode c_X1_safe 113 = .ok (.ifCond .eq 12, 3) := by decide +kernel
theorem d_X1_safe_116 : decode c_X1_safe 116 = .ok (.lload_n 2, 1) := by decide +kernel
theorem d_X1_safe_117 : decode c_X1_safe 117 = .ok (.lconst 1, 1) := by decide +kernel
theorem d_X1_safe_118 : decode c_X1_safe 118 = .ok (.iload 4, 2) := by decide +kernel
theorem d_X1_safe_120 : decode c_X1_safe 120 = .ok (.lshl, 1) := by decide +kernel
theorem d_X1_safe_121 : decode c_X1_safe 121 = .ok (.lor, 1) := by decide +kernel
theorem d_X1_safe_122 : decode c_X1_safe 122 = .ok (.goto 4, 3) := by decide +kernel
theorem d_X1_safe_125 : decode c_X1_safe 125 = .ok (.lload_n 2, 1) := by decide +kernel
theorem d_X1_safe_126 : decode c_X1_safe 126 = .ok (.lstore_n 2, 1) := by decide +kernel
theorem d_X1_safe_127 : decode c_X1_safe 127 = .ok (.iinc 4 1, 3) := by decide +kernel
theorem d_X1_safe_130 : decode c_X1_safe 130 = .ok (.goto (-107), 3) := by decide +kernel
theorem d_X1_safe_133 : decode c_X1_safe 133 = .ok (.lload_n 2, 1) := by decide +kernel
theorem d_X1_safe_134 : decode c_X1_safe 134 = .ok (.lreturn, 1) := by decide +kernel
