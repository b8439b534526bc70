theorem dX10_init_0 : decode cX10_init 0 = .ok (.aload_n 0, 1) := by decide +kernel
theorem dX10_init_1 : decode cX10_init 1 = .ok (.invokespecial 1, 3) := by decide +kernel
theorem dX10_init_4 : decode cX10_init 4 = .ok (.aload_n 0, 1) := by decide +kernel
theorem dX10_init_5 : decode cX10_init 5 = .ok (.bipush 60, 2) := by decide +kernel
theorem dX10_init_7 : decode cX10_init 7 = .ok (.newarray .int, 2) := by decide +kernel
theorem dX10_init_9 : decode cX10_init 9 = .ok (.putfield 7, 3) := by decide +kernel
theorem dX10_init_12 : decode cX10_init 12 = .ok (.aload_n 0, 1) := by decide +kernel
theorem dX10_init_13 : decode cX10_init 13 = .ok (.iconst 1, 1) := by decide +kernel
theorem dX10_init_14 : decode cX10_init 14 = .ok (.putfield 13, 3) := by decide +kernel
theorem dX10_init_17 : decode cX10_init 17 = .ok (.aload_n 0, 1) := by decide +kernel
theorem dX10_init_18 : decode cX10_init 18 = .ok (.sipush 2400, 3) := by decide +kernel
theorem dX10_init_21 : decode cX10_init 21 = .ok (.newarray .boolean, 2) := by decide +kernel
theorem dX10_init_23 : decode cX10_init 23 = .ok (.putfield 17, 3) := by decide +kernel
theorem dX10_init_26 : decode cX10_init 26 = .ok (.aload_n 0, 1) := by decide +kernel
theorem dX10_init_27 : decode cX10_init 27 = .ok (.sipush 14400, 3) := by decide +kernel
theorem dX10_init_30 : decode cX10_init 30 = .ok (.newarray .long, 2) := by decide +kernel
theorem dX10_init_32 : decode cX10_init 32 = .ok (.putfield 21, 3) := by decide +kernel
theorem dX10_init_35 : decode cX10_init 35 = .ok (.aload_n 0, 1) := by decide +kernel
theorem dX10_init_36 : decode cX10_init 36 = .ok (.bipush 20, 2) := by decide +kernel
theorem dX10_init_38 : decode cX10_init 38 = .ok (.newarray .int, 2) := by decide +kernel
theorem dX10_init_40 : decode cX10_init 40 = .ok (.putfield 25, 3) := by decide +kernel
theorem dX10_init_43 : decode cX10_init 43 = .ok (.aload_n 0, 1) := by decide +kernel
theorem dX10_init_44 : decode cX10_init 44 = .ok (.bipush 20, 2) := by decide +kernel
theorem dX10_init_46 : decode cX10_init 46 = .ok (.newarray .boolean, 2) := by decide +kernel
theorem dX10_init_48 : decode cX10_init 48 = .ok (.putfield 28, 3) := by decide +kernel
theorem dX10_init_51 : decode cX10_init 51 = .ok (.aload_n 0, 1) := by decide +kernel
theorem dX10_init_52 : decode cX10_init 52 = .ok (.sipush 1200, 3) := by decide +kernel
theorem dX10_init_55 : decode cX10_init 55 = .ok (.newarray .boolean, 2) := by decide +kernel
theorem dX10_init_57 : decode cX10_init 57 = .ok (.putfield 31, 3) := by decide +kernel
theorem dX10_init_60 : decode cX10_init 60 = .ok (.aload_n 0, 1) := by decide +kernel
theorem dX10_init_61 : decode cX10_init 61 = .ok (.sipush 7200, 3) := by decide +kernel
theorem dX10_init_64 : decode cX10_init 64 = .ok (.newarray .long, 2) := by decide +kernel
theorem dX10_init_66 : decode cX10_init 66 = .ok (.putfield 34, 3) := by decide +kernel
theorem dX10_init_69 : decode cX10_init 69 = .ok (.aload_n 0, 1) := by decide +kernel
theorem dX10_init_70 : decode cX10_init 70 = .ok (.bipush 20, 2) := by decide +kernel
theorem dX10_init_72 : decode cX10_init 72 = .ok (.newarray .int, 2) := by decide +kernel
theorem dX10_init_74 : decode cX10_init 74 = .ok (.putfield 37, 3) := by decide +kernel
theorem dX10_init_77 : decode cX10_init 77 = .ok (.aload_n 0, 1) := by decide +kernel
theorem dX10_init_78 : decode cX10_init 78 = .ok (.sipush 800, 3) := by decide +kernel
theorem dX10_init_81 : decode cX10_init 81 = .ok (.newarray .int, 2) := by decide +kernel
theorem dX10_init_83 : decode cX10_init 83 = .ok (.putfield 40, 3) := by decide +kernel
theorem dX10_init_86 : decode cX10_init 86 = .ok (.aload_n 0, 1) := by decide +kernel
theorem dX10_init_87 : decode cX10_init 87 = .ok (.sipush 800, 3) := by decide +kernel
theorem dX10_init_90 : decode cX10_init 90 = .ok (.newarray .int, 2) := by decide +kernel
theorem dX10_init_92 : decode cX10_init 92 = .ok (.putfield 43, 3) := by decide +kernel
theorem dX10_init_95 : decode cX10_init 95 = .ok (.aload_n 0, 1) := by decide +kernel
theorem dX10_init_96 : decode cX10_init 96 = .ok (.sipush 800, 3) := by decide +kernel
theorem dX10_init_99 : decode cX10_init 99 = .ok (.newarray .boolean, 2) := by decide +kernel
theorem dX10_init_101 : decode cX10_init 101 = .ok (.putfield 46, 3) := by decide +kernel
theorem dX10_init_104 : decode cX10_init 104 = .ok (.aload_n 0, 1) := by decide +kernel
theorem dX10_init_105 : decode cX10_init 105 = .ok (.sipush 800, 3) := by decide +kernel
theorem dX10_init_108 : decode cX10_init 108 = .ok (.newarray .long, 2) := by decide +kernel
theorem dX10_init_110 : decode cX10_init 110 = .ok (.putfield 49, 3) := by decide +kernel
theorem dX10_init_113 : decode cX10_init 113 = .ok (.aload_n 0, 1) := by decide +kernel
theorem dX10_init_114 : decode cX10_init 114 = .ok (.sipush 8400, 3) := by decide +kernel
theorem dX10_init_117 : decode cX10_init 117 = .ok (.newarray .int, 2) := by decide +kernel
theorem dX10_init_119 : decode cX10_init 119 = .ok (.putfield 52, 3) := by decide +kernel
theorem dX10_init_122 : decode cX10_init 122 = .ok (.aload_n 0, 1) := by decide +kernel
theorem dX10_init_123 : decode cX10_init 123 = .ok (.sipush 420, 3) := by decide +kernel
theorem dX10_init_126 : decode cX10_init 126 = .ok (.newarray .int, 2) := by decide +kernel
theorem dX10_init_128 : decode cX10_init 128 = .ok (.putfield 55, 3) := by decide +kernel
theorem dX10_init_131 : decode cX10_init 131 = .ok (.aload_n 0, 1) := by decide +kernel
theorem dX10_init_132 : decode cX10_init 132 = .ok (.bipush 10, 2) := by decide +kernel
theorem dX10_init_134 : decode cX10_init 134 = .ok (.newarray .int, 2) := by decide +kernel
theorem dX10_init_136 : decode cX10_init 136 = .ok (.putfield 58, 3) := by decide +kernel
theorem dX10_init_139 : decode cX10_init 139 = .ok (.aload_n 0, 1) := by decide +kernel
theorem dX10_init_140 : decode cX10_init 140 = .ok (.bipush 40, 2) := by decide +kernel
theorem dX10_init_142 : decode cX10_init 142 = .ok (.newarray .long, 2) := by decide +kernel
theorem dX10_init_144 : decode cX10_init 144 = .ok (.putfield 61, 3) := by decide +kernel
theorem dX10_init_147 : decode cX10_init 147 = .ok (.aload_n 0, 1) := by decide +kernel
theorem dX10_init_148 : decode cX10_init 148 = .ok (.bipush 20, 2) := by decide +kernel
theorem dX10_init_150 : decode cX10_init 150 = .ok (.newarray .int, 2) := by decide +kernel
theorem dX10_init_152 : decode cX10_init 152 = .ok (.putfield 64, 3) := by decide +kernel
theorem dX10_init_155 : decode cX10_init 155 = .ok (.aload_n 0, 1) := by decide +kernel
theorem dX10_init_156 : decode cX10_init 156 = .ok (.bipush 20, 2) := by decide +kernel
theorem dX10_init_158 : decode cX10_init 158 = .ok (.newarray .int, 2) := by decide +kernel
theorem dX10_init_160 : decode cX10_init 160 = .ok (.putfield 67, 3) := by decide +kernel
theorem dX10_init_163 : decode cX10_init 163 = .ok (.aload_n 0, 1) := by decide +kernel
theorem dX10_init_164 : decode cX10_init 164 = .ok (.bipush 20, 2) := by decide +kernel
theorem dX10_init_166 : decode cX10_init 166 = .ok (.newarray .long, 2) := by decide +kernel
theorem dX10_init_168 : decode cX10_init 168 = .ok (.putfield 70, 3) := by decide +kernel
theorem dX10_init_171 : decode cX10_init 171 = .ok (.aload_n 0, 1) := by decide +kernel
theorem dX10_init_172 : decode cX10_init 172 = .ok (.bipush 60, 2) := by decide +kernel
theorem dX10_init_174 : decode cX10_init 174 = .ok (.newarray .int, 2) := by decide +kernel
theorem dX10_init_176 : decode cX10_init 176 = .ok (.putfield 73, 3) := by decide +kernel
theorem dX10_init_179 : decode cX10_init 179 = .ok (.return_, 1) := by decide +kernel
theorem dX10_thrown_0 : decode cX10_thrown 0 = .ok (.aload_n 0, 1) := by decide +kernel
theorem dX10_thrown_1 : decode cX10_thrown 1 = .ok (.getfield 76, 3) := by decide +kernel
theorem dX10_thrown_4 : decode cX10_thrown 4 = .ok (.ireturn, 1) := by decide +kernel
theorem dX10_head_0 : decode cX10_head 0 = .ok (.aload_n 0, 1) := by decide +kernel
theorem dX10_head_1 : decode cX10_head 1 = .ok (.getfield 13, 3) := by decide +kernel
theorem dX10_head_4 : decode cX10_head 4 = .ok (.iconst 1, 1) := by decide +kernel
theorem dX10_head_5 : decode cX10_head 5 = .ok (.isub, 1) := by decide +kernel
theorem dX10_head_6 : decode cX10_head 6 = .ok (.ireturn, 1) := by decide +kernel
theorem dX10_isKind_0 : decode cX10_isKind 0 = .ok (.iload_n 0, 1) := by decide +kernel
theorem dX10_isKind_1 : decode cX10_isKind 1 = .ok (.ifCond .lt 13, 3) := by decide +kernel
theorem dX10_isKind_4 : decode cX10_isKind 4 = .ok (.iload_n 0, 1) := by decide +kernel
theorem dX10_isKind_5 : decode cX10_isKind 5 = .ok (.bipush 10, 2) := by decide +kernel
theorem dX10_isKind_7 : decode cX10_isKind 7 = .ok (.if_icmp .ge 7, 3) := by decide +kernel
theorem dX10_isKind_10 : decode cX10_isKind 10 = .ok (.iconst 1, 1) := by decide +kernel
theorem dX10_isKind_11 : decode cX10_isKind 11 = .ok (.goto 4, 3) := by decide +kernel
theorem dX10_isKind_14 : decode cX10_isKind 14 = .ok (.iconst 0, 1) := by decide +kernel
theorem dX10_isKind_15 : decode cX10_isKind 15 = .ok (.ireturn, 1) := by decide +kernel
theorem dX10_isObject_0 : decode cX10_isObject 0 = .ok (.iload_n 1, 1) := by decide +kernel
theorem dX10_isObject_1 : decode cX10_isObject 1 = .ok (.ifCond .lt 15, 3) := by decide +kernel
theorem dX10_isObject_4 : decode cX10_isObject 4 = .ok (.iload_n 1, 1) := by decide +kernel
theorem dX10_isObject_5 : decode cX10_isObject 5 = .ok (.aload_n 0, 1) := by decide +kernel
theorem dX10_isObject_6 : decode cX10_isObject 6 = .ok (.getfield 79, 3) := by decide +kernel
theorem dX10_isObject_9 : decode cX10_isObject 9 = .ok (.if_icmp .ge 7, 3) := by decide +kernel
theorem dX10_isObject_12 : decode cX10_isObject 12 = .ok (.iconst 1, 1) := by decide +kernel
theorem dX10_isObject_13 : decode cX10_isObject 13 = .ok (.goto 4, 3) := by decide +kernel
theorem dX10_isObject_16 : decode cX10_isObject 16 = .ok (.iconst 0, 1) := by decide +kernel
theorem dX10_isObject_17 : decode cX10_isObject 17 = .ok (.ireturn, 1) := by decide +kernel
theorem dX10_isSession_0 : decode cX10_isSession 0 = .ok (.iload_n 1, 1) := by decide +kernel
theorem dX10_isSession_1 : decode cX10_isSession 1 = .ok (.ifCond .lt 15, 3) := by decide +kernel
theorem dX10_isSession_4 : decode cX10_isSession 4 = .ok (.iload_n 1, 1) := by decide +kernel
theorem dX10_isSession_5 : decode cX10_isSession 5 = .ok (.aload_n 0, 1) := by decide +kernel
theorem dX10_isSession_6 : decode cX10_isSession 6 = .ok (.getfield 82, 3) := by decide +kernel
theorem dX10_isSession_9 : decode cX10_isSession 9 = .ok (.if_icmp .ge 7, 3) := by decide +kernel
theorem dX10_isSession_12 : decode cX10_isSession 12 = .ok (.iconst 1, 1) := by decide +kernel
theorem dX10_isSession_13 : decode cX10_isSession 13 = .ok (.goto 4, 3) := by decide +kernel
theorem dX10_isSession_16 : decode cX10_isSession 16 = .ok (.iconst 0, 1) := by decide +kernel
theorem dX10_isSession_17 : decode cX10_isSession 17 = .ok (.ireturn, 1) := by decide +kernel
theorem dX10_isField_0 : decode cX10_isField 0 = .ok (.iload_n 0, 1) := by decide +kernel
theorem dX10_isField_1 : decode cX10_isField 1 = .ok (.ifCond .lt 13, 3) := by decide +kernel
theorem dX10_isField_4 : decode cX10_isField 4 = .ok (.iload_n 0, 1) := by decide +kernel
theorem dX10_isField_5 : decode cX10_isField 5 = .ok (.bipush 6, 2) := by decide +kernel
theorem dX10_isField_7 : decode cX10_isField 7 = .ok (.if_icmp .ge 7, 3) := by decide +kernel
theorem dX10_isField_10 : decode cX10_isField 10 = .ok (.iconst 1, 1) := by decide +kernel
theorem dX10_isField_11 : decode cX10_isField 11 = .ok (.goto 4, 3) := by decide +kernel
theorem dX10_isField_14 : decode cX10_isField 14 = .ok (.iconst 0, 1) := by decide +kernel
theorem dX10_isField_15 : decode cX10_isField 15 = .ok (.ireturn, 1) := by decide +kernel
theorem dX10_copyHead_0 : decode cX10_copyHead 0 = .ok (.bipush 60, 2) := by decide +kernel
theorem dX10_copyHead_2 : decode cX10_copyHead 2 = .ok (.aload_n 0, 1) := by decide +kernel
theorem dX10_copyHead_3 : decode cX10_copyHead 3 = .ok (.getfield 13, 3) := by decide +kernel
theorem dX10_copyHead_6 : decode cX10_copyHead 6 = .ok (.imul, 1) := by decide +kernel
theorem dX10_copyHead_7 : decode cX10_copyHead 7 = .ok (.istore_n 1, 1) := by decide +kernel
theorem dX10_copyHead_8 : decode cX10_copyHead 8 = .ok (.iload_n 1, 1) := by decide +kernel
theorem dX10_copyHead_9 : decode cX10_copyHead 9 = .ok (.bipush 60, 2) := by decide +kernel
theorem dX10_copyHead_11 : decode cX10_copyHead 11 = .ok (.isub, 1) := by decide +kernel
theorem dX10_copyHead_12 : decode cX10_copyHead 12 = .ok (.istore_n 2, 1) := by decide +kernel
theorem dX10_copyHead_13 : decode cX10_copyHead 13 = .ok (.iconst 0, 1) := by decide +kernel
theorem dX10_copyHead_14 : decode cX10_copyHead 14 = .ok (.istore_n 3, 1) := by decide +kernel
theorem dX10_copyHead_15 : decode cX10_copyHead 15 = .ok (.iload_n 3, 1) := by decide +kernel
theorem dX10_copyHead_16 : decode cX10_copyHead 16 = .ok (.bipush 60, 2) := by decide +kernel
theorem dX10_copyHead_18 : decode cX10_copyHead 18 = .ok (.if_icmp .ge 25, 3) := by decide +kernel
theorem dX10_copyHead_21 : decode cX10_copyHead 21 = .ok (.aload_n 0, 1) := by decide +kernel
theorem dX10_copyHead_22 : decode cX10_copyHead 22 = .ok (.getfield 17, 3) := by decide +kernel
theorem dX10_copyHead_25 : decode cX10_copyHead 25 = .ok (.iload_n 1, 1) := by decide +kernel
theorem dX10_copyHead_26 : decode cX10_copyHead 26 = .ok (.iload_n 3, 1) := by decide +kernel
theorem dX10_copyHead_27 : decode cX10_copyHead 27 = .ok (.iadd, 1) := by decide +kernel
theorem dX10_copyHead_28 : decode cX10_copyHead 28 = .ok (.aload_n 0, 1) := by decide +kernel
theorem dX10_copyHead_29 : decode cX10_copyHead 29 = .ok (.getfield 17, 3) := by decide +kernel
theorem dX10_copyHead_32 : decode cX10_copyHead 32 = .ok (.iload_n 2, 1) := by decide +kernel
theorem dX10_copyHead_33 : decode cX10_copyHead 33 = .ok (.iload_n 3, 1) := by decide +kernel
theorem dX10_copyHead_34 : decode cX10_copyHead 34 = .ok (.iadd, 1) := by decide +kernel
theorem dX10_copyHead_35 : decode cX10_copyHead 35 = .ok (.baload, 1) := by decide +kernel
theorem dX10_copyHead_36 : decode cX10_copyHead 36 = .ok (.bastore, 1) := by decide +kernel
theorem dX10_copyHead_37 : decode cX10_copyHead 37 = .ok (.iinc 3 1, 3) := by decide +kernel
theorem dX10_copyHead_40 : decode cX10_copyHead 40 = .ok (.goto (-25), 3) := by decide +kernel
theorem dX10_copyHead_43 : decode cX10_copyHead 43 = .ok (.iconst 0, 1) := by decide +kernel
theorem dX10_copyHead_44 : decode cX10_copyHead 44 = .ok (.istore_n 3, 1) := by decide +kernel
theorem dX10_copyHead_45 : decode cX10_copyHead 45 = .ok (.iload_n 3, 1) := by decide +kernel
theorem dX10_copyHead_46 : decode cX10_copyHead 46 = .ok (.sipush 360, 3) := by decide +kernel
theorem dX10_copyHead_49 : decode cX10_copyHead 49 = .ok (.if_icmp .ge 41, 3) := by decide +kernel
theorem dX10_copyHead_52 : decode cX10_copyHead 52 = .ok (.aload_n 0, 1) := by decide +kernel
theorem dX10_copyHead_53 : decode cX10_copyHead 53 = .ok (.getfield 21, 3) := by decide +kernel
theorem dX10_copyHead_56 : decode cX10_copyHead 56 = .ok (.sipush 360, 3) := by decide +kernel
theorem dX10_copyHead_59 : decode cX10_copyHead 59 = .ok (.aload_n 0, 1) := by decide +kernel
theorem dX10_copyHead_60 : decode cX10_copyHead 60 = .ok (.getfield 13, 3) := by decide +kernel
theorem dX10_copyHead_63 : decode cX10_copyHead 63 = .ok (.imul, 1) := by decide +kernel
theorem dX10_copyHead_64 : decode cX10_copyHead 64 = .ok (.iload_n 3, 1) := by decide +kernel
theorem dX10_copyHead_65 : decode cX10_copyHead 65 = .ok (.iadd, 1) := by decide +kernel
theorem dX10_copyHead_66 : decode cX10_copyHead 66 = .ok (.aload_n 0, 1) := by decide +kernel
theorem dX10_copyHead_67 : decode cX10_copyHead 67 = .ok (.getfield 21, 3) := by decide +kernel
theorem dX10_copyHead_70 : decode cX10_copyHead 70 = .ok (.sipush 360, 3) := by decide +kernel
theorem dX10_copyHead_73 : decode cX10_copyHead 73 = .ok (.aload_n 0, 1) := by decide +kernel
theorem dX10_copyHead_74 : decode cX10_copyHead 74 = .ok (.getfield 13, 3) := by decide +kernel
theorem dX10_copyHead_77 : decode cX10_copyHead 77 = .ok (.iconst 1, 1) := by decide +kernel
theorem dX10_copyHead_78 : decode cX10_copyHead 78 = .ok (.isub, 1) := by decide +kernel
theorem dX10_copyHead_79 : decode cX10_copyHead 79 = .ok (.imul, 1) := by decide +kernel
theorem dX10_copyHead_80 : decode cX10_copyHead 80 = .ok (.iload_n 3, 1) := by decide +kernel
theorem dX10_copyHead_81 : decode cX10_copyHead 81 = .ok (.iadd, 1) := by decide +kernel
theorem dX10_copyHead_82 : decode cX10_copyHead 82 = .ok (.laload, 1) := by decide +kernel
theorem dX10_copyHead_83 : decode cX10_copyHead 83 = .ok (.lastore, 1) := by decide +kernel
theorem dX10_copyHead_84 : decode cX10_copyHead 84 = .ok (.iinc 3 1, 3) := by decide +kernel
theorem dX10_copyHead_87 : decode cX10_copyHead 87 = .ok (.goto (-42), 3) := by decide +kernel
theorem dX10_copyHead_90 : decode cX10_copyHead 90 = .ok (.aload_n 0, 1) := by decide +kernel
theorem dX10_copyHead_91 : decode cX10_copyHead 91 = .ok (.dup, 1) := by decide +kernel
theorem dX10_copyHead_92 : decode cX10_copyHead 92 = .ok (.getfield 13, 3) := by decide +kernel
theorem dX10_copyHead_95 : decode cX10_copyHead 95 = .ok (.iconst 1, 1) := by decide +kernel
theorem dX10_copyHead_96 : decode cX10_copyHead 96 = .ok (.iadd, 1) := by decide +kernel
theorem dX10_copyHead_97 : decode cX10_copyHead 97 = .ok (.putfield 13, 3) := by decide +kernel
theorem dX10_copyHead_100 : decode cX10_copyHead 100 = .ok (.return_, 1) := by decide +kernel
theorem dX10_object_0 : decode cX10_object 0 = .ok (.aload_n 0, 1) := by decide +kernel
theorem dX10_object_1 : decode cX10_object 1 = .ok (.iload_n 1, 1) := by decide +kernel
theorem dX10_object_2 : decode cX10_object 2 = .ok (.invokestatic 85, 3) := by decide +kernel
theorem dX10_object_5 : decode cX10_object 5 = .ok (.ifCond .eq 7, 3) := by decide +kernel
theorem dX10_object_8 : decode cX10_object 8 = .ok (.iconst 0, 1) := by decide +kernel
theorem dX10_object_9 : decode cX10_object 9 = .ok (.goto 4, 3) := by decide +kernel
theorem dX10_object_12 : decode cX10_object 12 = .ok (.iconst 1, 1) := by decide +kernel
theorem dX10_object_13 : decode cX10_object 13 = .ok (.putfield 76, 3) := by decide +kernel
theorem dX10_object_16 : decode cX10_object 16 = .ok (.aload_n 0, 1) := by decide +kernel
theorem dX10_object_17 : decode cX10_object 17 = .ok (.getfield 76, 3) := by decide +kernel
theorem dX10_object_20 : decode cX10_object 20 = .ok (.ifCond .eq 5, 3) := by decide +kernel
theorem dX10_object_23 : decode cX10_object 23 = .ok (.iconst 0, 1) := by decide +kernel
theorem dX10_object_24 : decode cX10_object 24 = .ok (.ireturn, 1) := by decide +kernel
theorem dX10_object_25 : decode cX10_object 25 = .ok (.aload_n 0, 1) := by decide +kernel
theorem dX10_object_26 : decode cX10_object 26 = .ok (.getfield 79, 3) := by decide +kernel
theorem dX10_object_29 : decode cX10_object 29 = .ok (.bipush 60, 2) := by decide +kernel
theorem dX10_object_31 : decode cX10_object 31 = .ok (.if_icmp .eq 12, 3) := by decide +kernel
theorem dX10_object_34 : decode cX10_object 34 = .ok (.aload_n 0, 1) := by decide +kernel
theorem dX10_object_35 : decode cX10_object 35 = .ok (.getfield 13, 3) := by decide +kernel
theorem dX10_object_38 : decode cX10_object 38 = .ok (.bipush 40, 2) := by decide +kernel
theorem dX10_object_40 : decode cX10_object 40 = .ok (.if_icmp .ne 5, 3) := by decide +kernel
theorem dX10_object_43 : decode cX10_object 43 = .ok (.iconst (-1), 1) := by decide +kernel
theorem dX10_object_44 : decode cX10_object 44 = .ok (.ireturn, 1) := by decide +kernel
theorem dX10_object_45 : decode cX10_object 45 = .ok (.aload_n 0, 1) := by decide +kernel
theorem dX10_object_46 : decode cX10_object 46 = .ok (.invokevirtual 89, 3) := by decide +kernel
theorem dX10_object_49 : decode cX10_object 49 = .ok (.aload_n 0, 1) := by decide +kernel
theorem dX10_object_50 : decode cX10_object 50 = .ok (.getfield 7, 3) := by decide +kernel
theorem dX10_object_53 : decode cX10_object 53 = .ok (.aload_n 0, 1) := by decide +kernel
theorem dX10_object_54 : decode cX10_object 54 = .ok (.getfield 79, 3) := by decide +kernel
theorem dX10_object_57 : decode cX10_object 57 = .ok (.iload_n 1, 1) := by decide +kernel
theorem dX10_object_58 : decode cX10_object 58 = .ok (.iastore, 1) := by decide +kernel
theorem dX10_object_59 : decode cX10_object 59 = .ok (.aload_n 0, 1) := by decide +kernel
theorem dX10_object_60 : decode cX10_object 60 = .ok (.getfield 17, 3) := by decide +kernel
theorem dX10_object_63 : decode cX10_object 63 = .ok (.bipush 60, 2) := by decide +kernel
theorem dX10_object_65 : decode cX10_object 65 = .ok (.aload_n 0, 1) := by decide +kernel
theorem dX10_object_66 : decode cX10_object 66 = .ok (.invokevirtual 92, 3) := by decide +kernel
theorem dX10_object_69 : decode cX10_object 69 = .ok (.imul, 1) := by decide +kernel
theorem dX10_object_70 : decode cX10_object 70 = .ok (.aload_n 0, 1) := by decide +kernel
theorem dX10_object_71 : decode cX10_object 71 = .ok (.getfield 79, 3) := by decide +kernel
theorem dX10_object_74 : decode cX10_object 74 = .ok (.iadd, 1) := by decide +kernel
theorem dX10_object_75 : decode cX10_object 75 = .ok (.iconst 1, 1) := by decide +kernel
theorem dX10_object_76 : decode cX10_object 76 = .ok (.bastore, 1) := by decide +kernel
theorem dX10_object_77 : decode cX10_object 77 = .ok (.aload_n 0, 1) := by decide +kernel
theorem dX10_object_78 : decode cX10_object 78 = .ok (.dup, 1) := by decide +kernel
theorem dX10_object_79 : decode cX10_object 79 = .ok (.getfield 79, 3) := by decide +kernel
theorem dX10_object_82 : decode cX10_object 82 = .ok (.iconst 1, 1) := by decide +kernel
theorem dX10_object_83 : decode cX10_object 83 = .ok (.iadd, 1) := by decide +kernel
theorem dX10_object_84 : decode cX10_object 84 = .ok (.putfield 79, 3) := by decide +kernel
theorem dX10_object_87 : decode cX10_object 87 = .ok (.aload_n 0, 1) := by decide +kernel
theorem dX10_object_88 : decode cX10_object 88 = .ok (.getfield 79, 3) := by decide +kernel
theorem dX10_object_91 : decode cX10_object 91 = .ok (.iconst 1, 1) := by decide +kernel
theorem dX10_object_92 : decode cX10_object 92 = .ok (.isub, 1) := by decide +kernel
theorem dX10_object_93 : decode cX10_object 93 = .ok (.ireturn, 1) := by decide +kernel
theorem dX10_begin_0 : decode cX10_begin 0 = .ok (.aload_n 0, 1) := by decide +kernel
theorem dX10_begin_1 : decode cX10_begin 1 = .ok (.getfield 82, 3) := by decide +kernel
theorem dX10_begin_4 : decode cX10_begin 4 = .ok (.bipush 20, 2) := by decide +kernel
theorem dX10_begin_6 : decode cX10_begin 6 = .ok (.if_icmp .ne 5, 3) := by decide +kernel
theorem dX10_begin_9 : decode cX10_begin 9 = .ok (.iconst (-1), 1) := by decide +kernel
theorem dX10_begin_10 : decode cX10_begin 10 = .ok (.ireturn, 1) := by decide +kernel
theorem dX10_begin_11 : decode cX10_begin 11 = .ok (.aload_n 0, 1) := by decide +kernel
theorem dX10_begin_12 : decode cX10_begin 12 = .ok (.getfield 25, 3) := by decide +kernel
theorem dX10_begin_15 : decode cX10_begin 15 = .ok (.aload_n 0, 1) := by decide +kernel
theorem dX10_begin_16 : decode cX10_begin 16 = .ok (.getfield 82, 3) := by decide +kernel
theorem dX10_begin_19 : decode cX10_begin 19 = .ok (.iload_n 1, 1) := by decide +kernel
theorem dX10_begin_20 : decode cX10_begin 20 = .ok (.iastore, 1) := by decide +kernel
theorem dX10_begin_21 : decode cX10_begin 21 = .ok (.aload_n 0, 1) := by decide +kernel
theorem dX10_begin_22 : decode cX10_begin 22 = .ok (.getfield 28, 3) := by decide +kernel
theorem dX10_begin_25 : decode cX10_begin 25 = .ok (.aload_n 0, 1) := by decide +kernel
theorem dX10_begin_26 : decode cX10_begin 26 = .ok (.getfield 82, 3) := by decide +kernel
theorem dX10_begin_29 : decode cX10_begin 29 = .ok (.iconst 1, 1) := by decide +kernel
theorem dX10_begin_30 : decode cX10_begin 30 = .ok (.bastore, 1) := by decide +kernel
theorem dX10_begin_31 : decode cX10_begin 31 = .ok (.iconst 0, 1) := by decide +kernel
theorem dX10_begin_32 : decode cX10_begin 32 = .ok (.istore_n 2, 1) := by decide +kernel
theorem dX10_begin_33 : decode cX10_begin 33 = .ok (.iload_n 2, 1) := by decide +kernel
theorem dX10_begin_34 : decode cX10_begin 34 = .ok (.bipush 60, 2) := by decide +kernel
theorem dX10_begin_36 : decode cX10_begin 36 = .ok (.if_icmp .ge 34, 3) := by decide +kernel
theorem dX10_begin_39 : decode cX10_begin 39 = .ok (.aload_n 0, 1) := by decide +kernel
theorem dX10_begin_40 : decode cX10_begin 40 = .ok (.getfield 31, 3) := by decide +kernel
theorem dX10_begin_43 : decode cX10_begin 43 = .ok (.bipush 60, 2) := by decide +kernel
theorem dX10_begin_45 : decode cX10_begin 45 = .ok (.aload_n 0, 1) := by decide +kernel
theorem dX10_begin_46 : decode cX10_begin 46 = .ok (.getfield 82, 3) := by decide +kernel
theorem dX10_begin_49 : decode cX10_begin 49 = .ok (.imul, 1) := by decide +kernel
theorem dX10_begin_50 : decode cX10_begin 50 = .ok (.iload_n 2, 1) := by decide +kernel
theorem dX10_begin_51 : decode cX10_begin 51 = .ok (.iadd, 1) := by decide +kernel
theorem dX10_begin_52 : decode cX10_begin 52 = .ok (.aload_n 0, 1) := by decide +kernel
theorem dX10_begin_53 : decode cX10_begin 53 = .ok (.getfield 17, 3) := by decide +kernel
theorem dX10_begin_56 : decode cX10_begin 56 = .ok (.bipush 60, 2) := by decide +kernel
theorem dX10_begin_58 : decode cX10_begin 58 = .ok (.iload_n 1, 1) := by decide +kernel
theorem dX10_begin_59 : decode cX10_begin 59 = .ok (.imul, 1) := by decide +kernel
theorem dX10_begin_60 : decode cX10_begin 60 = .ok (.iload_n 2, 1) := by decide +kernel
theorem dX10_begin_61 : decode cX10_begin 61 = .ok (.iadd, 1) := by decide +kernel
theorem dX10_begin_62 : decode cX10_begin 62 = .ok (.baload, 1) := by decide +kernel
theorem dX10_begin_63 : decode cX10_begin 63 = .ok (.bastore, 1) := by decide +kernel
theorem dX10_begin_64 : decode cX10_begin 64 = .ok (.iinc 2 1, 3) := by decide +kernel
theorem dX10_begin_67 : decode cX10_begin 67 = .ok (.goto (-34), 3) := by decide +kernel
theorem dX10_begin_70 : decode cX10_begin 70 = .ok (.iconst 0, 1) := by decide +kernel
theorem dX10_begin_71 : decode cX10_begin 71 = .ok (.istore_n 2, 1) := by decide +kernel
theorem dX10_begin_72 : decode cX10_begin 72 = .ok (.iload_n 2, 1) := by decide +kernel
theorem dX10_begin_73 : decode cX10_begin 73 = .ok (.sipush 360, 3) := by decide +kernel
theorem dX10_begin_76 : decode cX10_begin 76 = .ok (.if_icmp .ge 36, 3) := by decide +kernel
theorem dX10_begin_79 : decode cX10_begin 79 = .ok (.aload_n 0, 1) := by decide +kernel
theorem dX10_begin_80 : decode cX10_begin 80 = .ok (.getfield 34, 3) := by decide +kernel
theorem dX10_begin_83 : decode cX10_begin 83 = .ok (.sipush 360, 3) := by decide +kernel
theorem dX10_begin_86 : decode cX10_begin 86 = .ok (.aload_n 0, 1) := by decide +kernel
theorem dX10_begin_87 : decode cX10_begin 87 = .ok (.getfield 82, 3) := by decide +kernel
theorem dX10_begin_90 : decode cX10_begin 90 = .ok (.imul, 1) := by decide +kernel
theorem dX10_begin_91 : decode cX10_begin 91 = .ok (.iload_n 2, 1) := by decide +kernel
theorem dX10_begin_92 : decode cX10_begin 92 = .ok (.iadd, 1) := by decide +kernel
theorem dX10_begin_93 : decode cX10_begin 93 = .ok (.aload_n 0, 1) := by decide +kernel
theorem dX10_begin_94 : decode cX10_begin 94 = .ok (.getfield 21, 3) := by decide +kernel
theorem dX10_begin_97 : decode cX10_begin 97 = .ok (.sipush 360, 3) := by decide +kernel
theorem dX10_begin_100 : decode cX10_begin 100 = .ok (.iload_n 1, 1) := by decide +kernel
theorem dX10_begin_101 : decode cX10_begin 101 = .ok (.imul, 1) := by decide +kernel
theorem dX10_begin_102 : decode cX10_begin 102 = .ok (.iload_n 2, 1) := by decide +kernel
theorem dX10_begin_103 : decode cX10_begin 103 = .ok (.iadd, 1) := by decide +kernel
theorem dX10_begin_104 : decode cX10_begin 104 = .ok (.laload, 1) := by decide +kernel
theorem dX10_begin_105 : decode cX10_begin 105 = .ok (.lastore, 1) := by decide +kernel
theorem dX10_begin_106 : decode cX10_begin 106 = .ok (.iinc 2 1, 3) := by decide +kernel
theorem dX10_begin_109 : decode cX10_begin 109 = .ok (.goto (-37), 3) := by decide +kernel
theorem dX10_begin_112 : decode cX10_begin 112 = .ok (.aload_n 0, 1) := by decide +kernel
theorem dX10_begin_113 : decode cX10_begin 113 = .ok (.dup, 1) := by decide +kernel
theorem dX10_begin_114 : decode cX10_begin 114 = .ok (.getfield 82, 3) := by decide +kernel
theorem dX10_begin_117 : decode cX10_begin 117 = .ok (.iconst 1, 1) := by decide +kernel
theorem dX10_begin_118 : decode cX10_begin 118 = .ok (.iadd, 1) := by decide +kernel
theorem dX10_begin_119 : decode cX10_begin 119 = .ok (.putfield 82, 3) := by decide +kernel
theorem dX10_begin_122 : decode cX10_begin 122 = .ok (.aload_n 0, 1) := by decide +kernel
theorem dX10_begin_123 : decode cX10_begin 123 = .ok (.getfield 82, 3) := by decide +kernel
theorem dX10_begin_126 : decode cX10_begin 126 = .ok (.iconst 1, 1) := by decide +kernel
theorem dX10_begin_127 : decode cX10_begin 127 = .ok (.isub, 1) := by decide +kernel
theorem dX10_begin_128 : decode cX10_begin 128 = .ok (.ireturn, 1) := by decide +kernel
theorem dX10_session_0 : decode cX10_session 0 = .ok (.aload_n 0, 1) := by decide +kernel
theorem dX10_session_1 : decode cX10_session 1 = .ok (.iconst 0, 1) := by decide +kernel
theorem dX10_session_2 : decode cX10_session 2 = .ok (.putfield 76, 3) := by decide +kernel
theorem dX10_session_5 : decode cX10_session 5 = .ok (.aload_n 0, 1) := by decide +kernel
theorem dX10_session_6 : decode cX10_session 6 = .ok (.aload_n 0, 1) := by decide +kernel
theorem dX10_session_7 : decode cX10_session 7 = .ok (.invokevirtual 92, 3) := by decide +kernel
theorem dX10_session_10 : decode cX10_session 10 = .ok (.invokevirtual 96, 3) := by decide +kernel
theorem dX10_session_13 : decode cX10_session 13 = .ok (.ireturn, 1) := by decide +kernel
theorem dX10_branch_0 : decode cX10_branch 0 = .ok (.aload_n 0, 1) := by decide +kernel
theorem dX10_branch_1 : decode cX10_branch 1 = .ok (.iload_n 1, 1) := by decide +kernel
theorem dX10_branch_2 : decode cX10_branch 2 = .ok (.ifCond .lt 15, 3) := by decide +kernel
theorem dX10_branch_5 : decode cX10_branch 5 = .ok (.iload_n 1, 1) := by decide +kernel
theorem dX10_branch_6 : decode cX10_branch 6 = .ok (.aload_n 0, 1) := by decide +kernel
theorem dX10_branch_7 : decode cX10_branch 7 = .ok (.getfield 13, 3) := by decide +kernel
theorem dX10_branch_10 : decode cX10_branch 10 = .ok (.if_icmp .ge 7, 3) := by decide +kernel
theorem dX10_branch_13 : decode cX10_branch 13 = .ok (.iconst 0, 1) := by decide +kernel
theorem dX10_branch_14 : decode cX10_branch 14 = .ok (.goto 4, 3) := by decide +kernel
theorem dX10_branch_17 : decode cX10_branch 17 = .ok (.iconst 1, 1) := by decide +kernel
theorem dX10_branch_18 : decode cX10_branch 18 = .ok (.putfield 76, 3) := by decide +kernel
theorem dX10_branch_21 : decode cX10_branch 21 = .ok (.aload_n 0, 1) := by decide +kernel
theorem dX10_branch_22 : decode cX10_branch 22 = .ok (.getfield 76, 3) := by decide +kernel
theorem dX10_branch_25 : decode cX10_branch 25 = .ok (.ifCond .ne 11, 3) := by decide +kernel
theorem dX10_branch_28 : decode cX10_branch 28 = .ok (.aload_n 0, 1) := by decide +kernel
theorem dX10_branch_29 : decode cX10_branch 29 = .ok (.iload_n 1, 1) := by decide +kernel
theorem dX10_branch_30 : decode cX10_branch 30 = .ok (.invokevirtual 96, 3) := by decide +kernel
theorem dX10_branch_33 : decode cX10_branch 33 = .ok (.goto 4, 3) := by decide +kernel
theorem dX10_branch_36 : decode cX10_branch 36 = .ok (.iconst 0, 1) := by decide +kernel
theorem dX10_branch_37 : decode cX10_branch 37 = .ok (.ireturn, 1) := by decide +kernel
theorem dX10_isBarred_0 : decode cX10_isBarred 0 = .ok (.aload_n 0, 1) := by decide +kernel
theorem dX10_isBarred_1 : decode cX10_isBarred 1 = .ok (.getfield 34, 3) := by decide +kernel
theorem dX10_isBarred_4 : decode cX10_isBarred 4 = .ok (.sipush 360, 3) := by decide +kernel
theorem dX10_isBarred_7 : decode cX10_isBarred 7 = .ok (.iload_n 1, 1) := by decide +kernel
theorem dX10_isBarred_8 : decode cX10_isBarred 8 = .ok (.imul, 1) := by decide +kernel
theorem dX10_isBarred_9 : decode cX10_isBarred 9 = .ok (.bipush 6, 2) := by decide +kernel
theorem dX10_isBarred_11 : decode cX10_isBarred 11 = .ok (.iload_n 2, 1) := by decide +kernel
theorem dX10_isBarred_12 : decode cX10_isBarred 12 = .ok (.imul, 1) := by decide +kernel
theorem dX10_isBarred_13 : decode cX10_isBarred 13 = .ok (.iadd, 1) := by decide +kernel
theorem dX10_isBarred_14 : decode cX10_isBarred 14 = .ok (.laload, 1) := by decide +kernel
theorem dX10_isBarred_15 : decode cX10_isBarred 15 = .ok (.lstore_n 3, 1) := by decide +kernel
theorem dX10_isBarred_16 : decode cX10_isBarred 16 = .ok (.aload_n 0, 1) := by decide +kernel
theorem dX10_isBarred_17 : decode cX10_isBarred 17 = .ok (.getfield 34, 3) := by decide +kernel
theorem dX10_isBarred_20 : decode cX10_isBarred 20 = .ok (.sipush 360, 3) := by decide +kernel
theorem dX10_isBarred_23 : decode cX10_isBarred 23 = .ok (.iload_n 1, 1) := by decide +kernel
theorem dX10_isBarred_24 : decode cX10_isBarred 24 = .ok (.imul, 1) := by decide +kernel
theorem dX10_isBarred_25 : decode cX10_isBarred 25 = .ok (.bipush 6, 2) := by decide +kernel
theorem dX10_isBarred_27 : decode cX10_isBarred 27 = .ok (.iload_n 2, 1) := by decide +kernel
theorem dX10_isBarred_28 : decode cX10_isBarred 28 = .ok (.imul, 1) := by decide +kernel
theorem dX10_isBarred_29 : decode cX10_isBarred 29 = .ok (.iadd, 1) := by decide +kernel
theorem dX10_isBarred_30 : decode cX10_isBarred 30 = .ok (.iconst 1, 1) := by decide +kernel
theorem dX10_isBarred_31 : decode cX10_isBarred 31 = .ok (.iadd, 1) := by decide +kernel
theorem dX10_isBarred_32 : decode cX10_isBarred 32 = .ok (.laload, 1) := by decide +kernel
theorem dX10_isBarred_33 : decode cX10_isBarred 33 = .ok (.lstore 5, 2) := by decide +kernel
theorem dX10_isBarred_35 : decode cX10_isBarred 35 = .ok (.iconst 0, 1) := by decide +kernel
theorem dX10_isBarred_36 : decode cX10_isBarred 36 = .ok (.istore 7, 2) := by decide +kernel
theorem dX10_isBarred_38 : decode cX10_isBarred 38 = .ok (.iload 7, 2) := by decide +kernel
theorem dX10_isBarred_40 : decode cX10_isBarred 40 = .ok (.aload_n 0, 1) := by decide +kernel
theorem dX10_isBarred_41 : decode cX10_isBarred 41 = .ok (.getfield 100, 3) := by decide +kernel
theorem dX10_isBarred_44 : decode cX10_isBarred 44 = .ok (.if_icmp .ge 98, 3) := by decide +kernel
theorem dX10_isBarred_47 : decode cX10_isBarred 47 = .ok (.lload_n 3, 1) := by decide +kernel
theorem dX10_isBarred_48 : decode cX10_isBarred 48 = .ok (.aload_n 0, 1) := by decide +kernel
theorem dX10_isBarred_49 : decode cX10_isBarred 49 = .ok (.getfield 61, 3) := by decide +kernel
theorem dX10_isBarred_52 : decode cX10_isBarred 52 = .ok (.iconst 4, 1) := by decide +kernel
theorem dX10_isBarred_53 : decode cX10_isBarred 53 = .ok (.iload 7, 2) := by decide +kernel
theorem dX10_isBarred_55 : decode cX10_isBarred 55 = .ok (.imul, 1) := by decide +kernel
theorem dX10_isBarred_56 : decode cX10_isBarred 56 = .ok (.laload, 1) := by decide +kernel
theorem dX10_isBarred_57 : decode cX10_isBarred 57 = .ok (.lcmp, 1) := by decide +kernel
theorem dX10_isBarred_58 : decode cX10_isBarred 58 = .ok (.ifCond .lt 57, 3) := by decide +kernel
theorem dX10_isBarred_61 : decode cX10_isBarred 61 = .ok (.lload_n 3, 1) := by decide +kernel
theorem dX10_isBarred_62 : decode cX10_isBarred 62 = .ok (.aload_n 0, 1) := by decide +kernel
theorem dX10_isBarred_63 : decode cX10_isBarred 63 = .ok (.getfield 61, 3) := by decide +kernel
theorem dX10_isBarred_66 : decode cX10_isBarred 66 = .ok (.iconst 4, 1) := by decide +kernel
theorem dX10_isBarred_67 : decode cX10_isBarred 67 = .ok (.iload 7, 2) := by decide +kernel
theorem dX10_isBarred_69 : decode cX10_isBarred 69 = .ok (.imul, 1) := by decide +kernel
theorem dX10_isBarred_70 : decode cX10_isBarred 70 = .ok (.iconst 2, 1) := by decide +kernel
theorem dX10_isBarred_71 : decode cX10_isBarred 71 = .ok (.iadd, 1) := by decide +kernel
theorem dX10_isBarred_72 : decode cX10_isBarred 72 = .ok (.laload, 1) := by decide +kernel
theorem dX10_isBarred_73 : decode cX10_isBarred 73 = .ok (.lcmp, 1) := by decide +kernel
theorem dX10_isBarred_74 : decode cX10_isBarred 74 = .ok (.ifCond .gt 41, 3) := by decide +kernel
theorem dX10_isBarred_77 : decode cX10_isBarred 77 = .ok (.lload 5, 2) := by decide +kernel
theorem dX10_isBarred_79 : decode cX10_isBarred 79 = .ok (.aload_n 0, 1) := by decide +kernel
theorem dX10_isBarred_80 : decode cX10_isBarred 80 = .ok (.getfield 61, 3) := by decide +kernel
theorem dX10_isBarred_83 : decode cX10_isBarred 83 = .ok (.iconst 4, 1) := by decide +kernel
theorem dX10_isBarred_84 : decode cX10_isBarred 84 = .ok (.iload 7, 2) := by decide +kernel
theorem dX10_isBarred_86 : decode cX10_isBarred 86 = .ok (.imul, 1) := by decide +kernel
theorem dX10_isBarred_87 : decode cX10_isBarred 87 = .ok (.iconst 1, 1) := by decide +kernel
theorem dX10_isBarred_88 : decode cX10_isBarred 88 = .ok (.iadd, 1) := by decide +kernel
theorem dX10_isBarred_89 : decode cX10_isBarred 89 = .ok (.laload, 1) := by decide +kernel
theorem dX10_isBarred_90 : decode cX10_isBarred 90 = .ok (.lcmp, 1) := by decide +kernel
theorem dX10_isBarred_91 : decode cX10_isBarred 91 = .ok (.ifCond .lt 24, 3) := by decide +kernel
theorem dX10_isBarred_94 : decode cX10_isBarred 94 = .ok (.lload 5, 2) := by decide +kernel
theorem dX10_isBarred_96 : decode cX10_isBarred 96 = .ok (.aload_n 0, 1) := by decide +kernel
theorem dX10_isBarred_97 : decode cX10_isBarred 97 = .ok (.getfield 61, 3) := by decide +kernel
theorem dX10_isBarred_100 : decode cX10_isBarred 100 = .ok (.iconst 4, 1) := by decide +kernel
theorem dX10_isBarred_101 : decode cX10_isBarred 101 = .ok (.iload 7, 2) := by decide +kernel
theorem dX10_isBarred_103 : decode cX10_isBarred 103 = .ok (.imul, 1) := by decide +kernel
theorem dX10_isBarred_104 : decode cX10_isBarred 104 = .ok (.iconst 3, 1) := by decide +kernel
theorem dX10_isBarred_105 : decode cX10_isBarred 105 = .ok (.iadd, 1) := by decide +kernel
theorem dX10_isBarred_106 : decode cX10_isBarred 106 = .ok (.laload, 1) := by decide +kernel
theorem dX10_isBarred_107 : decode cX10_isBarred 107 = .ok (.lcmp, 1) := by decide +kernel
theorem dX10_isBarred_108 : decode cX10_isBarred 108 = .ok (.ifCond .gt 7, 3) := by decide +kernel
theorem dX10_isBarred_111 : decode cX10_isBarred 111 = .ok (.iconst 1, 1) := by decide +kernel
theorem dX10_isBarred_112 : decode cX10_isBarred 112 = .ok (.goto 4, 3) := by decide +kernel
theorem dX10_isBarred_115 : decode cX10_isBarred 115 = .ok (.iconst 0, 1) := by decide +kernel
theorem dX10_isBarred_116 : decode cX10_isBarred 116 = .ok (.istore 8, 2) := by decide +kernel
theorem dX10_isBarred_118 : decode cX10_isBarred 118 = .ok (.aload_n 0, 1) := by decide +kernel
theorem dX10_isBarred_119 : decode cX10_isBarred 119 = .ok (.getfield 58, 3) := by decide +kernel
theorem dX10_isBarred_122 : decode cX10_isBarred 122 = .ok (.iload 7, 2) := by decide +kernel
theorem dX10_isBarred_124 : decode cX10_isBarred 124 = .ok (.iaload, 1) := by decide +kernel
theorem dX10_isBarred_125 : decode cX10_isBarred 125 = .ok (.iload_n 1, 1) := by decide +kernel
theorem dX10_isBarred_126 : decode cX10_isBarred 126 = .ok (.if_icmp .eq 10, 3) := by decide +kernel
theorem dX10_isBarred_129 : decode cX10_isBarred 129 = .ok (.iload 8, 2) := by decide +kernel
theorem dX10_isBarred_131 : decode cX10_isBarred 131 = .ok (.ifCond .eq 5, 3) := by decide +kernel
theorem dX10_isBarred_134 : decode cX10_isBarred 134 = .ok (.iconst 1, 1) := by decide +kernel
theorem dX10_isBarred_135 : decode cX10_isBarred 135 = .ok (.ireturn, 1) := by decide +kernel
theorem dX10_isBarred_136 : decode cX10_isBarred 136 = .ok (.iinc 7 1, 3) := by decide +kernel
theorem dX10_isBarred_139 : decode cX10_isBarred 139 = .ok (.goto (-101), 3) := by decide +kernel
theorem dX10_isBarred_142 : decode cX10_isBarred 142 = .ok (.iconst 0, 1) := by decide +kernel
theorem dX10_isBarred_143 : decode cX10_isBarred 143 = .ok (.ireturn, 1) := by decide +kernel
theorem dX10_note_0 : decode cX10_note 0 = .ok (.bipush 40, 2) := by decide +kernel
theorem dX10_note_2 : decode cX10_note 2 = .ok (.iload_n 1, 1) := by decide +kernel
theorem dX10_note_3 : decode cX10_note 3 = .ok (.imul, 1) := by decide +kernel
theorem dX10_note_4 : decode cX10_note 4 = .ok (.istore 4, 2) := by decide +kernel
theorem dX10_note_6 : decode cX10_note 6 = .ok (.aload_n 0, 1) := by decide +kernel
theorem dX10_note_7 : decode cX10_note 7 = .ok (.getfield 37, 3) := by decide +kernel
theorem dX10_note_10 : decode cX10_note 10 = .ok (.iload_n 1, 1) := by decide +kernel
theorem dX10_note_11 : decode cX10_note 11 = .ok (.iaload, 1) := by decide +kernel
theorem dX10_note_12 : decode cX10_note 12 = .ok (.bipush 40, 2) := by decide +kernel
theorem dX10_note_14 : decode cX10_note 14 = .ok (.if_icmp .ne 99, 3) := by decide +kernel
theorem dX10_note_17 : decode cX10_note 17 = .ok (.iload 4, 2) := by decide +kernel
theorem dX10_note_19 : decode cX10_note 19 = .ok (.iconst 1, 1) := by decide +kernel
theorem dX10_note_20 : decode cX10_note 20 = .ok (.iadd, 1) := by decide +kernel
theorem dX10_note_21 : decode cX10_note 21 = .ok (.istore 5, 2) := by decide +kernel
theorem dX10_note_23 : decode cX10_note 23 = .ok (.iload 5, 2) := by decide +kernel
theorem dX10_note_25 : decode cX10_note 25 = .ok (.iload 4, 2) := by decide +kernel
theorem dX10_note_27 : decode cX10_note 27 = .ok (.bipush 40, 2) := by decide +kernel
theorem dX10_note_29 : decode cX10_note 29 = .ok (.iadd, 1) := by decide +kernel
theorem dX10_note_30 : decode cX10_note 30 = .ok (.if_icmp .ge 73, 3) := by decide +kernel
theorem dX10_note_33 : decode cX10_note 33 = .ok (.aload_n 0, 1) := by decide +kernel
theorem dX10_note_34 : decode cX10_note 34 = .ok (.getfield 40, 3) := by decide +kernel
theorem dX10_note_37 : decode cX10_note 37 = .ok (.iload 5, 2) := by decide +kernel
theorem dX10_note_39 : decode cX10_note 39 = .ok (.iconst 1, 1) := by decide +kernel
theorem dX10_note_40 : decode cX10_note 40 = .ok (.isub, 1) := by decide +kernel
theorem dX10_note_41 : decode cX10_note 41 = .ok (.aload_n 0, 1) := by decide +kernel
theorem dX10_note_42 : decode cX10_note 42 = .ok (.getfield 40, 3) := by decide +kernel
theorem dX10_note_45 : decode cX10_note 45 = .ok (.iload 5, 2) := by decide +kernel
theorem dX10_note_47 : decode cX10_note 47 = .ok (.iaload, 1) := by decide +kernel
theorem dX10_note_48 : decode cX10_note 48 = .ok (.iastore, 1) := by decide +kernel
theorem dX10_note_49 : decode cX10_note 49 = .ok (.aload_n 0, 1) := by decide +kernel
theorem dX10_note_50 : decode cX10_note 50 = .ok (.getfield 43, 3) := by decide +kernel
theorem dX10_note_53 : decode cX10_note 53 = .ok (.iload 5, 2) := by decide +kernel
theorem dX10_note_55 : decode cX10_note 55 = .ok (.iconst 1, 1) := by decide +kernel
theorem dX10_note_56 : decode cX10_note 56 = .ok (.isub, 1) := by decide +kernel
theorem dX10_note_57 : decode cX10_note 57 = .ok (.aload_n 0, 1) := by decide +kernel
theorem dX10_note_58 : decode cX10_note 58 = .ok (.getfield 43, 3) := by decide +kernel
theorem dX10_note_61 : decode cX10_note 61 = .ok (.iload 5, 2) := by decide +kernel
theorem dX10_note_63 : decode cX10_note 63 = .ok (.iaload, 1) := by decide +kernel
theorem dX10_note_64 : decode cX10_note 64 = .ok (.iastore, 1) := by decide +kernel
theorem dX10_note_65 : decode cX10_note 65 = .ok (.aload_n 0, 1) := by decide +kernel
theorem dX10_note_66 : decode cX10_note 66 = .ok (.getfield 46, 3) := by decide +kernel
theorem dX10_note_69 : decode cX10_note 69 = .ok (.iload 5, 2) := by decide +kernel
theorem dX10_note_71 : decode cX10_note 71 = .ok (.iconst 1, 1) := by decide +kernel
theorem dX10_note_72 : decode cX10_note 72 = .ok (.isub, 1) := by decide +kernel
theorem dX10_note_73 : decode cX10_note 73 = .ok (.aload_n 0, 1) := by decide +kernel
theorem dX10_note_74 : decode cX10_note 74 = .ok (.getfield 46, 3) := by decide +kernel
theorem dX10_note_77 : decode cX10_note 77 = .ok (.iload 5, 2) := by decide +kernel
theorem dX10_note_79 : decode cX10_note 79 = .ok (.baload, 1) := by decide +kernel
theorem dX10_note_80 : decode cX10_note 80 = .ok (.bastore, 1) := by decide +kernel
theorem dX10_note_81 : decode cX10_note 81 = .ok (.aload_n 0, 1) := by decide +kernel
theorem dX10_note_82 : decode cX10_note 82 = .ok (.getfield 49, 3) := by decide +kernel
theorem dX10_note_85 : decode cX10_note 85 = .ok (.iload 5, 2) := by decide +kernel
theorem dX10_note_87 : decode cX10_note 87 = .ok (.iconst 1, 1) := by decide +kernel
theorem dX10_note_88 : decode cX10_note 88 = .ok (.isub, 1) := by decide +kernel
theorem dX10_note_89 : decode cX10_note 89 = .ok (.aload_n 0, 1) := by decide +kernel
theorem dX10_note_90 : decode cX10_note 90 = .ok (.getfield 49, 3) := by decide +kernel
theorem dX10_note_93 : decode cX10_note 93 = .ok (.iload 5, 2) := by decide +kernel
theorem dX10_note_95 : decode cX10_note 95 = .ok (.laload, 1) := by decide +kernel
theorem dX10_note_96 : decode cX10_note 96 = .ok (.lastore, 1) := by decide +kernel
theorem dX10_note_97 : decode cX10_note 97 = .ok (.iinc 5 1, 3) := by decide +kernel
theorem dX10_note_100 : decode cX10_note 100 = .ok (.goto (-77), 3) := by decide +kernel
theorem dX10_note_103 : decode cX10_note 103 = .ok (.aload_n 0, 1) := by decide +kernel
theorem dX10_note_104 : decode cX10_note 104 = .ok (.getfield 37, 3) := by decide +kernel
theorem dX10_note_107 : decode cX10_note 107 = .ok (.iload_n 1, 1) := by decide +kernel
theorem dX10_note_108 : decode cX10_note 108 = .ok (.dup2, 1) := by decide +kernel
theorem dX10_note_109 : decode cX10_note 109 = .ok (.iaload, 1) := by decide +kernel
theorem dX10_note_110 : decode cX10_note 110 = .ok (.iconst 1, 1) := by decide +kernel
theorem dX10_note_111 : decode cX10_note 111 = .ok (.isub, 1) := by decide +kernel
theorem dX10_note_112 : decode cX10_note 112 = .ok (.iastore, 1) := by decide +kernel
theorem dX10_note_113 : decode cX10_note 113 = .ok (.iload 4, 2) := by decide +kernel
theorem dX10_note_115 : decode cX10_note 115 = .ok (.aload_n 0, 1) := by decide +kernel
theorem dX10_note_116 : decode cX10_note 116 = .ok (.getfield 37, 3) := by decide +kernel
theorem dX10_note_119 : decode cX10_note 119 = .ok (.iload_n 1, 1) := by decide +kernel
theorem dX10_note_120 : decode cX10_note 120 = .ok (.iaload, 1) := by decide +kernel
theorem dX10_note_121 : decode cX10_note 121 = .ok (.iadd, 1) := by decide +kernel
theorem dX10_note_122 : decode cX10_note 122 = .ok (.istore 5, 2) := by decide +kernel
theorem dX10_note_124 : decode cX10_note 124 = .ok (.aload_n 0, 1) := by decide +kernel
theorem dX10_note_125 : decode cX10_note 125 = .ok (.getfield 40, 3) := by decide +kernel
theorem dX10_note_128 : decode cX10_note 128 = .ok (.iload 5, 2) := by decide +kernel
theorem dX10_note_130 : decode cX10_note 130 = .ok (.iload_n 2, 1) := by decide +kernel
theorem dX10_note_131 : decode cX10_note 131 = .ok (.iastore, 1) := by decide +kernel
theorem dX10_note_132 : decode cX10_note 132 = .ok (.aload_n 0, 1) := by decide +kernel
theorem dX10_note_133 : decode cX10_note 133 = .ok (.getfield 43, 3) := by decide +kernel
theorem dX10_note_136 : decode cX10_note 136 = .ok (.iload 5, 2) := by decide +kernel
theorem dX10_note_138 : decode cX10_note 138 = .ok (.iload_n 3, 1) := by decide +kernel
theorem dX10_note_139 : decode cX10_note 139 = .ok (.iastore, 1) := by decide +kernel
theorem dX10_note_140 : decode cX10_note 140 = .ok (.aload_n 0, 1) := by decide +kernel
theorem dX10_note_141 : decode cX10_note 141 = .ok (.getfield 46, 3) := by decide +kernel
theorem dX10_note_144 : decode cX10_note 144 = .ok (.iload 5, 2) := by decide +kernel
theorem dX10_note_146 : decode cX10_note 146 = .ok (.aload_n 0, 1) := by decide +kernel
theorem dX10_note_147 : decode cX10_note 147 = .ok (.getfield 31, 3) := by decide +kernel
theorem dX10_note_150 : decode cX10_note 150 = .ok (.bipush 60, 2) := by decide +kernel
theorem dX10_note_152 : decode cX10_note 152 = .ok (.iload_n 1, 1) := by decide +kernel
theorem dX10_note_153 : decode cX10_note 153 = .ok (.imul, 1) := by decide +kernel
theorem dX10_note_154 : decode cX10_note 154 = .ok (.iload_n 2, 1) := by decide +kernel
theorem dX10_note_155 : decode cX10_note 155 = .ok (.iadd, 1) := by decide +kernel
theorem dX10_note_156 : decode cX10_note 156 = .ok (.baload, 1) := by decide +kernel
theorem dX10_note_157 : decode cX10_note 157 = .ok (.bastore, 1) := by decide +kernel
theorem dX10_note_158 : decode cX10_note 158 = .ok (.aload_n 0, 1) := by decide +kernel
theorem dX10_note_159 : decode cX10_note 159 = .ok (.getfield 49, 3) := by decide +kernel
theorem dX10_note_162 : decode cX10_note 162 = .ok (.iload 5, 2) := by decide +kernel
theorem dX10_note_164 : decode cX10_note 164 = .ok (.iload_n 3, 1) := by decide +kernel
theorem dX10_note_165 : decode cX10_note 165 = .ok (.bipush 6, 2) := by decide +kernel
theorem dX10_note_167 : decode cX10_note 167 = .ok (.if_icmp .ne 7, 3) := by decide +kernel
theorem dX10_note_170 : decode cX10_note 170 = .ok (.lconst 0, 1) := by decide +kernel
theorem dX10_note_171 : decode cX10_note 171 = .ok (.goto 20, 3) := by decide +kernel
theorem dX10_note_174 : decode cX10_note 174 = .ok (.aload_n 0, 1) := by decide +kernel
theorem dX10_note_175 : decode cX10_note 175 = .ok (.getfield 34, 3) := by decide +kernel
theorem dX10_note_178 : decode cX10_note 178 = .ok (.sipush 360, 3) := by decide +kernel
theorem dX10_note_181 : decode cX10_note 181 = .ok (.iload_n 1, 1) := by decide +kernel
theorem dX10_note_182 : decode cX10_note 182 = .ok (.imul, 1) := by decide +kernel
theorem dX10_note_183 : decode cX10_note 183 = .ok (.bipush 6, 2) := by decide +kernel
theorem dX10_note_185 : decode cX10_note 185 = .ok (.iload_n 2, 1) := by decide +kernel
theorem dX10_note_186 : decode cX10_note 186 = .ok (.imul, 1) := by decide +kernel
theorem dX10_note_187 : decode cX10_note 187 = .ok (.iadd, 1) := by decide +kernel
theorem dX10_note_188 : decode cX10_note 188 = .ok (.iload_n 3, 1) := by decide +kernel
theorem dX10_note_189 : decode cX10_note 189 = .ok (.iadd, 1) := by decide +kernel
theorem dX10_note_190 : decode cX10_note 190 = .ok (.laload, 1) := by decide +kernel
theorem dX10_note_191 : decode cX10_note 191 = .ok (.lastore, 1) := by decide +kernel
theorem dX10_note_192 : decode cX10_note 192 = .ok (.aload_n 0, 1) := by decide +kernel
theorem dX10_note_193 : decode cX10_note 193 = .ok (.getfield 37, 3) := by decide +kernel
theorem dX10_note_196 : decode cX10_note 196 = .ok (.iload_n 1, 1) := by decide +kernel
theorem dX10_note_197 : decode cX10_note 197 = .ok (.dup2, 1) := by decide +kernel
theorem dX10_note_198 : decode cX10_note 198 = .ok (.iaload, 1) := by decide +kernel
theorem dX10_note_199 : decode cX10_note 199 = .ok (.iconst 1, 1) := by decide +kernel
theorem dX10_note_200 : decode cX10_note 200 = .ok (.iadd, 1) := by decide +kernel
theorem dX10_note_201 : decode cX10_note 201 = .ok (.iastore, 1) := by decide +kernel
theorem dX10_note_202 : decode cX10_note 202 = .ok (.return_, 1) := by decide +kernel
theorem dX10_setsField_0 : decode cX10_setsField 0 = .ok (.sipush 360, 3) := by decide +kernel
theorem dX10_setsField_3 : decode cX10_setsField 3 = .ok (.iload_n 1, 1) := by decide +kernel
theorem dX10_setsField_4 : decode cX10_setsField 4 = .ok (.imul, 1) := by decide +kernel
theorem dX10_setsField_5 : decode cX10_setsField 5 = .ok (.bipush 6, 2) := by decide +kernel
theorem dX10_setsField_7 : decode cX10_setsField 7 = .ok (.iload_n 2, 1) := by decide +kernel
theorem dX10_setsField_8 : decode cX10_setsField 8 = .ok (.imul, 1) := by decide +kernel
theorem dX10_setsField_9 : decode cX10_setsField 9 = .ok (.iadd, 1) := by decide +kernel
theorem dX10_setsField_10 : decode cX10_setsField 10 = .ok (.iload_n 3, 1) := by decide +kernel
theorem dX10_setsField_11 : decode cX10_setsField 11 = .ok (.iadd, 1) := by decide +kernel
theorem dX10_setsField_12 : decode cX10_setsField 12 = .ok (.istore 6, 2) := by decide +kernel
theorem dX10_setsField_14 : decode cX10_setsField 14 = .ok (.aload_n 0, 1) := by decide +kernel
theorem dX10_setsField_15 : decode cX10_setsField 15 = .ok (.getfield 34, 3) := by decide +kernel
theorem dX10_setsField_18 : decode cX10_setsField 18 = .ok (.iload 6, 2) := by decide +kernel
theorem dX10_setsField_20 : decode cX10_setsField 20 = .ok (.laload, 1) := by decide +kernel
theorem dX10_setsField_21 : decode cX10_setsField 21 = .ok (.lload 4, 2) := by decide +kernel
theorem dX10_setsField_23 : decode cX10_setsField 23 = .ok (.lcmp, 1) := by decide +kernel
theorem dX10_setsField_24 : decode cX10_setsField 24 = .ok (.ifCond .eq 12, 3) := by decide +kernel
theorem dX10_setsField_27 : decode cX10_setsField 27 = .ok (.aload_n 0, 1) := by decide +kernel
theorem dX10_setsField_28 : decode cX10_setsField 28 = .ok (.iload_n 1, 1) := by decide +kernel
theorem dX10_setsField_29 : decode cX10_setsField 29 = .ok (.iload_n 2, 1) := by decide +kernel
theorem dX10_setsField_30 : decode cX10_setsField 30 = .ok (.invokevirtual 103, 3) := by decide +kernel
theorem dX10_setsField_33 : decode cX10_setsField 33 = .ok (.ifCond .eq 5, 3) := by decide +kernel
theorem dX10_setsField_36 : decode cX10_setsField 36 = .ok (.iconst 0, 1) := by decide +kernel
theorem dX10_setsField_37 : decode cX10_setsField 37 = .ok (.ireturn, 1) := by decide +kernel
theorem dX10_setsField_38 : decode cX10_setsField 38 = .ok (.aload_n 0, 1) := by decide +kernel
theorem dX10_setsField_39 : decode cX10_setsField 39 = .ok (.iload_n 1, 1) := by decide +kernel
theorem dX10_setsField_40 : decode cX10_setsField 40 = .ok (.iload_n 2, 1) := by decide +kernel
theorem dX10_setsField_41 : decode cX10_setsField 41 = .ok (.iload_n 3, 1) := by decide +kernel
theorem dX10_setsField_42 : decode cX10_setsField 42 = .ok (.invokevirtual 107, 3) := by decide +kernel
theorem dX10_setsField_45 : decode cX10_setsField 45 = .ok (.aload_n 0, 1) := by decide +kernel
theorem dX10_setsField_46 : decode cX10_setsField 46 = .ok (.getfield 34, 3) := by decide +kernel
theorem dX10_setsField_49 : decode cX10_setsField 49 = .ok (.iload 6, 2) := by decide +kernel
theorem dX10_setsField_51 : decode cX10_setsField 51 = .ok (.lload 4, 2) := by decide +kernel
theorem dX10_setsField_53 : decode cX10_setsField 53 = .ok (.lastore, 1) := by decide +kernel
theorem dX10_setsField_54 : decode cX10_setsField 54 = .ok (.iconst 1, 1) := by decide +kernel
theorem dX10_setsField_55 : decode cX10_setsField 55 = .ok (.ireturn, 1) := by decide +kernel
theorem dX10_set_0 : decode cX10_set 0 = .ok (.aload_n 0, 1) := by decide +kernel
theorem dX10_set_1 : decode cX10_set 1 = .ok (.iload_n 1, 1) := by decide +kernel
theorem dX10_set_2 : decode cX10_set 2 = .ok (.invokevirtual 111, 3) := by decide +kernel
theorem dX10_set_5 : decode cX10_set 5 = .ok (.ifCond .eq 22, 3) := by decide +kernel
theorem dX10_set_8 : decode cX10_set 8 = .ok (.aload_n 0, 1) := by decide +kernel
theorem dX10_set_9 : decode cX10_set 9 = .ok (.iload_n 2, 1) := by decide +kernel
theorem dX10_set_10 : decode cX10_set 10 = .ok (.invokevirtual 114, 3) := by decide +kernel
theorem dX10_set_13 : decode cX10_set 13 = .ok (.ifCond .eq 14, 3) := by decide +kernel
theorem dX10_set_16 : decode cX10_set 16 = .ok (.iload_n 3, 1) := by decide +kernel
theorem dX10_set_17 : decode cX10_set 17 = .ok (.invokestatic 117, 3) := by decide +kernel
theorem dX10_set_20 : decode cX10_set 20 = .ok (.ifCond .eq 7, 3) := by decide +kernel
theorem dX10_set_23 : decode cX10_set 23 = .ok (.iconst 1, 1) := by decide +kernel
theorem dX10_set_24 : decode cX10_set 24 = .ok (.goto 4, 3) := by decide +kernel
theorem dX10_set_27 : decode cX10_set 27 = .ok (.iconst 0, 1) := by decide +kernel
theorem dX10_set_28 : decode cX10_set 28 = .ok (.istore 6, 2) := by decide +kernel
theorem dX10_set_30 : decode cX10_set 30 = .ok (.aload_n 0, 1) := by decide +kernel
theorem dX10_set_31 : decode cX10_set 31 = .ok (.iload 6, 2) := by decide +kernel
theorem dX10_set_33 : decode cX10_set 33 = .ok (.ifCond .ne 7, 3) := by decide +kernel
theorem dX10_set_36 : decode cX10_set 36 = .ok (.iconst 1, 1) := by decide +kernel
theorem dX10_set_37 : decode cX10_set 37 = .ok (.goto 31, 3) := by decide +kernel
theorem dX10_set_40 : decode cX10_set 40 = .ok (.aload_n 0, 1) := by decide +kernel
theorem dX10_set_41 : decode cX10_set 41 = .ok (.getfield 28, 3) := by decide +kernel
theorem dX10_set_44 : decode cX10_set 44 = .ok (.iload_n 1, 1) := by decide +kernel
theorem dX10_set_45 : decode cX10_set 45 = .ok (.baload, 1) := by decide +kernel
theorem dX10_set_46 : decode cX10_set 46 = .ok (.ifCond .eq 21, 3) := by decide +kernel
theorem dX10_set_49 : decode cX10_set 49 = .ok (.aload_n 0, 1) := by decide +kernel
theorem dX10_set_50 : decode cX10_set 50 = .ok (.getfield 31, 3) := by decide +kernel
theorem dX10_set_53 : decode cX10_set 53 = .ok (.bipush 60, 2) := by decide +kernel
theorem dX10_set_55 : decode cX10_set 55 = .ok (.iload_n 1, 1) := by decide +kernel
theorem dX10_set_56 : decode cX10_set 56 = .ok (.imul, 1) := by decide +kernel
theorem dX10_set_57 : decode cX10_set 57 = .ok (.iload_n 2, 1) := by decide +kernel
theorem dX10_set_58 : decode cX10_set 58 = .ok (.iadd, 1) := by decide +kernel
theorem dX10_set_59 : decode cX10_set 59 = .ok (.baload, 1) := by decide +kernel
theorem dX10_set_60 : decode cX10_set 60 = .ok (.ifCond .eq 7, 3) := by decide +kernel
theorem dX10_set_63 : decode cX10_set 63 = .ok (.iconst 0, 1) := by decide +kernel
theorem dX10_set_64 : decode cX10_set 64 = .ok (.goto 4, 3) := by decide +kernel
theorem dX10_set_67 : decode cX10_set 67 = .ok (.iconst 2, 1) := by decide +kernel
theorem dX10_set_68 : decode cX10_set 68 = .ok (.putfield 76, 3) := by decide +kernel
theorem dX10_set_71 : decode cX10_set 71 = .ok (.aload_n 0, 1) := by decide +kernel
theorem dX10_set_72 : decode cX10_set 72 = .ok (.getfield 76, 3) := by decide +kernel
theorem dX10_set_75 : decode cX10_set 75 = .ok (.ifCond .ne 19, 3) := by decide +kernel
theorem dX10_set_78 : decode cX10_set 78 = .ok (.aload_n 0, 1) := by decide +kernel
theorem dX10_set_79 : decode cX10_set 79 = .ok (.iload_n 1, 1) := by decide +kernel
theorem dX10_set_80 : decode cX10_set 80 = .ok (.iload_n 2, 1) := by decide +kernel
theorem dX10_set_81 : decode cX10_set 81 = .ok (.iload_n 3, 1) := by decide +kernel
theorem dX10_set_82 : decode cX10_set 82 = .ok (.lload 4, 2) := by decide +kernel
theorem dX10_set_84 : decode cX10_set 84 = .ok (.invokevirtual 120, 3) := by decide +kernel
theorem dX10_set_87 : decode cX10_set 87 = .ok (.ifCond .eq 7, 3) := by decide +kernel
theorem dX10_set_90 : decode cX10_set 90 = .ok (.iconst 1, 1) := by decide +kernel
theorem dX10_set_91 : decode cX10_set 91 = .ok (.goto 4, 3) := by decide +kernel
theorem dX10_set_94 : decode cX10_set 94 = .ok (.iconst 0, 1) := by decide +kernel
theorem dX10_set_95 : decode cX10_set 95 = .ok (.ireturn, 1) := by decide +kernel
theorem dX10_drop_0 : decode cX10_drop 0 = .ok (.aload_n 0, 1) := by decide +kernel
theorem dX10_drop_1 : decode cX10_drop 1 = .ok (.iload_n 1, 1) := by decide +kernel
theorem dX10_drop_2 : decode cX10_drop 2 = .ok (.invokevirtual 111, 3) := by decide +kernel
theorem dX10_drop_5 : decode cX10_drop 5 = .ok (.ifCond .eq 15, 3) := by decide +kernel
theorem dX10_drop_8 : decode cX10_drop 8 = .ok (.aload_n 0, 1) := by decide +kernel
theorem dX10_drop_9 : decode cX10_drop 9 = .ok (.iload_n 2, 1) := by decide +kernel
theorem dX10_drop_10 : decode cX10_drop 10 = .ok (.invokevirtual 114, 3) := by decide +kernel
theorem dX10_drop_13 : decode cX10_drop 13 = .ok (.ifCond .eq 7, 3) := by decide +kernel
theorem dX10_drop_16 : decode cX10_drop 16 = .ok (.iconst 1, 1) := by decide +kernel
theorem dX10_drop_17 : decode cX10_drop 17 = .ok (.goto 4, 3) := by decide +kernel
theorem dX10_drop_20 : decode cX10_drop 20 = .ok (.iconst 0, 1) := by decide +kernel
theorem dX10_drop_21 : decode cX10_drop 21 = .ok (.istore_n 3, 1) := by decide +kernel
theorem dX10_drop_22 : decode cX10_drop 22 = .ok (.aload_n 0, 1) := by decide +kernel
theorem dX10_drop_23 : decode cX10_drop 23 = .ok (.iload_n 3, 1) := by decide +kernel
theorem dX10_drop_24 : decode cX10_drop 24 = .ok (.ifCond .ne 7, 3) := by decide +kernel
theorem dX10_drop_27 : decode cX10_drop 27 = .ok (.iconst 1, 1) := by decide +kernel
theorem dX10_drop_28 : decode cX10_drop 28 = .ok (.goto 31, 3) := by decide +kernel
theorem dX10_drop_31 : decode cX10_drop 31 = .ok (.aload_n 0, 1) := by decide +kernel
theorem dX10_drop_32 : decode cX10_drop 32 = .ok (.getfield 28, 3) := by decide +kernel
theorem dX10_drop_35 : decode cX10_drop 35 = .ok (.iload_n 1, 1) := by decide +kernel
theorem dX10_drop_36 : decode cX10_drop 36 = .ok (.baload, 1) := by decide +kernel
theorem dX10_drop_37 : decode cX10_drop 37 = .ok (.ifCond .eq 21, 3) := by decide +kernel
theorem dX10_drop_40 : decode cX10_drop 40 = .ok (.aload_n 0, 1) := by decide +kernel
theorem dX10_drop_41 : decode cX10_drop 41 = .ok (.getfield 31, 3) := by decide +kernel
theorem dX10_drop_44 : decode cX10_drop 44 = .ok (.bipush 60, 2) := by decide +kernel
theorem dX10_drop_46 : decode cX10_drop 46 = .ok (.iload_n 1, 1) := by decide +kernel
theorem dX10_drop_47 : decode cX10_drop 47 = .ok (.imul, 1) := by decide +kernel
theorem dX10_drop_48 : decode cX10_drop 48 = .ok (.iload_n 2, 1) := by decide +kernel
theorem dX10_drop_49 : decode cX10_drop 49 = .ok (.iadd, 1) := by decide +kernel
theorem dX10_drop_50 : decode cX10_drop 50 = .ok (.baload, 1) := by decide +kernel
theorem dX10_drop_51 : decode cX10_drop 51 = .ok (.ifCond .eq 7, 3) := by decide +kernel
theorem dX10_drop_54 : decode cX10_drop 54 = .ok (.iconst 0, 1) := by decide +kernel
theorem dX10_drop_55 : decode cX10_drop 55 = .ok (.goto 4, 3) := by decide +kernel
theorem dX10_drop_58 : decode cX10_drop 58 = .ok (.iconst 2, 1) := by decide +kernel
theorem dX10_drop_59 : decode cX10_drop 59 = .ok (.putfield 76, 3) := by decide +kernel
theorem dX10_drop_62 : decode cX10_drop 62 = .ok (.aload_n 0, 1) := by decide +kernel
theorem dX10_drop_63 : decode cX10_drop 63 = .ok (.getfield 76, 3) := by decide +kernel
theorem dX10_drop_66 : decode cX10_drop 66 = .ok (.ifCond .ne 12, 3) := by decide +kernel
theorem dX10_drop_69 : decode cX10_drop 69 = .ok (.aload_n 0, 1) := by decide +kernel
theorem dX10_drop_70 : decode cX10_drop 70 = .ok (.iload_n 1, 1) := by decide +kernel
theorem dX10_drop_71 : decode cX10_drop 71 = .ok (.iload_n 2, 1) := by decide +kernel
theorem dX10_drop_72 : decode cX10_drop 72 = .ok (.invokevirtual 103, 3) := by decide +kernel
theorem dX10_drop_75 : decode cX10_drop 75 = .ok (.ifCond .eq 5, 3) := by decide +kernel
theorem dX10_drop_78 : decode cX10_drop 78 = .ok (.iconst 0, 1) := by decide +kernel
theorem dX10_drop_79 : decode cX10_drop 79 = .ok (.ireturn, 1) := by decide +kernel
theorem dX10_drop_80 : decode cX10_drop 80 = .ok (.aload_n 0, 1) := by decide +kernel
theorem dX10_drop_81 : decode cX10_drop 81 = .ok (.iload_n 1, 1) := by decide +kernel
theorem dX10_drop_82 : decode cX10_drop 82 = .ok (.iload_n 2, 1) := by decide +kernel
theorem dX10_drop_83 : decode cX10_drop 83 = .ok (.bipush 6, 2) := by decide +kernel
theorem dX10_drop_85 : decode cX10_drop 85 = .ok (.invokevirtual 107, 3) := by decide +kernel
theorem dX10_drop_88 : decode cX10_drop 88 = .ok (.aload_n 0, 1) := by decide +kernel
theorem dX10_drop_89 : decode cX10_drop 89 = .ok (.getfield 31, 3) := by decide +kernel
theorem dX10_drop_92 : decode cX10_drop 92 = .ok (.bipush 60, 2) := by decide +kernel
theorem dX10_drop_94 : decode cX10_drop 94 = .ok (.iload_n 1, 1) := by decide +kernel
theorem dX10_drop_95 : decode cX10_drop 95 = .ok (.imul, 1) := by decide +kernel
theorem dX10_drop_96 : decode cX10_drop 96 = .ok (.iload_n 2, 1) := by decide +kernel
theorem dX10_drop_97 : decode cX10_drop 97 = .ok (.iadd, 1) := by decide +kernel
theorem dX10_drop_98 : decode cX10_drop 98 = .ok (.iconst 0, 1) := by decide +kernel
theorem dX10_drop_99 : decode cX10_drop 99 = .ok (.bastore, 1) := by decide +kernel
theorem dX10_drop_100 : decode cX10_drop 100 = .ok (.iconst 1, 1) := by decide +kernel
theorem dX10_drop_101 : decode cX10_drop 101 = .ok (.ireturn, 1) := by decide +kernel
theorem dX10_make_0 : decode cX10_make 0 = .ok (.aload_n 0, 1) := by decide +kernel
theorem dX10_make_1 : decode cX10_make 1 = .ok (.aload_n 0, 1) := by decide +kernel
theorem dX10_make_2 : decode cX10_make 2 = .ok (.iload_n 1, 1) := by decide +kernel
theorem dX10_make_3 : decode cX10_make 3 = .ok (.invokevirtual 111, 3) := by decide +kernel
theorem dX10_make_6 : decode cX10_make 6 = .ok (.ifCond .ne 7, 3) := by decide +kernel
theorem dX10_make_9 : decode cX10_make 9 = .ok (.iconst 1, 1) := by decide +kernel
theorem dX10_make_10 : decode cX10_make 10 = .ok (.goto 28, 3) := by decide +kernel
theorem dX10_make_13 : decode cX10_make 13 = .ok (.aload_n 0, 1) := by decide +kernel
theorem dX10_make_14 : decode cX10_make 14 = .ok (.getfield 28, 3) := by decide +kernel
theorem dX10_make_17 : decode cX10_make 17 = .ok (.iload_n 1, 1) := by decide +kernel
theorem dX10_make_18 : decode cX10_make 18 = .ok (.baload, 1) := by decide +kernel
theorem dX10_make_19 : decode cX10_make 19 = .ok (.ifCond .ne 7, 3) := by decide +kernel
theorem dX10_make_22 : decode cX10_make 22 = .ok (.iconst 2, 1) := by decide +kernel
theorem dX10_make_23 : decode cX10_make 23 = .ok (.goto 15, 3) := by decide +kernel
theorem dX10_make_26 : decode cX10_make 26 = .ok (.iload_n 2, 1) := by decide +kernel
theorem dX10_make_27 : decode cX10_make 27 = .ok (.invokestatic 85, 3) := by decide +kernel
theorem dX10_make_30 : decode cX10_make 30 = .ok (.ifCond .eq 7, 3) := by decide +kernel
theorem dX10_make_33 : decode cX10_make 33 = .ok (.iconst 0, 1) := by decide +kernel
theorem dX10_make_34 : decode cX10_make 34 = .ok (.goto 4, 3) := by decide +kernel
theorem dX10_make_37 : decode cX10_make 37 = .ok (.iconst 3, 1) := by decide +kernel
theorem dX10_make_38 : decode cX10_make 38 = .ok (.putfield 76, 3) := by decide +kernel
theorem dX10_make_41 : decode cX10_make 41 = .ok (.aload_n 0, 1) := by decide +kernel
theorem dX10_make_42 : decode cX10_make 42 = .ok (.getfield 76, 3) := by decide +kernel
theorem dX10_make_45 : decode cX10_make 45 = .ok (.ifCond .eq 5, 3) := by decide +kernel
theorem dX10_make_48 : decode cX10_make 48 = .ok (.iconst 0, 1) := by decide +kernel
theorem dX10_make_49 : decode cX10_make 49 = .ok (.ireturn, 1) := by decide +kernel
theorem dX10_make_50 : decode cX10_make 50 = .ok (.aload_n 0, 1) := by decide +kernel
theorem dX10_make_51 : decode cX10_make 51 = .ok (.getfield 79, 3) := by decide +kernel
theorem dX10_make_54 : decode cX10_make 54 = .ok (.bipush 60, 2) := by decide +kernel
theorem dX10_make_56 : decode cX10_make 56 = .ok (.if_icmp .ne 5, 3) := by decide +kernel
theorem dX10_make_59 : decode cX10_make 59 = .ok (.iconst (-1), 1) := by decide +kernel
theorem dX10_make_60 : decode cX10_make 60 = .ok (.ireturn, 1) := by decide +kernel
theorem dX10_make_61 : decode cX10_make 61 = .ok (.aload_n 0, 1) := by decide +kernel
theorem dX10_make_62 : decode cX10_make 62 = .ok (.getfield 7, 3) := by decide +kernel
theorem dX10_make_65 : decode cX10_make 65 = .ok (.aload_n 0, 1) := by decide +kernel
theorem dX10_make_66 : decode cX10_make 66 = .ok (.getfield 79, 3) := by decide +kernel
theorem dX10_make_69 : decode cX10_make 69 = .ok (.iload_n 2, 1) := by decide +kernel
theorem dX10_make_70 : decode cX10_make 70 = .ok (.iastore, 1) := by decide +kernel
theorem dX10_make_71 : decode cX10_make 71 = .ok (.aload_n 0, 1) := by decide +kernel
theorem dX10_make_72 : decode cX10_make 72 = .ok (.iload_n 1, 1) := by decide +kernel
theorem dX10_make_73 : decode cX10_make 73 = .ok (.aload_n 0, 1) := by decide +kernel
theorem dX10_make_74 : decode cX10_make 74 = .ok (.getfield 79, 3) := by decide +kernel
theorem dX10_make_77 : decode cX10_make 77 = .ok (.bipush 6, 2) := by decide +kernel
theorem dX10_make_79 : decode cX10_make 79 = .ok (.invokevirtual 107, 3) := by decide +kernel
theorem dX10_make_82 : decode cX10_make 82 = .ok (.aload_n 0, 1) := by decide +kernel
theorem dX10_make_83 : decode cX10_make 83 = .ok (.getfield 31, 3) := by decide +kernel
theorem dX10_make_86 : decode cX10_make 86 = .ok (.bipush 60, 2) := by decide +kernel
theorem dX10_make_88 : decode cX10_make 88 = .ok (.iload_n 1, 1) := by decide +kernel
theorem dX10_make_89 : decode cX10_make 89 = .ok (.imul, 1) := by decide +kernel
theorem dX10_make_90 : decode cX10_make 90 = .ok (.aload_n 0, 1) := by decide +kernel
theorem dX10_make_91 : decode cX10_make 91 = .ok (.getfield 79, 3) := by decide +kernel
theorem dX10_make_94 : decode cX10_make 94 = .ok (.iadd, 1) := by decide +kernel
theorem dX10_make_95 : decode cX10_make 95 = .ok (.iconst 1, 1) := by decide +kernel
theorem dX10_make_96 : decode cX10_make 96 = .ok (.bastore, 1) := by decide +kernel
theorem dX10_make_97 : decode cX10_make 97 = .ok (.aload_n 0, 1) := by decide +kernel
theorem dX10_make_98 : decode cX10_make 98 = .ok (.dup, 1) := by decide +kernel
theorem dX10_make_99 : decode cX10_make 99 = .ok (.getfield 79, 3) := by decide +kernel
theorem dX10_make_102 : decode cX10_make 102 = .ok (.iconst 1, 1) := by decide +kernel
theorem dX10_make_103 : decode cX10_make 103 = .ok (.iadd, 1) := by decide +kernel
theorem dX10_make_104 : decode cX10_make 104 = .ok (.putfield 79, 3) := by decide +kernel
theorem dX10_make_107 : decode cX10_make 107 = .ok (.aload_n 0, 1) := by decide +kernel
theorem dX10_make_108 : decode cX10_make 108 = .ok (.getfield 79, 3) := by decide +kernel
theorem dX10_make_111 : decode cX10_make 111 = .ok (.iconst 1, 1) := by decide +kernel
theorem dX10_make_112 : decode cX10_make 112 = .ok (.isub, 1) := by decide +kernel
theorem dX10_make_113 : decode cX10_make 113 = .ok (.ireturn, 1) := by decide +kernel
theorem dX10_undo_0 : decode cX10_undo 0 = .ok (.aload_n 0, 1) := by decide +kernel
theorem dX10_undo_1 : decode cX10_undo 1 = .ok (.aload_n 0, 1) := by decide +kernel
theorem dX10_undo_2 : decode cX10_undo 2 = .ok (.iload_n 1, 1) := by decide +kernel
theorem dX10_undo_3 : decode cX10_undo 3 = .ok (.invokevirtual 111, 3) := by decide +kernel
theorem dX10_undo_6 : decode cX10_undo 6 = .ok (.ifCond .ne 7, 3) := by decide +kernel
theorem dX10_undo_9 : decode cX10_undo 9 = .ok (.iconst 1, 1) := by decide +kernel
theorem dX10_undo_10 : decode cX10_undo 10 = .ok (.goto 17, 3) := by decide +kernel
theorem dX10_undo_13 : decode cX10_undo 13 = .ok (.aload_n 0, 1) := by decide +kernel
theorem dX10_undo_14 : decode cX10_undo 14 = .ok (.getfield 28, 3) := by decide +kernel
theorem dX10_undo_17 : decode cX10_undo 17 = .ok (.iload_n 1, 1) := by decide +kernel
theorem dX10_undo_18 : decode cX10_undo 18 = .ok (.baload, 1) := by decide +kernel
theorem dX10_undo_19 : decode cX10_undo 19 = .ok (.ifCond .eq 7, 3) := by decide +kernel
theorem dX10_undo_22 : decode cX10_undo 22 = .ok (.iconst 0, 1) := by decide +kernel
theorem dX10_undo_23 : decode cX10_undo 23 = .ok (.goto 4, 3) := by decide +kernel
theorem dX10_undo_26 : decode cX10_undo 26 = .ok (.iconst 2, 1) := by decide +kernel
theorem dX10_undo_27 : decode cX10_undo 27 = .ok (.putfield 76, 3) := by decide +kernel
theorem dX10_undo_30 : decode cX10_undo 30 = .ok (.aload_n 0, 1) := by decide +kernel
theorem dX10_undo_31 : decode cX10_undo 31 = .ok (.getfield 76, 3) := by decide +kernel
theorem dX10_undo_34 : decode cX10_undo 34 = .ok (.ifCond .ne 12, 3) := by decide +kernel
theorem dX10_undo_37 : decode cX10_undo 37 = .ok (.aload_n 0, 1) := by decide +kernel
theorem dX10_undo_38 : decode cX10_undo 38 = .ok (.getfield 37, 3) := by decide +kernel
theorem dX10_undo_41 : decode cX10_undo 41 = .ok (.iload_n 1, 1) := by decide +kernel
theorem dX10_undo_42 : decode cX10_undo 42 = .ok (.iaload, 1) := by decide +kernel
theorem dX10_undo_43 : decode cX10_undo 43 = .ok (.ifCond .ne 5, 3) := by decide +kernel
theorem dX10_undo_46 : decode cX10_undo 46 = .ok (.iconst 0, 1) := by decide +kernel
theorem dX10_undo_47 : decode cX10_undo 47 = .ok (.ireturn, 1) := by decide +kernel
theorem dX10_undo_48 : decode cX10_undo 48 = .ok (.aload_n 0, 1) := by decide +kernel
theorem dX10_undo_49 : decode cX10_undo 49 = .ok (.getfield 37, 3) := by decide +kernel
theorem dX10_undo_52 : decode cX10_undo 52 = .ok (.iload_n 1, 1) := by decide +kernel
theorem dX10_undo_53 : decode cX10_undo 53 = .ok (.dup2, 1) := by decide +kernel
theorem dX10_undo_54 : decode cX10_undo 54 = .ok (.iaload, 1) := by decide +kernel
theorem dX10_undo_55 : decode cX10_undo 55 = .ok (.iconst 1, 1) := by decide +kernel
theorem dX10_undo_56 : decode cX10_undo 56 = .ok (.isub, 1) := by decide +kernel
theorem dX10_undo_57 : decode cX10_undo 57 = .ok (.iastore, 1) := by decide +kernel
theorem dX10_undo_58 : decode cX10_undo 58 = .ok (.bipush 40, 2) := by decide +kernel
theorem dX10_undo_60 : decode cX10_undo 60 = .ok (.iload_n 1, 1) := by decide +kernel
theorem dX10_undo_61 : decode cX10_undo 61 = .ok (.imul, 1) := by decide +kernel
theorem dX10_undo_62 : decode cX10_undo 62 = .ok (.aload_n 0, 1) := by decide +kernel
theorem dX10_undo_63 : decode cX10_undo 63 = .ok (.getfield 37, 3) := by decide +kernel
theorem dX10_undo_66 : decode cX10_undo 66 = .ok (.iload_n 1, 1) := by decide +kernel
theorem dX10_undo_67 : decode cX10_undo 67 = .ok (.iaload, 1) := by decide +kernel
theorem dX10_undo_68 : decode cX10_undo 68 = .ok (.iadd, 1) := by decide +kernel
theorem dX10_undo_69 : decode cX10_undo 69 = .ok (.istore_n 2, 1) := by decide +kernel
theorem dX10_undo_70 : decode cX10_undo 70 = .ok (.aload_n 0, 1) := by decide +kernel
theorem dX10_undo_71 : decode cX10_undo 71 = .ok (.getfield 40, 3) := by decide +kernel
theorem dX10_undo_74 : decode cX10_undo 74 = .ok (.iload_n 2, 1) := by decide +kernel
theorem dX10_undo_75 : decode cX10_undo 75 = .ok (.iaload, 1) := by decide +kernel
theorem dX10_undo_76 : decode cX10_undo 76 = .ok (.istore_n 3, 1) := by decide +kernel
theorem dX10_undo_77 : decode cX10_undo 77 = .ok (.aload_n 0, 1) := by decide +kernel
theorem dX10_undo_78 : decode cX10_undo 78 = .ok (.getfield 43, 3) := by decide +kernel
theorem dX10_undo_81 : decode cX10_undo 81 = .ok (.iload_n 2, 1) := by decide +kernel
theorem dX10_undo_82 : decode cX10_undo 82 = .ok (.iaload, 1) := by decide +kernel
theorem dX10_undo_83 : decode cX10_undo 83 = .ok (.bipush 6, 2) := by decide +kernel
theorem dX10_undo_85 : decode cX10_undo 85 = .ok (.if_icmp .ne 23, 3) := by decide +kernel
theorem dX10_undo_88 : decode cX10_undo 88 = .ok (.aload_n 0, 1) := by decide +kernel
theorem dX10_undo_89 : decode cX10_undo 89 = .ok (.getfield 31, 3) := by decide +kernel
theorem dX10_undo_92 : decode cX10_undo 92 = .ok (.bipush 60, 2) := by decide +kernel
theorem dX10_undo_94 : decode cX10_undo 94 = .ok (.iload_n 1, 1) := by decide +kernel
theorem dX10_undo_95 : decode cX10_undo 95 = .ok (.imul, 1) := by decide +kernel
theorem dX10_undo_96 : decode cX10_undo 96 = .ok (.iload_n 3, 1) := by decide +kernel
theorem dX10_undo_97 : decode cX10_undo 97 = .ok (.iadd, 1) := by decide +kernel
theorem dX10_undo_98 : decode cX10_undo 98 = .ok (.aload_n 0, 1) := by decide +kernel
theorem dX10_undo_99 : decode cX10_undo 99 = .ok (.getfield 46, 3) := by decide +kernel
theorem dX10_undo_102 : decode cX10_undo 102 = .ok (.iload_n 2, 1) := by decide +kernel
theorem dX10_undo_103 : decode cX10_undo 103 = .ok (.baload, 1) := by decide +kernel
theorem dX10_undo_104 : decode cX10_undo 104 = .ok (.bastore, 1) := by decide +kernel
theorem dX10_undo_105 : decode cX10_undo 105 = .ok (.goto 31, 3) := by decide +kernel
theorem dX10_undo_108 : decode cX10_undo 108 = .ok (.aload_n 0, 1) := by decide +kernel
theorem dX10_undo_109 : decode cX10_undo 109 = .ok (.getfield 34, 3) := by decide +kernel
theorem dX10_undo_112 : decode cX10_undo 112 = .ok (.sipush 360, 3) := by decide +kernel
theorem dX10_undo_115 : decode cX10_undo 115 = .ok (.iload_n 1, 1) := by decide +kernel
theorem dX10_undo_116 : decode cX10_undo 116 = .ok (.imul, 1) := by decide +kernel
theorem dX10_undo_117 : decode cX10_undo 117 = .ok (.bipush 6, 2) := by decide +kernel
theorem dX10_undo_119 : decode cX10_undo 119 = .ok (.iload_n 3, 1) := by decide +kernel
theorem dX10_undo_120 : decode cX10_undo 120 = .ok (.imul, 1) := by decide +kernel
theorem dX10_undo_121 : decode cX10_undo 121 = .ok (.iadd, 1) := by decide +kernel
theorem dX10_undo_122 : decode cX10_undo 122 = .ok (.aload_n 0, 1) := by decide +kernel
theorem dX10_undo_123 : decode cX10_undo 123 = .ok (.getfield 43, 3) := by decide +kernel
theorem dX10_undo_126 : decode cX10_undo 126 = .ok (.iload_n 2, 1) := by decide +kernel
theorem dX10_undo_127 : decode cX10_undo 127 = .ok (.iaload, 1) := by decide +kernel
theorem dX10_undo_128 : decode cX10_undo 128 = .ok (.iadd, 1) := by decide +kernel
theorem dX10_undo_129 : decode cX10_undo 129 = .ok (.aload_n 0, 1) := by decide +kernel
theorem dX10_undo_130 : decode cX10_undo 130 = .ok (.getfield 49, 3) := by decide +kernel
theorem dX10_undo_133 : decode cX10_undo 133 = .ok (.iload_n 2, 1) := by decide +kernel
theorem dX10_undo_134 : decode cX10_undo 134 = .ok (.laload, 1) := by decide +kernel
theorem dX10_undo_135 : decode cX10_undo 135 = .ok (.lastore, 1) := by decide +kernel
theorem dX10_undo_136 : decode cX10_undo 136 = .ok (.iconst 1, 1) := by decide +kernel
theorem dX10_undo_137 : decode cX10_undo 137 = .ok (.ireturn, 1) := by decide +kernel
theorem dX10_headHas_0 : decode cX10_headHas 0 = .ok (.aload_n 0, 1) := by decide +kernel
theorem dX10_headHas_1 : decode cX10_headHas 1 = .ok (.getfield 17, 3) := by decide +kernel
theorem dX10_headHas_4 : decode cX10_headHas 4 = .ok (.bipush 60, 2) := by decide +kernel
theorem dX10_headHas_6 : decode cX10_headHas 6 = .ok (.aload_n 0, 1) := by decide +kernel
theorem dX10_headHas_7 : decode cX10_headHas 7 = .ok (.invokevirtual 92, 3) := by decide +kernel
theorem dX10_headHas_10 : decode cX10_headHas 10 = .ok (.imul, 1) := by decide +kernel
theorem dX10_headHas_11 : decode cX10_headHas 11 = .ok (.iload_n 1, 1) := by decide +kernel
theorem dX10_headHas_12 : decode cX10_headHas 12 = .ok (.iadd, 1) := by decide +kernel
theorem dX10_headHas_13 : decode cX10_headHas 13 = .ok (.baload, 1) := by decide +kernel
theorem dX10_headHas_14 : decode cX10_headHas 14 = .ok (.ireturn, 1) := by decide +kernel
theorem dX10_baseHas_0 : decode cX10_baseHas 0 = .ok (.aload_n 0, 1) := by decide +kernel
theorem dX10_baseHas_1 : decode cX10_baseHas 1 = .ok (.getfield 17, 3) := by decide +kernel
theorem dX10_baseHas_4 : decode cX10_baseHas 4 = .ok (.bipush 60, 2) := by decide +kernel
theorem dX10_baseHas_6 : decode cX10_baseHas 6 = .ok (.aload_n 0, 1) := by decide +kernel
theorem dX10_baseHas_7 : decode cX10_baseHas 7 = .ok (.getfield 25, 3) := by decide +kernel
theorem dX10_baseHas_10 : decode cX10_baseHas 10 = .ok (.iload_n 1, 1) := by decide +kernel
theorem dX10_baseHas_11 : decode cX10_baseHas 11 = .ok (.iaload, 1) := by decide +kernel
theorem dX10_baseHas_12 : decode cX10_baseHas 12 = .ok (.imul, 1) := by decide +kernel
theorem dX10_baseHas_13 : decode cX10_baseHas 13 = .ok (.iload_n 2, 1) := by decide +kernel
theorem dX10_baseHas_14 : decode cX10_baseHas 14 = .ok (.iadd, 1) := by decide +kernel
theorem dX10_baseHas_15 : decode cX10_baseHas 15 = .ok (.baload, 1) := by decide +kernel
theorem dX10_baseHas_16 : decode cX10_baseHas 16 = .ok (.ireturn, 1) := by decide +kernel
theorem dX10_headValue_0 : decode cX10_headValue 0 = .ok (.aload_n 0, 1) := by decide +kernel
theorem dX10_headValue_1 : decode cX10_headValue 1 = .ok (.getfield 21, 3) := by decide +kernel
theorem dX10_headValue_4 : decode cX10_headValue 4 = .ok (.sipush 360, 3) := by decide +kernel
theorem dX10_headValue_7 : decode cX10_headValue 7 = .ok (.aload_n 0, 1) := by decide +kernel
theorem dX10_headValue_8 : decode cX10_headValue 8 = .ok (.invokevirtual 92, 3) := by decide +kernel
theorem dX10_headValue_11 : decode cX10_headValue 11 = .ok (.imul, 1) := by decide +kernel
theorem dX10_headValue_12 : decode cX10_headValue 12 = .ok (.bipush 6, 2) := by decide +kernel
theorem dX10_headValue_14 : decode cX10_headValue 14 = .ok (.iload_n 1, 1) := by decide +kernel
theorem dX10_headValue_15 : decode cX10_headValue 15 = .ok (.imul, 1) := by decide +kernel
theorem dX10_headValue_16 : decode cX10_headValue 16 = .ok (.iadd, 1) := by decide +kernel
theorem dX10_headValue_17 : decode cX10_headValue 17 = .ok (.iload_n 2, 1) := by decide +kernel
theorem dX10_headValue_18 : decode cX10_headValue 18 = .ok (.iadd, 1) := by decide +kernel
theorem dX10_headValue_19 : decode cX10_headValue 19 = .ok (.laload, 1) := by decide +kernel
theorem dX10_headValue_20 : decode cX10_headValue 20 = .ok (.lreturn, 1) := by decide +kernel
theorem dX10_baseValue_0 : decode cX10_baseValue 0 = .ok (.aload_n 0, 1) := by decide +kernel
theorem dX10_baseValue_1 : decode cX10_baseValue 1 = .ok (.getfield 21, 3) := by decide +kernel
theorem dX10_baseValue_4 : decode cX10_baseValue 4 = .ok (.sipush 360, 3) := by decide +kernel
theorem dX10_baseValue_7 : decode cX10_baseValue 7 = .ok (.aload_n 0, 1) := by decide +kernel
theorem dX10_baseValue_8 : decode cX10_baseValue 8 = .ok (.getfield 25, 3) := by decide +kernel
theorem dX10_baseValue_11 : decode cX10_baseValue 11 = .ok (.iload_n 1, 1) := by decide +kernel
theorem dX10_baseValue_12 : decode cX10_baseValue 12 = .ok (.iaload, 1) := by decide +kernel
theorem dX10_baseValue_13 : decode cX10_baseValue 13 = .ok (.imul, 1) := by decide +kernel
theorem dX10_baseValue_14 : decode cX10_baseValue 14 = .ok (.bipush 6, 2) := by decide +kernel
theorem dX10_baseValue_16 : decode cX10_baseValue 16 = .ok (.iload_n 2, 1) := by decide +kernel
theorem dX10_baseValue_17 : decode cX10_baseValue 17 = .ok (.imul, 1) := by decide +kernel
theorem dX10_baseValue_18 : decode cX10_baseValue 18 = .ok (.iadd, 1) := by decide +kernel
theorem dX10_baseValue_19 : decode cX10_baseValue 19 = .ok (.iload_n 3, 1) := by decide +kernel
theorem dX10_baseValue_20 : decode cX10_baseValue 20 = .ok (.iadd, 1) := by decide +kernel
theorem dX10_baseValue_21 : decode cX10_baseValue 21 = .ok (.laload, 1) := by decide +kernel
theorem dX10_baseValue_22 : decode cX10_baseValue 22 = .ok (.lreturn, 1) := by decide +kernel
theorem dX10_ownValue_0 : decode cX10_ownValue 0 = .ok (.aload_n 0, 1) := by decide +kernel
theorem dX10_ownValue_1 : decode cX10_ownValue 1 = .ok (.getfield 34, 3) := by decide +kernel
theorem dX10_ownValue_4 : decode cX10_ownValue 4 = .ok (.sipush 360, 3) := by decide +kernel
theorem dX10_ownValue_7 : decode cX10_ownValue 7 = .ok (.iload_n 1, 1) := by decide +kernel
theorem dX10_ownValue_8 : decode cX10_ownValue 8 = .ok (.imul, 1) := by decide +kernel
theorem dX10_ownValue_9 : decode cX10_ownValue 9 = .ok (.bipush 6, 2) := by decide +kernel
theorem dX10_ownValue_11 : decode cX10_ownValue 11 = .ok (.iload_n 2, 1) := by decide +kernel
theorem dX10_ownValue_12 : decode cX10_ownValue 12 = .ok (.imul, 1) := by decide +kernel
theorem dX10_ownValue_13 : decode cX10_ownValue 13 = .ok (.iadd, 1) := by decide +kernel
theorem dX10_ownValue_14 : decode cX10_ownValue 14 = .ok (.iload_n 3, 1) := by decide +kernel
theorem dX10_ownValue_15 : decode cX10_ownValue 15 = .ok (.iadd, 1) := by decide +kernel
theorem dX10_ownValue_16 : decode cX10_ownValue 16 = .ok (.laload, 1) := by decide +kernel
theorem dX10_ownValue_17 : decode cX10_ownValue 17 = .ok (.lreturn, 1) := by decide +kernel
theorem dX10_isHeadAsBase_0 : decode cX10_isHeadAsBase 0 = .ok (.iconst 1, 1) := by decide +kernel
theorem dX10_isHeadAsBase_1 : decode cX10_isHeadAsBase 1 = .ok (.istore_n 3, 1) := by decide +kernel
theorem dX10_isHeadAsBase_2 : decode cX10_isHeadAsBase 2 = .ok (.iconst 0, 1) := by decide +kernel
theorem dX10_isHeadAsBase_3 : decode cX10_isHeadAsBase 3 = .ok (.istore 4, 2) := by decide +kernel
theorem dX10_isHeadAsBase_5 : decode cX10_isHeadAsBase 5 = .ok (.iload 4, 2) := by decide +kernel
theorem dX10_isHeadAsBase_7 : decode cX10_isHeadAsBase 7 = .ok (.bipush 6, 2) := by decide +kernel
theorem dX10_isHeadAsBase_9 : decode cX10_isHeadAsBase 9 = .ok (.if_icmp .ge 38, 3) := by decide +kernel
theorem dX10_isHeadAsBase_12 : decode cX10_isHeadAsBase 12 = .ok (.iload_n 3, 1) := by decide +kernel
theorem dX10_isHeadAsBase_13 : decode cX10_isHeadAsBase 13 = .ok (.ifCond .eq 26, 3) := by decide +kernel
theorem dX10_isHeadAsBase_16 : decode cX10_isHeadAsBase 16 = .ok (.aload_n 0, 1) := by decide +kernel
theorem dX10_isHeadAsBase_17 : decode cX10_isHeadAsBase 17 = .ok (.iload_n 2, 1) := by decide +kernel
theorem dX10_isHeadAsBase_18 : decode cX10_isHeadAsBase 18 = .ok (.iload 4, 2) := by decide +kernel
theorem dX10_isHeadAsBase_20 : decode cX10_isHeadAsBase 20 = .ok (.invokevirtual 124, 3) := by decide +kernel
theorem dX10_isHeadAsBase_23 : decode cX10_isHeadAsBase 23 = .ok (.aload_n 0, 1) := by decide +kernel
theorem dX10_isHeadAsBase_24 : decode cX10_isHeadAsBase 24 = .ok (.iload_n 1, 1) := by decide +kernel
theorem dX10_isHeadAsBase_25 : decode cX10_isHeadAsBase 25 = .ok (.iload_n 2, 1) := by decide +kernel
theorem dX10_isHeadAsBase_26 : decode cX10_isHeadAsBase 26 = .ok (.iload 4, 2) := by decide +kernel
theorem dX10_isHeadAsBase_28 : decode cX10_isHeadAsBase 28 = .ok (.invokevirtual 128, 3) := by decide +kernel
theorem dX10_isHeadAsBase_31 : decode cX10_isHeadAsBase 31 = .ok (.lcmp, 1) := by decide +kernel
theorem dX10_isHeadAsBase_32 : decode cX10_isHeadAsBase 32 = .ok (.ifCond .ne 7, 3) := by decide +kernel
theorem dX10_isHeadAsBase_35 : decode cX10_isHeadAsBase 35 = .ok (.iconst 1, 1) := by decide +kernel
theorem dX10_isHeadAsBase_36 : decode cX10_isHeadAsBase 36 = .ok (.goto 4, 3) := by decide +kernel
theorem dX10_isHeadAsBase_39 : decode cX10_isHeadAsBase 39 = .ok (.iconst 0, 1) := by decide +kernel
theorem dX10_isHeadAsBase_40 : decode cX10_isHeadAsBase 40 = .ok (.istore_n 3, 1) := by decide +kernel
theorem dX10_isHeadAsBase_41 : decode cX10_isHeadAsBase 41 = .ok (.iinc 4 1, 3) := by decide +kernel
theorem dX10_isHeadAsBase_44 : decode cX10_isHeadAsBase 44 = .ok (.goto (-39), 3) := by decide +kernel
theorem dX10_isHeadAsBase_47 : decode cX10_isHeadAsBase 47 = .ok (.iload_n 3, 1) := by decide +kernel
theorem dX10_isHeadAsBase_48 : decode cX10_isHeadAsBase 48 = .ok (.ireturn, 1) := by decide +kernel
theorem dX10_isOwnAsBase_0 : decode cX10_isOwnAsBase 0 = .ok (.iconst 1, 1) := by decide +kernel
theorem dX10_isOwnAsBase_1 : decode cX10_isOwnAsBase 1 = .ok (.istore_n 3, 1) := by decide +kernel
theorem dX10_isOwnAsBase_2 : decode cX10_isOwnAsBase 2 = .ok (.iconst 0, 1) := by decide +kernel
theorem dX10_isOwnAsBase_3 : decode cX10_isOwnAsBase 3 = .ok (.istore 4, 2) := by decide +kernel
theorem dX10_isOwnAsBase_5 : decode cX10_isOwnAsBase 5 = .ok (.iload 4, 2) := by decide +kernel
theorem dX10_isOwnAsBase_7 : decode cX10_isOwnAsBase 7 = .ok (.bipush 6, 2) := by decide +kernel
theorem dX10_isOwnAsBase_9 : decode cX10_isOwnAsBase 9 = .ok (.if_icmp .ge 39, 3) := by decide +kernel
theorem dX10_isOwnAsBase_12 : decode cX10_isOwnAsBase 12 = .ok (.iload_n 3, 1) := by decide +kernel
theorem dX10_isOwnAsBase_13 : decode cX10_isOwnAsBase 13 = .ok (.ifCond .eq 27, 3) := by decide +kernel
theorem dX10_isOwnAsBase_16 : decode cX10_isOwnAsBase 16 = .ok (.aload_n 0, 1) := by decide +kernel
theorem dX10_isOwnAsBase_17 : decode cX10_isOwnAsBase 17 = .ok (.iload_n 1, 1) := by decide +kernel
theorem dX10_isOwnAsBase_18 : decode cX10_isOwnAsBase 18 = .ok (.iload_n 2, 1) := by decide +kernel
theorem dX10_isOwnAsBase_19 : decode cX10_isOwnAsBase 19 = .ok (.iload 4, 2) := by decide +kernel
theorem dX10_isOwnAsBase_21 : decode cX10_isOwnAsBase 21 = .ok (.invokevirtual 132, 3) := by decide +kernel
theorem dX10_isOwnAsBase_24 : decode cX10_isOwnAsBase 24 = .ok (.aload_n 0, 1) := by decide +kernel
theorem dX10_isOwnAsBase_25 : decode cX10_isOwnAsBase 25 = .ok (.iload_n 1, 1) := by decide +kernel
theorem dX10_isOwnAsBase_26 : decode cX10_isOwnAsBase 26 = .ok (.iload_n 2, 1) := by decide +kernel
theorem dX10_isOwnAsBase_27 : decode cX10_isOwnAsBase 27 = .ok (.iload 4, 2) := by decide +kernel
theorem dX10_isOwnAsBase_29 : decode cX10_isOwnAsBase 29 = .ok (.invokevirtual 128, 3) := by decide +kernel
theorem dX10_isOwnAsBase_32 : decode cX10_isOwnAsBase 32 = .ok (.lcmp, 1) := by decide +kernel
theorem dX10_isOwnAsBase_33 : decode cX10_isOwnAsBase 33 = .ok (.ifCond .ne 7, 3) := by decide +kernel
theorem dX10_isOwnAsBase_36 : decode cX10_isOwnAsBase 36 = .ok (.iconst 1, 1) := by decide +kernel
theorem dX10_isOwnAsBase_37 : decode cX10_isOwnAsBase 37 = .ok (.goto 4, 3) := by decide +kernel
theorem dX10_isOwnAsBase_40 : decode cX10_isOwnAsBase 40 = .ok (.iconst 0, 1) := by decide +kernel
theorem dX10_isOwnAsBase_41 : decode cX10_isOwnAsBase 41 = .ok (.istore_n 3, 1) := by decide +kernel
theorem dX10_isOwnAsBase_42 : decode cX10_isOwnAsBase 42 = .ok (.iinc 4 1, 3) := by decide +kernel
theorem dX10_isOwnAsBase_45 : decode cX10_isOwnAsBase 45 = .ok (.goto (-40), 3) := by decide +kernel
theorem dX10_isOwnAsBase_48 : decode cX10_isOwnAsBase 48 = .ok (.iload_n 3, 1) := by decide +kernel
theorem dX10_isOwnAsBase_49 : decode cX10_isOwnAsBase 49 = .ok (.ireturn, 1) := by decide +kernel
theorem dX10_add_0 : decode cX10_add 0 = .ok (.aload_n 0, 1) := by decide +kernel
theorem dX10_add_1 : decode cX10_add 1 = .ok (.getfield 55, 3) := by decide +kernel
theorem dX10_add_4 : decode cX10_add 4 = .ok (.aload_n 0, 1) := by decide +kernel
theorem dX10_add_5 : decode cX10_add 5 = .ok (.getfield 135, 3) := by decide +kernel
theorem dX10_add_8 : decode cX10_add 8 = .ok (.bipush 7, 2) := by decide +kernel
theorem dX10_add_10 : decode cX10_add 10 = .ok (.iload_n 1, 1) := by decide +kernel
theorem dX10_add_11 : decode cX10_add 11 = .ok (.imul, 1) := by decide +kernel
theorem dX10_add_12 : decode cX10_add 12 = .ok (.iload_n 2, 1) := by decide +kernel
theorem dX10_add_13 : decode cX10_add 13 = .ok (.iadd, 1) := by decide +kernel
theorem dX10_add_14 : decode cX10_add 14 = .ok (.iastore, 1) := by decide +kernel
theorem dX10_add_15 : decode cX10_add 15 = .ok (.aload_n 0, 1) := by decide +kernel
theorem dX10_add_16 : decode cX10_add 16 = .ok (.dup, 1) := by decide +kernel
theorem dX10_add_17 : decode cX10_add 17 = .ok (.getfield 135, 3) := by decide +kernel
theorem dX10_add_20 : decode cX10_add 20 = .ok (.iconst 1, 1) := by decide +kernel
theorem dX10_add_21 : decode cX10_add 21 = .ok (.iadd, 1) := by decide +kernel
theorem dX10_add_22 : decode cX10_add 22 = .ok (.putfield 135, 3) := by decide +kernel
theorem dX10_add_25 : decode cX10_add 25 = .ok (.return_, 1) := by decide +kernel
theorem dX10_sideOf_0 : decode cX10_sideOf 0 = .ok (.aload_n 0, 1) := by decide +kernel
theorem dX10_sideOf_1 : decode cX10_sideOf 1 = .ok (.getfield 52, 3) := by decide +kernel
theorem dX10_sideOf_4 : decode cX10_sideOf 4 = .ok (.sipush 420, 3) := by decide +kernel
theorem dX10_sideOf_7 : decode cX10_sideOf 7 = .ok (.iload_n 1, 1) := by decide +kernel
theorem dX10_sideOf_8 : decode cX10_sideOf 8 = .ok (.imul, 1) := by decide +kernel
theorem dX10_sideOf_9 : decode cX10_sideOf 9 = .ok (.bipush 7, 2) := by decide +kernel
theorem dX10_sideOf_11 : decode cX10_sideOf 11 = .ok (.iload_n 2, 1) := by decide +kernel
theorem dX10_sideOf_12 : decode cX10_sideOf 12 = .ok (.imul, 1) := by decide +kernel
theorem dX10_sideOf_13 : decode cX10_sideOf 13 = .ok (.iadd, 1) := by decide +kernel
theorem dX10_sideOf_14 : decode cX10_sideOf 14 = .ok (.iload_n 3, 1) := by decide +kernel
theorem dX10_sideOf_15 : decode cX10_sideOf 15 = .ok (.iadd, 1) := by decide +kernel
theorem dX10_sideOf_16 : decode cX10_sideOf 16 = .ok (.iaload, 1) := by decide +kernel
theorem dX10_sideOf_17 : decode cX10_sideOf 17 = .ok (.iconst 1, 1) := by decide +kernel
theorem dX10_sideOf_18 : decode cX10_sideOf 18 = .ok (.isub, 1) := by decide +kernel
theorem dX10_sideOf_19 : decode cX10_sideOf 19 = .ok (.ireturn, 1) := by decide +kernel
theorem dX10_findConflicts_0 : decode cX10_findConflicts 0 = .ok (.aload_n 0, 1) := by decide +kernel
theorem dX10_findConflicts_1 : decode cX10_findConflicts 1 = .ok (.getfield 31, 3) := by decide +kernel
theorem dX10_findConflicts_4 : decode cX10_findConflicts 4 = .ok (.bipush 60, 2) := by decide +kernel
theorem dX10_findConflicts_6 : decode cX10_findConflicts 6 = .ok (.iload_n 1, 1) := by decide +kernel
theorem dX10_findConflicts_7 : decode cX10_findConflicts 7 = .ok (.imul, 1) := by decide +kernel
theorem dX10_findConflicts_8 : decode cX10_findConflicts 8 = .ok (.iload_n 2, 1) := by decide +kernel
theorem dX10_findConflicts_9 : decode cX10_findConflicts 9 = .ok (.iadd, 1) := by decide +kernel
theorem dX10_findConflicts_10 : decode cX10_findConflicts 10 = .ok (.baload, 1) := by decide +kernel
theorem dX10_findConflicts_11 : decode cX10_findConflicts 11 = .ok (.istore_n 3, 1) := by decide +kernel
theorem dX10_findConflicts_12 : decode cX10_findConflicts 12 = .ok (.aload_n 0, 1) := by decide +kernel
theorem dX10_findConflicts_13 : decode cX10_findConflicts 13 = .ok (.iload_n 1, 1) := by decide +kernel
theorem dX10_findConflicts_14 : decode cX10_findConflicts 14 = .ok (.iload_n 2, 1) := by decide +kernel
theorem dX10_findConflicts_15 : decode cX10_findConflicts 15 = .ok (.invokevirtual 138, 3) := by decide +kernel
theorem dX10_findConflicts_18 : decode cX10_findConflicts 18 = .ok (.ifCond .eq 16, 3) := by decide +kernel
theorem dX10_findConflicts_21 : decode cX10_findConflicts 21 = .ok (.iload_n 3, 1) := by decide +kernel
theorem dX10_findConflicts_22 : decode cX10_findConflicts 22 = .ok (.ifCond .eq 13, 3) := by decide +kernel
theorem dX10_findConflicts_25 : decode cX10_findConflicts 25 = .ok (.aload_n 0, 1) := by decide +kernel
theorem dX10_findConflicts_26 : decode cX10_findConflicts 26 = .ok (.iload_n 1, 1) := by decide +kernel
theorem dX10_findConflicts_27 : decode cX10_findConflicts 27 = .ok (.iload_n 2, 1) := by decide +kernel
theorem dX10_findConflicts_28 : decode cX10_findConflicts 28 = .ok (.invokevirtual 141, 3) := by decide +kernel
theorem dX10_findConflicts_31 : decode cX10_findConflicts 31 = .ok (.ifCond .eq 4, 3) := by decide +kernel
theorem dX10_findConflicts_34 : decode cX10_findConflicts 34 = .ok (.return_, 1) := by decide +kernel
theorem dX10_findConflicts_35 : decode cX10_findConflicts 35 = .ok (.iload_n 3, 1) := by decide +kernel
theorem dX10_findConflicts_36 : decode cX10_findConflicts 36 = .ok (.ifCond .ne 28, 3) := by decide +kernel
theorem dX10_findConflicts_39 : decode cX10_findConflicts 39 = .ok (.aload_n 0, 1) := by decide +kernel
theorem dX10_findConflicts_40 : decode cX10_findConflicts 40 = .ok (.iload_n 2, 1) := by decide +kernel
theorem dX10_findConflicts_41 : decode cX10_findConflicts 41 = .ok (.invokevirtual 144, 3) := by decide +kernel
theorem dX10_findConflicts_44 : decode cX10_findConflicts 44 = .ok (.ifCond .eq 19, 3) := by decide +kernel
theorem dX10_findConflicts_47 : decode cX10_findConflicts 47 = .ok (.aload_n 0, 1) := by decide +kernel
theorem dX10_findConflicts_48 : decode cX10_findConflicts 48 = .ok (.iload_n 1, 1) := by decide +kernel
theorem dX10_findConflicts_49 : decode cX10_findConflicts 49 = .ok (.iload_n 2, 1) := by decide +kernel
theorem dX10_findConflicts_50 : decode cX10_findConflicts 50 = .ok (.invokevirtual 147, 3) := by decide +kernel
theorem dX10_findConflicts_53 : decode cX10_findConflicts 53 = .ok (.ifCond .ne 10, 3) := by decide +kernel
theorem dX10_findConflicts_56 : decode cX10_findConflicts 56 = .ok (.aload_n 0, 1) := by decide +kernel
theorem dX10_findConflicts_57 : decode cX10_findConflicts 57 = .ok (.iload_n 2, 1) := by decide +kernel
theorem dX10_findConflicts_58 : decode cX10_findConflicts 58 = .ok (.bipush 6, 2) := by decide +kernel
theorem dX10_findConflicts_60 : decode cX10_findConflicts 60 = .ok (.invokevirtual 150, 3) := by decide +kernel
theorem dX10_findConflicts_63 : decode cX10_findConflicts 63 = .ok (.return_, 1) := by decide +kernel
theorem dX10_findConflicts_64 : decode cX10_findConflicts 64 = .ok (.aload_n 0, 1) := by decide +kernel
theorem dX10_findConflicts_65 : decode cX10_findConflicts 65 = .ok (.iload_n 2, 1) := by decide +kernel
theorem dX10_findConflicts_66 : decode cX10_findConflicts 66 = .ok (.invokevirtual 144, 3) := by decide +kernel
theorem dX10_findConflicts_69 : decode cX10_findConflicts 69 = .ok (.ifCond .ne 11, 3) := by decide +kernel
theorem dX10_findConflicts_72 : decode cX10_findConflicts 72 = .ok (.aload_n 0, 1) := by decide +kernel
theorem dX10_findConflicts_73 : decode cX10_findConflicts 73 = .ok (.iload_n 2, 1) := by decide +kernel
theorem dX10_findConflicts_74 : decode cX10_findConflicts 74 = .ok (.bipush 6, 2) := by decide +kernel
theorem dX10_findConflicts_76 : decode cX10_findConflicts 76 = .ok (.invokevirtual 150, 3) := by decide +kernel
theorem dX10_findConflicts_79 : decode cX10_findConflicts 79 = .ok (.return_, 1) := by decide +kernel
theorem dX10_findConflicts_80 : decode cX10_findConflicts 80 = .ok (.iconst 0, 1) := by decide +kernel
theorem dX10_findConflicts_81 : decode cX10_findConflicts 81 = .ok (.istore 4, 2) := by decide +kernel
theorem dX10_findConflicts_83 : decode cX10_findConflicts 83 = .ok (.iload 4, 2) := by decide +kernel
theorem dX10_findConflicts_85 : decode cX10_findConflicts 85 = .ok (.bipush 6, 2) := by decide +kernel
theorem dX10_findConflicts_87 : decode cX10_findConflicts 87 = .ok (.if_icmp .ge 69, 3) := by decide +kernel
theorem dX10_findConflicts_90 : decode cX10_findConflicts 90 = .ok (.aload_n 0, 1) := by decide +kernel
theorem dX10_findConflicts_91 : decode cX10_findConflicts 91 = .ok (.iload_n 1, 1) := by decide +kernel
theorem dX10_findConflicts_92 : decode cX10_findConflicts 92 = .ok (.iload_n 2, 1) := by decide +kernel
theorem dX10_findConflicts_93 : decode cX10_findConflicts 93 = .ok (.iload 4, 2) := by decide +kernel
theorem dX10_findConflicts_95 : decode cX10_findConflicts 95 = .ok (.invokevirtual 128, 3) := by decide +kernel
theorem dX10_findConflicts_98 : decode cX10_findConflicts 98 = .ok (.lstore 5, 2) := by decide +kernel
theorem dX10_findConflicts_100 : decode cX10_findConflicts 100 = .ok (.aload_n 0, 1) := by decide +kernel
theorem dX10_findConflicts_101 : decode cX10_findConflicts 101 = .ok (.iload_n 2, 1) := by decide +kernel
theorem dX10_findConflicts_102 : decode cX10_findConflicts 102 = .ok (.iload 4, 2) := by decide +kernel
theorem dX10_findConflicts_104 : decode cX10_findConflicts 104 = .ok (.invokevirtual 124, 3) := by decide +kernel
theorem dX10_findConflicts_107 : decode cX10_findConflicts 107 = .ok (.lstore 7, 2) := by decide +kernel
theorem dX10_findConflicts_109 : decode cX10_findConflicts 109 = .ok (.aload_n 0, 1) := by decide +kernel
theorem dX10_findConflicts_110 : decode cX10_findConflicts 110 = .ok (.iload_n 1, 1) := by decide +kernel
theorem dX10_findConflicts_111 : decode cX10_findConflicts 111 = .ok (.iload_n 2, 1) := by decide +kernel
theorem dX10_findConflicts_112 : decode cX10_findConflicts 112 = .ok (.iload 4, 2) := by decide +kernel
theorem dX10_findConflicts_114 : decode cX10_findConflicts 114 = .ok (.invokevirtual 132, 3) := by decide +kernel
theorem dX10_findConflicts_117 : decode cX10_findConflicts 117 = .ok (.lstore 9, 2) := by decide +kernel
theorem dX10_findConflicts_119 : decode cX10_findConflicts 119 = .ok (.lload 9, 2) := by decide +kernel
theorem dX10_findConflicts_121 : decode cX10_findConflicts 121 = .ok (.lload 5, 2) := by decide +kernel
theorem dX10_findConflicts_123 : decode cX10_findConflicts 123 = .ok (.lcmp, 1) := by decide +kernel
theorem dX10_findConflicts_124 : decode cX10_findConflicts 124 = .ok (.ifCond .eq 26, 3) := by decide +kernel
theorem dX10_findConflicts_127 : decode cX10_findConflicts 127 = .ok (.lload 7, 2) := by decide +kernel
theorem dX10_findConflicts_129 : decode cX10_findConflicts 129 = .ok (.lload 5, 2) := by decide +kernel
theorem dX10_findConflicts_131 : decode cX10_findConflicts 131 = .ok (.lcmp, 1) := by decide +kernel
theorem dX10_findConflicts_132 : decode cX10_findConflicts 132 = .ok (.ifCond .eq 18, 3) := by decide +kernel
theorem dX10_findConflicts_135 : decode cX10_findConflicts 135 = .ok (.lload 7, 2) := by decide +kernel
theorem dX10_findConflicts_137 : decode cX10_findConflicts 137 = .ok (.lload 9, 2) := by decide +kernel
theorem dX10_findConflicts_139 : decode cX10_findConflicts 139 = .ok (.lcmp, 1) := by decide +kernel
theorem dX10_findConflicts_140 : decode cX10_findConflicts 140 = .ok (.ifCond .eq 10, 3) := by decide +kernel
theorem dX10_findConflicts_143 : decode cX10_findConflicts 143 = .ok (.aload_n 0, 1) := by decide +kernel
theorem dX10_findConflicts_144 : decode cX10_findConflicts 144 = .ok (.iload_n 2, 1) := by decide +kernel
theorem dX10_findConflicts_145 : decode cX10_findConflicts 145 = .ok (.iload 4, 2) := by decide +kernel
theorem dX10_findConflicts_147 : decode cX10_findConflicts 147 = .ok (.invokevirtual 150, 3) := by decide +kernel
theorem dX10_findConflicts_150 : decode cX10_findConflicts 150 = .ok (.iinc 4 1, 3) := by decide +kernel
theorem dX10_findConflicts_153 : decode cX10_findConflicts 153 = .ok (.goto (-70), 3) := by decide +kernel
theorem dX10_findConflicts_156 : decode cX10_findConflicts 156 = .ok (.return_, 1) := by decide +kernel
theorem dX10_unsettled_0 : decode cX10_unsettled 0 = .ok (.iconst 0, 1) := by decide +kernel
theorem dX10_unsettled_1 : decode cX10_unsettled 1 = .ok (.istore_n 2, 1) := by decide +kernel
theorem dX10_unsettled_2 : decode cX10_unsettled 2 = .ok (.iconst 0, 1) := by decide +kernel
theorem dX10_unsettled_3 : decode cX10_unsettled 3 = .ok (.istore_n 3, 1) := by decide +kernel
theorem dX10_unsettled_4 : decode cX10_unsettled 4 = .ok (.iload_n 3, 1) := by decide +kernel
theorem dX10_unsettled_5 : decode cX10_unsettled 5 = .ok (.aload_n 0, 1) := by decide +kernel
theorem dX10_unsettled_6 : decode cX10_unsettled 6 = .ok (.getfield 135, 3) := by decide +kernel
theorem dX10_unsettled_9 : decode cX10_unsettled 9 = .ok (.if_icmp .ge 44, 3) := by decide +kernel
theorem dX10_unsettled_12 : decode cX10_unsettled 12 = .ok (.iload_n 2, 1) := by decide +kernel
theorem dX10_unsettled_13 : decode cX10_unsettled 13 = .ok (.aload_n 0, 1) := by decide +kernel
theorem dX10_unsettled_14 : decode cX10_unsettled 14 = .ok (.iload_n 1, 1) := by decide +kernel
theorem dX10_unsettled_15 : decode cX10_unsettled 15 = .ok (.aload_n 0, 1) := by decide +kernel
theorem dX10_unsettled_16 : decode cX10_unsettled 16 = .ok (.getfield 55, 3) := by decide +kernel
theorem dX10_unsettled_19 : decode cX10_unsettled 19 = .ok (.iload_n 3, 1) := by decide +kernel
theorem dX10_unsettled_20 : decode cX10_unsettled 20 = .ok (.iaload, 1) := by decide +kernel
theorem dX10_unsettled_21 : decode cX10_unsettled 21 = .ok (.bipush 7, 2) := by decide +kernel
theorem dX10_unsettled_23 : decode cX10_unsettled 23 = .ok (.idiv, 1) := by decide +kernel
theorem dX10_unsettled_24 : decode cX10_unsettled 24 = .ok (.aload_n 0, 1) := by decide +kernel
theorem dX10_unsettled_25 : decode cX10_unsettled 25 = .ok (.getfield 55, 3) := by decide +kernel
theorem dX10_unsettled_28 : decode cX10_unsettled 28 = .ok (.iload_n 3, 1) := by decide +kernel
theorem dX10_unsettled_29 : decode cX10_unsettled 29 = .ok (.iaload, 1) := by decide +kernel
theorem dX10_unsettled_30 : decode cX10_unsettled 30 = .ok (.bipush 7, 2) := by decide +kernel
theorem dX10_unsettled_32 : decode cX10_unsettled 32 = .ok (.irem, 1) := by decide +kernel
theorem dX10_unsettled_33 : decode cX10_unsettled 33 = .ok (.invokevirtual 154, 3) := by decide +kernel
theorem dX10_unsettled_36 : decode cX10_unsettled 36 = .ok (.iconst (-1), 1) := by decide +kernel
theorem dX10_unsettled_37 : decode cX10_unsettled 37 = .ok (.if_icmp .ne 7, 3) := by decide +kernel
theorem dX10_unsettled_40 : decode cX10_unsettled 40 = .ok (.iconst 1, 1) := by decide +kernel
theorem dX10_unsettled_41 : decode cX10_unsettled 41 = .ok (.goto 4, 3) := by decide +kernel
theorem dX10_unsettled_44 : decode cX10_unsettled 44 = .ok (.iconst 0, 1) := by decide +kernel
theorem dX10_unsettled_45 : decode cX10_unsettled 45 = .ok (.iadd, 1) := by decide +kernel
theorem dX10_unsettled_46 : decode cX10_unsettled 46 = .ok (.istore_n 2, 1) := by decide +kernel
theorem dX10_unsettled_47 : decode cX10_unsettled 47 = .ok (.iinc 3 1, 3) := by decide +kernel
theorem dX10_unsettled_50 : decode cX10_unsettled 50 = .ok (.goto (-46), 3) := by decide +kernel
theorem dX10_unsettled_53 : decode cX10_unsettled 53 = .ok (.iload_n 2, 1) := by decide +kernel
theorem dX10_unsettled_54 : decode cX10_unsettled 54 = .ok (.ireturn, 1) := by decide +kernel
theorem dX10_isConflict_0 : decode cX10_isConflict 0 = .ok (.iconst 0, 1) := by decide +kernel
theorem dX10_isConflict_1 : decode cX10_isConflict 1 = .ok (.istore_n 3, 1) := by decide +kernel
theorem dX10_isConflict_2 : decode cX10_isConflict 2 = .ok (.iconst 0, 1) := by decide +kernel
theorem dX10_isConflict_3 : decode cX10_isConflict 3 = .ok (.istore 4, 2) := by decide +kernel
theorem dX10_isConflict_5 : decode cX10_isConflict 5 = .ok (.iload 4, 2) := by decide +kernel
theorem dX10_isConflict_7 : decode cX10_isConflict 7 = .ok (.aload_n 0, 1) := by decide +kernel
theorem dX10_isConflict_8 : decode cX10_isConflict 8 = .ok (.getfield 135, 3) := by decide +kernel
theorem dX10_isConflict_11 : decode cX10_isConflict 11 = .ok (.if_icmp .ge 35, 3) := by decide +kernel
theorem dX10_isConflict_14 : decode cX10_isConflict 14 = .ok (.iload_n 3, 1) := by decide +kernel
theorem dX10_isConflict_15 : decode cX10_isConflict 15 = .ok (.ifCond .ne 19, 3) := by decide +kernel
theorem dX10_isConflict_18 : decode cX10_isConflict 18 = .ok (.aload_n 0, 1) := by decide +kernel
theorem dX10_isConflict_19 : decode cX10_isConflict 19 = .ok (.getfield 55, 3) := by decide +kernel
theorem dX10_isConflict_22 : decode cX10_isConflict 22 = .ok (.iload 4, 2) := by decide +kernel
theorem dX10_isConflict_24 : decode cX10_isConflict 24 = .ok (.iaload, 1) := by decide +kernel
theorem dX10_isConflict_25 : decode cX10_isConflict 25 = .ok (.bipush 7, 2) := by decide +kernel
theorem dX10_isConflict_27 : decode cX10_isConflict 27 = .ok (.iload_n 1, 1) := by decide +kernel
theorem dX10_isConflict_28 : decode cX10_isConflict 28 = .ok (.imul, 1) := by decide +kernel
theorem dX10_isConflict_29 : decode cX10_isConflict 29 = .ok (.iload_n 2, 1) := by decide +kernel
theorem dX10_isConflict_30 : decode cX10_isConflict 30 = .ok (.iadd, 1) := by decide +kernel
theorem dX10_isConflict_31 : decode cX10_isConflict 31 = .ok (.if_icmp .ne 7, 3) := by decide +kernel
theorem dX10_isConflict_34 : decode cX10_isConflict 34 = .ok (.iconst 1, 1) := by decide +kernel
theorem dX10_isConflict_35 : decode cX10_isConflict 35 = .ok (.goto 4, 3) := by decide +kernel
theorem dX10_isConflict_38 : decode cX10_isConflict 38 = .ok (.iconst 0, 1) := by decide +kernel
theorem dX10_isConflict_39 : decode cX10_isConflict 39 = .ok (.istore_n 3, 1) := by decide +kernel
theorem dX10_isConflict_40 : decode cX10_isConflict 40 = .ok (.iinc 4 1, 3) := by decide +kernel
theorem dX10_isConflict_43 : decode cX10_isConflict 43 = .ok (.goto (-38), 3) := by decide +kernel
theorem dX10_isConflict_46 : decode cX10_isConflict 46 = .ok (.iload_n 3, 1) := by decide +kernel
theorem dX10_isConflict_47 : decode cX10_isConflict 47 = .ok (.ireturn, 1) := by decide +kernel
theorem dX10_takeAll_0 : decode cX10_takeAll 0 = .ok (.aload_n 0, 1) := by decide +kernel
theorem dX10_takeAll_1 : decode cX10_takeAll 1 = .ok (.getfield 17, 3) := by decide +kernel
theorem dX10_takeAll_4 : decode cX10_takeAll 4 = .ok (.bipush 60, 2) := by decide +kernel
theorem dX10_takeAll_6 : decode cX10_takeAll 6 = .ok (.aload_n 0, 1) := by decide +kernel
theorem dX10_takeAll_7 : decode cX10_takeAll 7 = .ok (.invokevirtual 92, 3) := by decide +kernel
theorem dX10_takeAll_10 : decode cX10_takeAll 10 = .ok (.imul, 1) := by decide +kernel
theorem dX10_takeAll_11 : decode cX10_takeAll 11 = .ok (.iload_n 2, 1) := by decide +kernel
theorem dX10_takeAll_12 : decode cX10_takeAll 12 = .ok (.iadd, 1) := by decide +kernel
theorem dX10_takeAll_13 : decode cX10_takeAll 13 = .ok (.aload_n 0, 1) := by decide +kernel
theorem dX10_takeAll_14 : decode cX10_takeAll 14 = .ok (.getfield 31, 3) := by decide +kernel
theorem dX10_takeAll_17 : decode cX10_takeAll 17 = .ok (.bipush 60, 2) := by decide +kernel
theorem dX10_takeAll_19 : decode cX10_takeAll 19 = .ok (.iload_n 1, 1) := by decide +kernel
theorem dX10_takeAll_20 : decode cX10_takeAll 20 = .ok (.imul, 1) := by decide +kernel
theorem dX10_takeAll_21 : decode cX10_takeAll 21 = .ok (.iload_n 2, 1) := by decide +kernel
theorem dX10_takeAll_22 : decode cX10_takeAll 22 = .ok (.iadd, 1) := by decide +kernel
theorem dX10_takeAll_23 : decode cX10_takeAll 23 = .ok (.baload, 1) := by decide +kernel
theorem dX10_takeAll_24 : decode cX10_takeAll 24 = .ok (.bastore, 1) := by decide +kernel
theorem dX10_takeAll_25 : decode cX10_takeAll 25 = .ok (.iconst 0, 1) := by decide +kernel
theorem dX10_takeAll_26 : decode cX10_takeAll 26 = .ok (.istore_n 3, 1) := by decide +kernel
theorem dX10_takeAll_27 : decode cX10_takeAll 27 = .ok (.iload_n 3, 1) := by decide +kernel
theorem dX10_takeAll_28 : decode cX10_takeAll 28 = .ok (.bipush 6, 2) := by decide +kernel
theorem dX10_takeAll_30 : decode cX10_takeAll 30 = .ok (.if_icmp .ge 16, 3) := by decide +kernel
theorem dX10_takeAll_33 : decode cX10_takeAll 33 = .ok (.aload_n 0, 1) := by decide +kernel
theorem dX10_takeAll_34 : decode cX10_takeAll 34 = .ok (.iload_n 1, 1) := by decide +kernel
theorem dX10_takeAll_35 : decode cX10_takeAll 35 = .ok (.iload_n 2, 1) := by decide +kernel
theorem dX10_takeAll_36 : decode cX10_takeAll 36 = .ok (.iload_n 3, 1) := by decide +kernel
theorem dX10_takeAll_37 : decode cX10_takeAll 37 = .ok (.invokevirtual 158, 3) := by decide +kernel
theorem dX10_takeAll_40 : decode cX10_takeAll 40 = .ok (.iinc 3 1, 3) := by decide +kernel
theorem dX10_takeAll_43 : decode cX10_takeAll 43 = .ok (.goto (-16), 3) := by decide +kernel
theorem dX10_takeAll_46 : decode cX10_takeAll 46 = .ok (.return_, 1) := by decide +kernel
theorem dX10_takeField_0 : decode cX10_takeField 0 = .ok (.aload_n 0, 1) := by decide +kernel
theorem dX10_takeField_1 : decode cX10_takeField 1 = .ok (.getfield 21, 3) := by decide +kernel
theorem dX10_takeField_4 : decode cX10_takeField 4 = .ok (.sipush 360, 3) := by decide +kernel
theorem dX10_takeField_7 : decode cX10_takeField 7 = .ok (.aload_n 0, 1) := by decide +kernel
theorem dX10_takeField_8 : decode cX10_takeField 8 = .ok (.invokevirtual 92, 3) := by decide +kernel
theorem dX10_takeField_11 : decode cX10_takeField 11 = .ok (.imul, 1) := by decide +kernel
theorem dX10_takeField_12 : decode cX10_takeField 12 = .ok (.bipush 6, 2) := by decide +kernel
theorem dX10_takeField_14 : decode cX10_takeField 14 = .ok (.iload_n 2, 1) := by decide +kernel
theorem dX10_takeField_15 : decode cX10_takeField 15 = .ok (.imul, 1) := by decide +kernel
theorem dX10_takeField_16 : decode cX10_takeField 16 = .ok (.iadd, 1) := by decide +kernel
theorem dX10_takeField_17 : decode cX10_takeField 17 = .ok (.iload_n 3, 1) := by decide +kernel
theorem dX10_takeField_18 : decode cX10_takeField 18 = .ok (.iadd, 1) := by decide +kernel
theorem dX10_takeField_19 : decode cX10_takeField 19 = .ok (.aload_n 0, 1) := by decide +kernel
theorem dX10_takeField_20 : decode cX10_takeField 20 = .ok (.iload_n 1, 1) := by decide +kernel
theorem dX10_takeField_21 : decode cX10_takeField 21 = .ok (.iload_n 2, 1) := by decide +kernel
theorem dX10_takeField_22 : decode cX10_takeField 22 = .ok (.iload_n 3, 1) := by decide +kernel
theorem dX10_takeField_23 : decode cX10_takeField 23 = .ok (.invokevirtual 132, 3) := by decide +kernel
theorem dX10_takeField_26 : decode cX10_takeField 26 = .ok (.lastore, 1) := by decide +kernel
theorem dX10_takeField_27 : decode cX10_takeField 27 = .ok (.return_, 1) := by decide +kernel
theorem dX10_merge_0 : decode cX10_merge 0 = .ok (.aload_n 0, 1) := by decide +kernel
theorem dX10_merge_1 : decode cX10_merge 1 = .ok (.getfield 31, 3) := by decide +kernel
theorem dX10_merge_4 : decode cX10_merge 4 = .ok (.bipush 60, 2) := by decide +kernel
theorem dX10_merge_6 : decode cX10_merge 6 = .ok (.iload_n 1, 1) := by decide +kernel
theorem dX10_merge_7 : decode cX10_merge 7 = .ok (.imul, 1) := by decide +kernel
theorem dX10_merge_8 : decode cX10_merge 8 = .ok (.iload_n 2, 1) := by decide +kernel
theorem dX10_merge_9 : decode cX10_merge 9 = .ok (.iadd, 1) := by decide +kernel
theorem dX10_merge_10 : decode cX10_merge 10 = .ok (.baload, 1) := by decide +kernel
theorem dX10_merge_11 : decode cX10_merge 11 = .ok (.istore_n 3, 1) := by decide +kernel
theorem dX10_merge_12 : decode cX10_merge 12 = .ok (.aload_n 0, 1) := by decide +kernel
theorem dX10_merge_13 : decode cX10_merge 13 = .ok (.iload_n 1, 1) := by decide +kernel
theorem dX10_merge_14 : decode cX10_merge 14 = .ok (.iload_n 2, 1) := by decide +kernel
theorem dX10_merge_15 : decode cX10_merge 15 = .ok (.invokevirtual 138, 3) := by decide +kernel
theorem dX10_merge_18 : decode cX10_merge 18 = .ok (.ifCond .ne 14, 3) := by decide +kernel
theorem dX10_merge_21 : decode cX10_merge 21 = .ok (.iload_n 3, 1) := by decide +kernel
theorem dX10_merge_22 : decode cX10_merge 22 = .ok (.ifCond .eq 9, 3) := by decide +kernel
theorem dX10_merge_25 : decode cX10_merge 25 = .ok (.aload_n 0, 1) := by decide +kernel
theorem dX10_merge_26 : decode cX10_merge 26 = .ok (.iload_n 1, 1) := by decide +kernel
theorem dX10_merge_27 : decode cX10_merge 27 = .ok (.iload_n 2, 1) := by decide +kernel
theorem dX10_merge_28 : decode cX10_merge 28 = .ok (.invokevirtual 161, 3) := by decide +kernel
theorem dX10_merge_31 : decode cX10_merge 31 = .ok (.return_, 1) := by decide +kernel
theorem dX10_merge_32 : decode cX10_merge 32 = .ok (.iload_n 3, 1) := by decide +kernel
theorem dX10_merge_33 : decode cX10_merge 33 = .ok (.ifCond .eq 13, 3) := by decide +kernel
theorem dX10_merge_36 : decode cX10_merge 36 = .ok (.aload_n 0, 1) := by decide +kernel
theorem dX10_merge_37 : decode cX10_merge 37 = .ok (.iload_n 1, 1) := by decide +kernel
theorem dX10_merge_38 : decode cX10_merge 38 = .ok (.iload_n 2, 1) := by decide +kernel
theorem dX10_merge_39 : decode cX10_merge 39 = .ok (.invokevirtual 141, 3) := by decide +kernel
theorem dX10_merge_42 : decode cX10_merge 42 = .ok (.ifCond .eq 4, 3) := by decide +kernel
theorem dX10_merge_45 : decode cX10_merge 45 = .ok (.return_, 1) := by decide +kernel
theorem dX10_merge_46 : decode cX10_merge 46 = .ok (.aload_n 0, 1) := by decide +kernel
theorem dX10_merge_47 : decode cX10_merge 47 = .ok (.iload_n 2, 1) := by decide +kernel
theorem dX10_merge_48 : decode cX10_merge 48 = .ok (.bipush 6, 2) := by decide +kernel
theorem dX10_merge_50 : decode cX10_merge 50 = .ok (.invokevirtual 164, 3) := by decide +kernel
theorem dX10_merge_53 : decode cX10_merge 53 = .ok (.ifCond .eq 22, 3) := by decide +kernel
theorem dX10_merge_56 : decode cX10_merge 56 = .ok (.aload_n 0, 1) := by decide +kernel
theorem dX10_merge_57 : decode cX10_merge 57 = .ok (.iload_n 1, 1) := by decide +kernel
theorem dX10_merge_58 : decode cX10_merge 58 = .ok (.iload_n 2, 1) := by decide +kernel
theorem dX10_merge_59 : decode cX10_merge 59 = .ok (.bipush 6, 2) := by decide +kernel
theorem dX10_merge_61 : decode cX10_merge 61 = .ok (.invokevirtual 154, 3) := by decide +kernel
theorem dX10_merge_64 : decode cX10_merge 64 = .ok (.iconst 1, 1) := by decide +kernel
theorem dX10_merge_65 : decode cX10_merge 65 = .ok (.if_icmp .ne 9, 3) := by decide +kernel
theorem dX10_merge_68 : decode cX10_merge 68 = .ok (.aload_n 0, 1) := by decide +kernel
theorem dX10_merge_69 : decode cX10_merge 69 = .ok (.iload_n 1, 1) := by decide +kernel
theorem dX10_merge_70 : decode cX10_merge 70 = .ok (.iload_n 2, 1) := by decide +kernel
theorem dX10_merge_71 : decode cX10_merge 71 = .ok (.invokevirtual 161, 3) := by decide +kernel
theorem dX10_merge_74 : decode cX10_merge 74 = .ok (.return_, 1) := by decide +kernel
theorem dX10_merge_75 : decode cX10_merge 75 = .ok (.iload_n 3, 1) := by decide +kernel
theorem dX10_merge_76 : decode cX10_merge 76 = .ok (.ifCond .ne 19, 3) := by decide +kernel
theorem dX10_merge_79 : decode cX10_merge 79 = .ok (.aload_n 0, 1) := by decide +kernel
theorem dX10_merge_80 : decode cX10_merge 80 = .ok (.getfield 17, 3) := by decide +kernel
theorem dX10_merge_83 : decode cX10_merge 83 = .ok (.bipush 60, 2) := by decide +kernel
theorem dX10_merge_85 : decode cX10_merge 85 = .ok (.aload_n 0, 1) := by decide +kernel
theorem dX10_merge_86 : decode cX10_merge 86 = .ok (.invokevirtual 92, 3) := by decide +kernel
theorem dX10_merge_89 : decode cX10_merge 89 = .ok (.imul, 1) := by decide +kernel
theorem dX10_merge_90 : decode cX10_merge 90 = .ok (.iload_n 2, 1) := by decide +kernel
theorem dX10_merge_91 : decode cX10_merge 91 = .ok (.iadd, 1) := by decide +kernel
theorem dX10_merge_92 : decode cX10_merge 92 = .ok (.iconst 0, 1) := by decide +kernel
theorem dX10_merge_93 : decode cX10_merge 93 = .ok (.bastore, 1) := by decide +kernel
theorem dX10_merge_94 : decode cX10_merge 94 = .ok (.return_, 1) := by decide +kernel
theorem dX10_merge_95 : decode cX10_merge 95 = .ok (.iconst 0, 1) := by decide +kernel
theorem dX10_merge_96 : decode cX10_merge 96 = .ok (.istore 4, 2) := by decide +kernel
theorem dX10_merge_98 : decode cX10_merge 98 = .ok (.iload 4, 2) := by decide +kernel
theorem dX10_merge_100 : decode cX10_merge 100 = .ok (.bipush 6, 2) := by decide +kernel
theorem dX10_merge_102 : decode cX10_merge 102 = .ok (.if_icmp .ge 79, 3) := by decide +kernel
theorem dX10_merge_105 : decode cX10_merge 105 = .ok (.aload_n 0, 1) := by decide +kernel
theorem dX10_merge_106 : decode cX10_merge 106 = .ok (.iload_n 2, 1) := by decide +kernel
theorem dX10_merge_107 : decode cX10_merge 107 = .ok (.iload 4, 2) := by decide +kernel
theorem dX10_merge_109 : decode cX10_merge 109 = .ok (.invokevirtual 164, 3) := by decide +kernel
theorem dX10_merge_112 : decode cX10_merge 112 = .ok (.ifCond .eq 23, 3) := by decide +kernel
theorem dX10_merge_115 : decode cX10_merge 115 = .ok (.aload_n 0, 1) := by decide +kernel
theorem dX10_merge_116 : decode cX10_merge 116 = .ok (.iload_n 1, 1) := by decide +kernel
theorem dX10_merge_117 : decode cX10_merge 117 = .ok (.iload_n 2, 1) := by decide +kernel
theorem dX10_merge_118 : decode cX10_merge 118 = .ok (.iload 4, 2) := by decide +kernel
theorem dX10_merge_120 : decode cX10_merge 120 = .ok (.invokevirtual 154, 3) := by decide +kernel
theorem dX10_merge_123 : decode cX10_merge 123 = .ok (.iconst 1, 1) := by decide +kernel
theorem dX10_merge_124 : decode cX10_merge 124 = .ok (.if_icmp .ne 7, 3) := by decide +kernel
theorem dX10_merge_127 : decode cX10_merge 127 = .ok (.iconst 1, 1) := by decide +kernel
theorem dX10_merge_128 : decode cX10_merge 128 = .ok (.goto 32, 3) := by decide +kernel
theorem dX10_merge_131 : decode cX10_merge 131 = .ok (.iconst 0, 1) := by decide +kernel
theorem dX10_merge_132 : decode cX10_merge 132 = .ok (.goto 28, 3) := by decide +kernel
theorem dX10_merge_135 : decode cX10_merge 135 = .ok (.aload_n 0, 1) := by decide +kernel
theorem dX10_merge_136 : decode cX10_merge 136 = .ok (.iload_n 1, 1) := by decide +kernel
theorem dX10_merge_137 : decode cX10_merge 137 = .ok (.iload_n 2, 1) := by decide +kernel
theorem dX10_merge_138 : decode cX10_merge 138 = .ok (.iload 4, 2) := by decide +kernel
theorem dX10_merge_140 : decode cX10_merge 140 = .ok (.invokevirtual 132, 3) := by decide +kernel
theorem dX10_merge_143 : decode cX10_merge 143 = .ok (.aload_n 0, 1) := by decide +kernel
theorem dX10_merge_144 : decode cX10_merge 144 = .ok (.iload_n 1, 1) := by decide +kernel
theorem dX10_merge_145 : decode cX10_merge 145 = .ok (.iload_n 2, 1) := by decide +kernel
theorem dX10_merge_146 : decode cX10_merge 146 = .ok (.iload 4, 2) := by decide +kernel
theorem dX10_merge_148 : decode cX10_merge 148 = .ok (.invokevirtual 128, 3) := by decide +kernel
theorem dX10_merge_151 : decode cX10_merge 151 = .ok (.lcmp, 1) := by decide +kernel
theorem dX10_merge_152 : decode cX10_merge 152 = .ok (.ifCond .eq 7, 3) := by decide +kernel
theorem dX10_merge_155 : decode cX10_merge 155 = .ok (.iconst 1, 1) := by decide +kernel
theorem dX10_merge_156 : decode cX10_merge 156 = .ok (.goto 4, 3) := by decide +kernel
theorem dX10_merge_159 : decode cX10_merge 159 = .ok (.iconst 0, 1) := by decide +kernel
theorem dX10_merge_160 : decode cX10_merge 160 = .ok (.istore 5, 2) := by decide +kernel
theorem dX10_merge_162 : decode cX10_merge 162 = .ok (.iload 5, 2) := by decide +kernel
theorem dX10_merge_164 : decode cX10_merge 164 = .ok (.ifCond .eq 11, 3) := by decide +kernel
theorem dX10_merge_167 : decode cX10_merge 167 = .ok (.aload_n 0, 1) := by decide +kernel
theorem dX10_merge_168 : decode cX10_merge 168 = .ok (.iload_n 1, 1) := by decide +kernel
theorem dX10_merge_169 : decode cX10_merge 169 = .ok (.iload_n 2, 1) := by decide +kernel
theorem dX10_merge_170 : decode cX10_merge 170 = .ok (.iload 4, 2) := by decide +kernel
theorem dX10_merge_172 : decode cX10_merge 172 = .ok (.invokevirtual 158, 3) := by decide +kernel
theorem dX10_merge_175 : decode cX10_merge 175 = .ok (.iinc 4 1, 3) := by decide +kernel
theorem dX10_merge_178 : decode cX10_merge 178 = .ok (.goto (-80), 3) := by decide +kernel
theorem dX10_merge_181 : decode cX10_merge 181 = .ok (.return_, 1) := by decide +kernel
theorem dX10_dropMarks_0 : decode cX10_dropMarks 0 = .ok (.aload_n 0, 1) := by decide +kernel
theorem dX10_dropMarks_1 : decode cX10_dropMarks 1 = .ok (.invokevirtual 92, 3) := by decide +kernel
theorem dX10_dropMarks_4 : decode cX10_dropMarks 4 = .ok (.iconst 1, 1) := by decide +kernel
theorem dX10_dropMarks_5 : decode cX10_dropMarks 5 = .ok (.isub, 1) := by decide +kernel
theorem dX10_dropMarks_6 : decode cX10_dropMarks 6 = .ok (.istore_n 1, 1) := by decide +kernel
theorem dX10_dropMarks_7 : decode cX10_dropMarks 7 = .ok (.iconst 0, 1) := by decide +kernel
theorem dX10_dropMarks_8 : decode cX10_dropMarks 8 = .ok (.istore_n 2, 1) := by decide +kernel
theorem dX10_dropMarks_9 : decode cX10_dropMarks 9 = .ok (.iload_n 2, 1) := by decide +kernel
theorem dX10_dropMarks_10 : decode cX10_dropMarks 10 = .ok (.aload_n 0, 1) := by decide +kernel
theorem dX10_dropMarks_11 : decode cX10_dropMarks 11 = .ok (.getfield 79, 3) := by decide +kernel
theorem dX10_dropMarks_14 : decode cX10_dropMarks 14 = .ok (.if_icmp .ge 103, 3) := by decide +kernel
theorem dX10_dropMarks_17 : decode cX10_dropMarks 17 = .ok (.aload_n 0, 1) := by decide +kernel
theorem dX10_dropMarks_18 : decode cX10_dropMarks 18 = .ok (.iload_n 2, 1) := by decide +kernel
theorem dX10_dropMarks_19 : decode cX10_dropMarks 19 = .ok (.invokevirtual 144, 3) := by decide +kernel
theorem dX10_dropMarks_22 : decode cX10_dropMarks 22 = .ok (.ifCond .eq 21, 3) := by decide +kernel
theorem dX10_dropMarks_25 : decode cX10_dropMarks 25 = .ok (.aload_n 0, 1) := by decide +kernel
theorem dX10_dropMarks_26 : decode cX10_dropMarks 26 = .ok (.getfield 17, 3) := by decide +kernel
theorem dX10_dropMarks_29 : decode cX10_dropMarks 29 = .ok (.bipush 60, 2) := by decide +kernel
theorem dX10_dropMarks_31 : decode cX10_dropMarks 31 = .ok (.iload_n 1, 1) := by decide +kernel
theorem dX10_dropMarks_32 : decode cX10_dropMarks 32 = .ok (.imul, 1) := by decide +kernel
theorem dX10_dropMarks_33 : decode cX10_dropMarks 33 = .ok (.iload_n 2, 1) := by decide +kernel
theorem dX10_dropMarks_34 : decode cX10_dropMarks 34 = .ok (.iadd, 1) := by decide +kernel
theorem dX10_dropMarks_35 : decode cX10_dropMarks 35 = .ok (.baload, 1) := by decide +kernel
theorem dX10_dropMarks_36 : decode cX10_dropMarks 36 = .ok (.ifCond .eq 7, 3) := by decide +kernel
theorem dX10_dropMarks_39 : decode cX10_dropMarks 39 = .ok (.iconst 1, 1) := by decide +kernel
theorem dX10_dropMarks_40 : decode cX10_dropMarks 40 = .ok (.goto 4, 3) := by decide +kernel
theorem dX10_dropMarks_43 : decode cX10_dropMarks 43 = .ok (.iconst 0, 1) := by decide +kernel
theorem dX10_dropMarks_44 : decode cX10_dropMarks 44 = .ok (.istore_n 3, 1) := by decide +kernel
theorem dX10_dropMarks_45 : decode cX10_dropMarks 45 = .ok (.iconst 0, 1) := by decide +kernel
theorem dX10_dropMarks_46 : decode cX10_dropMarks 46 = .ok (.istore 4, 2) := by decide +kernel
theorem dX10_dropMarks_48 : decode cX10_dropMarks 48 = .ok (.iload 4, 2) := by decide +kernel
theorem dX10_dropMarks_50 : decode cX10_dropMarks 50 = .ok (.bipush 6, 2) := by decide +kernel
theorem dX10_dropMarks_52 : decode cX10_dropMarks 52 = .ok (.if_icmp .ge 48, 3) := by decide +kernel
theorem dX10_dropMarks_55 : decode cX10_dropMarks 55 = .ok (.iload_n 3, 1) := by decide +kernel
theorem dX10_dropMarks_56 : decode cX10_dropMarks 56 = .ok (.ifCond .eq 36, 3) := by decide +kernel
theorem dX10_dropMarks_59 : decode cX10_dropMarks 59 = .ok (.aload_n 0, 1) := by decide +kernel
theorem dX10_dropMarks_60 : decode cX10_dropMarks 60 = .ok (.iload_n 2, 1) := by decide +kernel
theorem dX10_dropMarks_61 : decode cX10_dropMarks 61 = .ok (.iload 4, 2) := by decide +kernel
theorem dX10_dropMarks_63 : decode cX10_dropMarks 63 = .ok (.invokevirtual 124, 3) := by decide +kernel
theorem dX10_dropMarks_66 : decode cX10_dropMarks 66 = .ok (.aload_n 0, 1) := by decide +kernel
theorem dX10_dropMarks_67 : decode cX10_dropMarks 67 = .ok (.getfield 21, 3) := by decide +kernel
theorem dX10_dropMarks_70 : decode cX10_dropMarks 70 = .ok (.sipush 360, 3) := by decide +kernel
theorem dX10_dropMarks_73 : decode cX10_dropMarks 73 = .ok (.iload_n 1, 1) := by decide +kernel
theorem dX10_dropMarks_74 : decode cX10_dropMarks 74 = .ok (.imul, 1) := by decide +kernel
theorem dX10_dropMarks_75 : decode cX10_dropMarks 75 = .ok (.bipush 6, 2) := by decide +kernel
theorem dX10_dropMarks_77 : decode cX10_dropMarks 77 = .ok (.iload_n 2, 1) := by decide +kernel
theorem dX10_dropMarks_78 : decode cX10_dropMarks 78 = .ok (.imul, 1) := by decide +kernel
theorem dX10_dropMarks_79 : decode cX10_dropMarks 79 = .ok (.iadd, 1) := by decide +kernel
theorem dX10_dropMarks_80 : decode cX10_dropMarks 80 = .ok (.iload 4, 2) := by decide +kernel
theorem dX10_dropMarks_82 : decode cX10_dropMarks 82 = .ok (.iadd, 1) := by decide +kernel
theorem dX10_dropMarks_83 : decode cX10_dropMarks 83 = .ok (.laload, 1) := by decide +kernel
theorem dX10_dropMarks_84 : decode cX10_dropMarks 84 = .ok (.lcmp, 1) := by decide +kernel
theorem dX10_dropMarks_85 : decode cX10_dropMarks 85 = .ok (.ifCond .ne 7, 3) := by decide +kernel
theorem dX10_dropMarks_88 : decode cX10_dropMarks 88 = .ok (.iconst 1, 1) := by decide +kernel
theorem dX10_dropMarks_89 : decode cX10_dropMarks 89 = .ok (.goto 4, 3) := by decide +kernel
theorem dX10_dropMarks_92 : decode cX10_dropMarks 92 = .ok (.iconst 0, 1) := by decide +kernel
theorem dX10_dropMarks_93 : decode cX10_dropMarks 93 = .ok (.istore_n 3, 1) := by decide +kernel
theorem dX10_dropMarks_94 : decode cX10_dropMarks 94 = .ok (.iinc 4 1, 3) := by decide +kernel
theorem dX10_dropMarks_97 : decode cX10_dropMarks 97 = .ok (.goto (-49), 3) := by decide +kernel
theorem dX10_dropMarks_100 : decode cX10_dropMarks 100 = .ok (.iload_n 3, 1) := by decide +kernel
theorem dX10_dropMarks_101 : decode cX10_dropMarks 101 = .ok (.ifCond .ne 10, 3) := by decide +kernel
theorem dX10_dropMarks_104 : decode cX10_dropMarks 104 = .ok (.aload_n 0, 1) := by decide +kernel
theorem dX10_dropMarks_105 : decode cX10_dropMarks 105 = .ok (.getfield 73, 3) := by decide +kernel
theorem dX10_dropMarks_108 : decode cX10_dropMarks 108 = .ok (.iload_n 2, 1) := by decide +kernel
theorem dX10_dropMarks_109 : decode cX10_dropMarks 109 = .ok (.iconst 0, 1) := by decide +kernel
theorem dX10_dropMarks_110 : decode cX10_dropMarks 110 = .ok (.iastore, 1) := by decide +kernel
theorem dX10_dropMarks_111 : decode cX10_dropMarks 111 = .ok (.iinc 2 1, 3) := by decide +kernel
theorem dX10_dropMarks_114 : decode cX10_dropMarks 114 = .ok (.goto (-105), 3) := by decide +kernel
theorem dX10_dropMarks_117 : decode cX10_dropMarks 117 = .ok (.return_, 1) := by decide +kernel
theorem dX10_dropLocks_0 : decode cX10_dropLocks 0 = .ok (.iconst 0, 1) := by decide +kernel
theorem dX10_dropLocks_1 : decode cX10_dropLocks 1 = .ok (.istore_n 2, 1) := by decide +kernel
theorem dX10_dropLocks_2 : decode cX10_dropLocks 2 = .ok (.iconst 0, 1) := by decide +kernel
theorem dX10_dropLocks_3 : decode cX10_dropLocks 3 = .ok (.istore_n 3, 1) := by decide +kernel
theorem dX10_dropLocks_4 : decode cX10_dropLocks 4 = .ok (.iload_n 3, 1) := by decide +kernel
theorem dX10_dropLocks_5 : decode cX10_dropLocks 5 = .ok (.aload_n 0, 1) := by decide +kernel
theorem dX10_dropLocks_6 : decode cX10_dropLocks 6 = .ok (.getfield 100, 3) := by decide +kernel
theorem dX10_dropLocks_9 : decode cX10_dropLocks 9 = .ok (.if_icmp .ge 74, 3) := by decide +kernel
theorem dX10_dropLocks_12 : decode cX10_dropLocks 12 = .ok (.aload_n 0, 1) := by decide +kernel
theorem dX10_dropLocks_13 : decode cX10_dropLocks 13 = .ok (.getfield 58, 3) := by decide +kernel
theorem dX10_dropLocks_16 : decode cX10_dropLocks 16 = .ok (.iload_n 3, 1) := by decide +kernel
theorem dX10_dropLocks_17 : decode cX10_dropLocks 17 = .ok (.iaload, 1) := by decide +kernel
theorem dX10_dropLocks_18 : decode cX10_dropLocks 18 = .ok (.iload_n 1, 1) := by decide +kernel
theorem dX10_dropLocks_19 : decode cX10_dropLocks 19 = .ok (.if_icmp .ne 6, 3) := by decide +kernel
theorem dX10_dropLocks_22 : decode cX10_dropLocks 22 = .ok (.goto 55, 3) := by decide +kernel
theorem dX10_dropLocks_25 : decode cX10_dropLocks 25 = .ok (.aload_n 0, 1) := by decide +kernel
theorem dX10_dropLocks_26 : decode cX10_dropLocks 26 = .ok (.getfield 58, 3) := by decide +kernel
theorem dX10_dropLocks_29 : decode cX10_dropLocks 29 = .ok (.iload_n 2, 1) := by decide +kernel
theorem dX10_dropLocks_30 : decode cX10_dropLocks 30 = .ok (.aload_n 0, 1) := by decide +kernel
theorem dX10_dropLocks_31 : decode cX10_dropLocks 31 = .ok (.getfield 58, 3) := by decide +kernel
theorem dX10_dropLocks_34 : decode cX10_dropLocks 34 = .ok (.iload_n 3, 1) := by decide +kernel
theorem dX10_dropLocks_35 : decode cX10_dropLocks 35 = .ok (.iaload, 1) := by decide +kernel
theorem dX10_dropLocks_36 : decode cX10_dropLocks 36 = .ok (.iastore, 1) := by decide +kernel
theorem dX10_dropLocks_37 : decode cX10_dropLocks 37 = .ok (.iconst 0, 1) := by decide +kernel
theorem dX10_dropLocks_38 : decode cX10_dropLocks 38 = .ok (.istore 4, 2) := by decide +kernel
theorem dX10_dropLocks_40 : decode cX10_dropLocks 40 = .ok (.iload 4, 2) := by decide +kernel
theorem dX10_dropLocks_42 : decode cX10_dropLocks 42 = .ok (.iconst 4, 1) := by decide +kernel
theorem dX10_dropLocks_43 : decode cX10_dropLocks 43 = .ok (.if_icmp .ge 31, 3) := by decide +kernel
theorem dX10_dropLocks_46 : decode cX10_dropLocks 46 = .ok (.aload_n 0, 1) := by decide +kernel
theorem dX10_dropLocks_47 : decode cX10_dropLocks 47 = .ok (.getfield 61, 3) := by decide +kernel
theorem dX10_dropLocks_50 : decode cX10_dropLocks 50 = .ok (.iconst 4, 1) := by decide +kernel
theorem dX10_dropLocks_51 : decode cX10_dropLocks 51 = .ok (.iload_n 2, 1) := by decide +kernel
theorem dX10_dropLocks_52 : decode cX10_dropLocks 52 = .ok (.imul, 1) := by decide +kernel
theorem dX10_dropLocks_53 : decode cX10_dropLocks 53 = .ok (.iload 4, 2) := by decide +kernel
theorem dX10_dropLocks_55 : decode cX10_dropLocks 55 = .ok (.iadd, 1) := by decide +kernel
theorem dX10_dropLocks_56 : decode cX10_dropLocks 56 = .ok (.aload_n 0, 1) := by decide +kernel
theorem dX10_dropLocks_57 : decode cX10_dropLocks 57 = .ok (.getfield 61, 3) := by decide +kernel
theorem dX10_dropLocks_60 : decode cX10_dropLocks 60 = .ok (.iconst 4, 1) := by decide +kernel
theorem dX10_dropLocks_61 : decode cX10_dropLocks 61 = .ok (.iload_n 3, 1) := by decide +kernel
theorem dX10_dropLocks_62 : decode cX10_dropLocks 62 = .ok (.imul, 1) := by decide +kernel
theorem dX10_dropLocks_63 : decode cX10_dropLocks 63 = .ok (.iload 4, 2) := by decide +kernel
theorem dX10_dropLocks_65 : decode cX10_dropLocks 65 = .ok (.iadd, 1) := by decide +kernel
theorem dX10_dropLocks_66 : decode cX10_dropLocks 66 = .ok (.laload, 1) := by decide +kernel
theorem dX10_dropLocks_67 : decode cX10_dropLocks 67 = .ok (.lastore, 1) := by decide +kernel
theorem dX10_dropLocks_68 : decode cX10_dropLocks 68 = .ok (.iinc 4 1, 3) := by decide +kernel
theorem dX10_dropLocks_71 : decode cX10_dropLocks 71 = .ok (.goto (-31), 3) := by decide +kernel
theorem dX10_dropLocks_74 : decode cX10_dropLocks 74 = .ok (.iinc 2 1, 3) := by decide +kernel
theorem dX10_dropLocks_77 : decode cX10_dropLocks 77 = .ok (.iinc 3 1, 3) := by decide +kernel
theorem dX10_dropLocks_80 : decode cX10_dropLocks 80 = .ok (.goto (-76), 3) := by decide +kernel
theorem dX10_dropLocks_83 : decode cX10_dropLocks 83 = .ok (.aload_n 0, 1) := by decide +kernel
theorem dX10_dropLocks_84 : decode cX10_dropLocks 84 = .ok (.iload_n 2, 1) := by decide +kernel
theorem dX10_dropLocks_85 : decode cX10_dropLocks 85 = .ok (.putfield 100, 3) := by decide +kernel
theorem dX10_dropLocks_88 : decode cX10_dropLocks 88 = .ok (.return_, 1) := by decide +kernel
theorem dX10_joins_0 : decode cX10_joins 0 = .ok (.aload_n 0, 1) := by decide +kernel
theorem dX10_joins_1 : decode cX10_joins 1 = .ok (.iload_n 1, 1) := by decide +kernel
theorem dX10_joins_2 : decode cX10_joins 2 = .ok (.putfield 167, 3) := by decide +kernel
theorem dX10_joins_5 : decode cX10_joins 5 = .ok (.aload_n 0, 1) := by decide +kernel
theorem dX10_joins_6 : decode cX10_joins 6 = .ok (.iconst 0, 1) := by decide +kernel
theorem dX10_joins_7 : decode cX10_joins 7 = .ok (.putfield 135, 3) := by decide +kernel
theorem dX10_joins_10 : decode cX10_joins 10 = .ok (.iconst 0, 1) := by decide +kernel
theorem dX10_joins_11 : decode cX10_joins 11 = .ok (.istore_n 2, 1) := by decide +kernel
theorem dX10_joins_12 : decode cX10_joins 12 = .ok (.iload_n 2, 1) := by decide +kernel
theorem dX10_joins_13 : decode cX10_joins 13 = .ok (.aload_n 0, 1) := by decide +kernel
theorem dX10_joins_14 : decode cX10_joins 14 = .ok (.getfield 79, 3) := by decide +kernel
theorem dX10_joins_17 : decode cX10_joins 17 = .ok (.if_icmp .ge 15, 3) := by decide +kernel
theorem dX10_joins_20 : decode cX10_joins 20 = .ok (.aload_n 0, 1) := by decide +kernel
theorem dX10_joins_21 : decode cX10_joins 21 = .ok (.iload_n 1, 1) := by decide +kernel
theorem dX10_joins_22 : decode cX10_joins 22 = .ok (.iload_n 2, 1) := by decide +kernel
theorem dX10_joins_23 : decode cX10_joins 23 = .ok (.invokevirtual 170, 3) := by decide +kernel
theorem dX10_joins_26 : decode cX10_joins 26 = .ok (.iinc 2 1, 3) := by decide +kernel
theorem dX10_joins_29 : decode cX10_joins 29 = .ok (.goto (-17), 3) := by decide +kernel
theorem dX10_joins_32 : decode cX10_joins 32 = .ok (.aload_n 0, 1) := by decide +kernel
theorem dX10_joins_33 : decode cX10_joins 33 = .ok (.iload_n 1, 1) := by decide +kernel
theorem dX10_joins_34 : decode cX10_joins 34 = .ok (.invokevirtual 173, 3) := by decide +kernel
theorem dX10_joins_37 : decode cX10_joins 37 = .ok (.istore_n 2, 1) := by decide +kernel
theorem dX10_joins_38 : decode cX10_joins 38 = .ok (.iload_n 2, 1) := by decide +kernel
theorem dX10_joins_39 : decode cX10_joins 39 = .ok (.ifCond .le 5, 3) := by decide +kernel
theorem dX10_joins_42 : decode cX10_joins 42 = .ok (.iload_n 2, 1) := by decide +kernel
theorem dX10_joins_43 : decode cX10_joins 43 = .ok (.ireturn, 1) := by decide +kernel
theorem dX10_joins_44 : decode cX10_joins 44 = .ok (.aload_n 0, 1) := by decide +kernel
theorem dX10_joins_45 : decode cX10_joins 45 = .ok (.invokevirtual 89, 3) := by decide +kernel
theorem dX10_joins_48 : decode cX10_joins 48 = .ok (.iconst 0, 1) := by decide +kernel
theorem dX10_joins_49 : decode cX10_joins 49 = .ok (.istore_n 3, 1) := by decide +kernel
theorem dX10_joins_50 : decode cX10_joins 50 = .ok (.iload_n 3, 1) := by decide +kernel
theorem dX10_joins_51 : decode cX10_joins 51 = .ok (.aload_n 0, 1) := by decide +kernel
theorem dX10_joins_52 : decode cX10_joins 52 = .ok (.getfield 79, 3) := by decide +kernel
theorem dX10_joins_55 : decode cX10_joins 55 = .ok (.if_icmp .ge 15, 3) := by decide +kernel
theorem dX10_joins_58 : decode cX10_joins 58 = .ok (.aload_n 0, 1) := by decide +kernel
theorem dX10_joins_59 : decode cX10_joins 59 = .ok (.iload_n 1, 1) := by decide +kernel
theorem dX10_joins_60 : decode cX10_joins 60 = .ok (.iload_n 3, 1) := by decide +kernel
theorem dX10_joins_61 : decode cX10_joins 61 = .ok (.invokevirtual 176, 3) := by decide +kernel
theorem dX10_joins_64 : decode cX10_joins 64 = .ok (.iinc 3 1, 3) := by decide +kernel
theorem dX10_joins_67 : decode cX10_joins 67 = .ok (.goto (-17), 3) := by decide +kernel
theorem dX10_joins_70 : decode cX10_joins 70 = .ok (.aload_n 0, 1) := by decide +kernel
theorem dX10_joins_71 : decode cX10_joins 71 = .ok (.invokevirtual 179, 3) := by decide +kernel
theorem dX10_joins_74 : decode cX10_joins 74 = .ok (.aload_n 0, 1) := by decide +kernel
theorem dX10_joins_75 : decode cX10_joins 75 = .ok (.getfield 28, 3) := by decide +kernel
theorem dX10_joins_78 : decode cX10_joins 78 = .ok (.iload_n 1, 1) := by decide +kernel
theorem dX10_joins_79 : decode cX10_joins 79 = .ok (.iconst 0, 1) := by decide +kernel
theorem dX10_joins_80 : decode cX10_joins 80 = .ok (.bastore, 1) := by decide +kernel
theorem dX10_joins_81 : decode cX10_joins 81 = .ok (.aload_n 0, 1) := by decide +kernel
theorem dX10_joins_82 : decode cX10_joins 82 = .ok (.iload_n 1, 1) := by decide +kernel
theorem dX10_joins_83 : decode cX10_joins 83 = .ok (.invokevirtual 182, 3) := by decide +kernel
theorem dX10_joins_86 : decode cX10_joins 86 = .ok (.iconst 0, 1) := by decide +kernel
theorem dX10_joins_87 : decode cX10_joins 87 = .ok (.ireturn, 1) := by decide +kernel
theorem dX10_join_0 : decode cX10_join 0 = .ok (.aload_n 0, 1) := by decide +kernel
theorem dX10_join_1 : decode cX10_join 1 = .ok (.aload_n 0, 1) := by decide +kernel
theorem dX10_join_2 : decode cX10_join 2 = .ok (.iload_n 1, 1) := by decide +kernel
theorem dX10_join_3 : decode cX10_join 3 = .ok (.invokevirtual 111, 3) := by decide +kernel
theorem dX10_join_6 : decode cX10_join 6 = .ok (.ifCond .ne 7, 3) := by decide +kernel
theorem dX10_join_9 : decode cX10_join 9 = .ok (.iconst 1, 1) := by decide +kernel
theorem dX10_join_10 : decode cX10_join 10 = .ok (.goto 17, 3) := by decide +kernel
theorem dX10_join_13 : decode cX10_join 13 = .ok (.aload_n 0, 1) := by decide +kernel
theorem dX10_join_14 : decode cX10_join 14 = .ok (.getfield 28, 3) := by decide +kernel
theorem dX10_join_17 : decode cX10_join 17 = .ok (.iload_n 1, 1) := by decide +kernel
theorem dX10_join_18 : decode cX10_join 18 = .ok (.baload, 1) := by decide +kernel
theorem dX10_join_19 : decode cX10_join 19 = .ok (.ifCond .eq 7, 3) := by decide +kernel
theorem dX10_join_22 : decode cX10_join 22 = .ok (.iconst 0, 1) := by decide +kernel
theorem dX10_join_23 : decode cX10_join 23 = .ok (.goto 4, 3) := by decide +kernel
theorem dX10_join_26 : decode cX10_join 26 = .ok (.iconst 2, 1) := by decide +kernel
theorem dX10_join_27 : decode cX10_join 27 = .ok (.putfield 76, 3) := by decide +kernel
theorem dX10_join_30 : decode cX10_join 30 = .ok (.aload_n 0, 1) := by decide +kernel
theorem dX10_join_31 : decode cX10_join 31 = .ok (.getfield 76, 3) := by decide +kernel
theorem dX10_join_34 : decode cX10_join 34 = .ok (.ifCond .eq 5, 3) := by decide +kernel
theorem dX10_join_37 : decode cX10_join 37 = .ok (.iconst 0, 1) := by decide +kernel
theorem dX10_join_38 : decode cX10_join 38 = .ok (.ireturn, 1) := by decide +kernel
theorem dX10_join_39 : decode cX10_join 39 = .ok (.aload_n 0, 1) := by decide +kernel
theorem dX10_join_40 : decode cX10_join 40 = .ok (.getfield 13, 3) := by decide +kernel
theorem dX10_join_43 : decode cX10_join 43 = .ok (.bipush 40, 2) := by decide +kernel
theorem dX10_join_45 : decode cX10_join 45 = .ok (.if_icmp .ne 7, 3) := by decide +kernel
theorem dX10_join_48 : decode cX10_join 48 = .ok (.iconst (-1), 1) := by decide +kernel
theorem dX10_join_49 : decode cX10_join 49 = .ok (.goto 8, 3) := by decide +kernel
theorem dX10_join_52 : decode cX10_join 52 = .ok (.aload_n 0, 1) := by decide +kernel
theorem dX10_join_53 : decode cX10_join 53 = .ok (.iload_n 1, 1) := by decide +kernel
theorem dX10_join_54 : decode cX10_join 54 = .ok (.invokevirtual 186, 3) := by decide +kernel
theorem dX10_join_57 : decode cX10_join 57 = .ok (.ireturn, 1) := by decide +kernel
theorem dX10_conflict_0 : decode cX10_conflict 0 = .ok (.aload_n 0, 1) := by decide +kernel
theorem dX10_conflict_1 : decode cX10_conflict 1 = .ok (.iload_n 1, 1) := by decide +kernel
theorem dX10_conflict_2 : decode cX10_conflict 2 = .ok (.ifCond .lt 24, 3) := by decide +kernel
theorem dX10_conflict_5 : decode cX10_conflict 5 = .ok (.iload_n 1, 1) := by decide +kernel
theorem dX10_conflict_6 : decode cX10_conflict 6 = .ok (.aload_n 0, 1) := by decide +kernel
theorem dX10_conflict_7 : decode cX10_conflict 7 = .ok (.getfield 135, 3) := by decide +kernel
theorem dX10_conflict_10 : decode cX10_conflict 10 = .ok (.if_icmp .ge 16, 3) := by decide +kernel
theorem dX10_conflict_13 : decode cX10_conflict 13 = .ok (.iload_n 2, 1) := by decide +kernel
theorem dX10_conflict_14 : decode cX10_conflict 14 = .ok (.ifCond .lt 12, 3) := by decide +kernel
theorem dX10_conflict_17 : decode cX10_conflict 17 = .ok (.iload_n 2, 1) := by decide +kernel
theorem dX10_conflict_18 : decode cX10_conflict 18 = .ok (.iconst 3, 1) := by decide +kernel
theorem dX10_conflict_19 : decode cX10_conflict 19 = .ok (.if_icmp .ge 7, 3) := by decide +kernel
theorem dX10_conflict_22 : decode cX10_conflict 22 = .ok (.iconst 0, 1) := by decide +kernel
theorem dX10_conflict_23 : decode cX10_conflict 23 = .ok (.goto 4, 3) := by decide +kernel
theorem dX10_conflict_26 : decode cX10_conflict 26 = .ok (.iconst 1, 1) := by decide +kernel
theorem dX10_conflict_27 : decode cX10_conflict 27 = .ok (.putfield 76, 3) := by decide +kernel
theorem dX10_conflict_30 : decode cX10_conflict 30 = .ok (.aload_n 0, 1) := by decide +kernel
theorem dX10_conflict_31 : decode cX10_conflict 31 = .ok (.getfield 76, 3) := by decide +kernel
theorem dX10_conflict_34 : decode cX10_conflict 34 = .ok (.ifCond .eq 5, 3) := by decide +kernel
theorem dX10_conflict_37 : decode cX10_conflict 37 = .ok (.iconst 0, 1) := by decide +kernel
theorem dX10_conflict_38 : decode cX10_conflict 38 = .ok (.ireturn, 1) := by decide +kernel
theorem dX10_conflict_39 : decode cX10_conflict 39 = .ok (.aload_n 0, 1) := by decide +kernel
theorem dX10_conflict_40 : decode cX10_conflict 40 = .ok (.getfield 55, 3) := by decide +kernel
theorem dX10_conflict_43 : decode cX10_conflict 43 = .ok (.iload_n 1, 1) := by decide +kernel
theorem dX10_conflict_44 : decode cX10_conflict 44 = .ok (.iaload, 1) := by decide +kernel
theorem dX10_conflict_45 : decode cX10_conflict 45 = .ok (.bipush 7, 2) := by decide +kernel
theorem dX10_conflict_47 : decode cX10_conflict 47 = .ok (.idiv, 1) := by decide +kernel
theorem dX10_conflict_48 : decode cX10_conflict 48 = .ok (.istore_n 3, 1) := by decide +kernel
theorem dX10_conflict_49 : decode cX10_conflict 49 = .ok (.aload_n 0, 1) := by decide +kernel
theorem dX10_conflict_50 : decode cX10_conflict 50 = .ok (.getfield 55, 3) := by decide +kernel
theorem dX10_conflict_53 : decode cX10_conflict 53 = .ok (.iload_n 1, 1) := by decide +kernel
theorem dX10_conflict_54 : decode cX10_conflict 54 = .ok (.iaload, 1) := by decide +kernel
theorem dX10_conflict_55 : decode cX10_conflict 55 = .ok (.bipush 7, 2) := by decide +kernel
theorem dX10_conflict_57 : decode cX10_conflict 57 = .ok (.irem, 1) := by decide +kernel
theorem dX10_conflict_58 : decode cX10_conflict 58 = .ok (.istore 4, 2) := by decide +kernel
theorem dX10_conflict_60 : decode cX10_conflict 60 = .ok (.iload_n 2, 1) := by decide +kernel
theorem dX10_conflict_61 : decode cX10_conflict 61 = .ok (.ifCond .ne 7, 3) := by decide +kernel
theorem dX10_conflict_64 : decode cX10_conflict 64 = .ok (.iload_n 3, 1) := by decide +kernel
theorem dX10_conflict_65 : decode cX10_conflict 65 = .ok (.goto 24, 3) := by decide +kernel
theorem dX10_conflict_68 : decode cX10_conflict 68 = .ok (.iload_n 2, 1) := by decide +kernel
theorem dX10_conflict_69 : decode cX10_conflict 69 = .ok (.iconst 1, 1) := by decide +kernel
theorem dX10_conflict_70 : decode cX10_conflict 70 = .ok (.if_icmp .ne 8, 3) := by decide +kernel
theorem dX10_conflict_73 : decode cX10_conflict 73 = .ok (.iload 4, 2) := by decide +kernel
theorem dX10_conflict_75 : decode cX10_conflict 75 = .ok (.goto 14, 3) := by decide +kernel
theorem dX10_conflict_78 : decode cX10_conflict 78 = .ok (.aload_n 0, 1) := by decide +kernel
theorem dX10_conflict_79 : decode cX10_conflict 79 = .ok (.aload_n 0, 1) := by decide +kernel
theorem dX10_conflict_80 : decode cX10_conflict 80 = .ok (.getfield 167, 3) := by decide +kernel
theorem dX10_conflict_83 : decode cX10_conflict 83 = .ok (.iload_n 3, 1) := by decide +kernel
theorem dX10_conflict_84 : decode cX10_conflict 84 = .ok (.iload 4, 2) := by decide +kernel
theorem dX10_conflict_86 : decode cX10_conflict 86 = .ok (.invokevirtual 154, 3) := by decide +kernel
theorem dX10_conflict_89 : decode cX10_conflict 89 = .ok (.ireturn, 1) := by decide +kernel
theorem dX10_settle_0 : decode cX10_settle 0 = .ok (.aload_n 0, 1) := by decide +kernel
theorem dX10_settle_1 : decode cX10_settle 1 = .ok (.iload_n 1, 1) := by decide +kernel
theorem dX10_settle_2 : decode cX10_settle 2 = .ok (.ifCond .lt 11, 3) := by decide +kernel
theorem dX10_settle_5 : decode cX10_settle 5 = .ok (.iload_n 1, 1) := by decide +kernel
theorem dX10_settle_6 : decode cX10_settle 6 = .ok (.aload_n 0, 1) := by decide +kernel
theorem dX10_settle_7 : decode cX10_settle 7 = .ok (.getfield 135, 3) := by decide +kernel
theorem dX10_settle_10 : decode cX10_settle 10 = .ok (.if_icmp .lt 7, 3) := by decide +kernel
theorem dX10_settle_13 : decode cX10_settle 13 = .ok (.iconst 1, 1) := by decide +kernel
theorem dX10_settle_14 : decode cX10_settle 14 = .ok (.goto 33, 3) := by decide +kernel
theorem dX10_settle_17 : decode cX10_settle 17 = .ok (.aload_n 0, 1) := by decide +kernel
theorem dX10_settle_18 : decode cX10_settle 18 = .ok (.getfield 28, 3) := by decide +kernel
theorem dX10_settle_21 : decode cX10_settle 21 = .ok (.aload_n 0, 1) := by decide +kernel
theorem dX10_settle_22 : decode cX10_settle 22 = .ok (.getfield 167, 3) := by decide +kernel
theorem dX10_settle_25 : decode cX10_settle 25 = .ok (.baload, 1) := by decide +kernel
theorem dX10_settle_26 : decode cX10_settle 26 = .ok (.ifCond .ne 7, 3) := by decide +kernel
theorem dX10_settle_29 : decode cX10_settle 29 = .ok (.iconst 2, 1) := by decide +kernel
theorem dX10_settle_30 : decode cX10_settle 30 = .ok (.goto 17, 3) := by decide +kernel
theorem dX10_settle_33 : decode cX10_settle 33 = .ok (.iload_n 2, 1) := by decide +kernel
theorem dX10_settle_34 : decode cX10_settle 34 = .ok (.ifCond .eq 8, 3) := by decide +kernel
theorem dX10_settle_37 : decode cX10_settle 37 = .ok (.iload_n 2, 1) := by decide +kernel
theorem dX10_settle_38 : decode cX10_settle 38 = .ok (.iconst 1, 1) := by decide +kernel
theorem dX10_settle_39 : decode cX10_settle 39 = .ok (.if_icmp .ne 7, 3) := by decide +kernel
theorem dX10_settle_42 : decode cX10_settle 42 = .ok (.iconst 0, 1) := by decide +kernel
theorem dX10_settle_43 : decode cX10_settle 43 = .ok (.goto 4, 3) := by decide +kernel
theorem dX10_settle_46 : decode cX10_settle 46 = .ok (.iconst 3, 1) := by decide +kernel
theorem dX10_settle_47 : decode cX10_settle 47 = .ok (.putfield 76, 3) := by decide +kernel
theorem dX10_settle_50 : decode cX10_settle 50 = .ok (.aload_n 0, 1) := by decide +kernel
theorem dX10_settle_51 : decode cX10_settle 51 = .ok (.getfield 76, 3) := by decide +kernel
theorem dX10_settle_54 : decode cX10_settle 54 = .ok (.ifCond .eq 5, 3) := by decide +kernel
theorem dX10_settle_57 : decode cX10_settle 57 = .ok (.iconst 0, 1) := by decide +kernel
theorem dX10_settle_58 : decode cX10_settle 58 = .ok (.ireturn, 1) := by decide +kernel
theorem dX10_settle_59 : decode cX10_settle 59 = .ok (.sipush 420, 3) := by decide +kernel
theorem dX10_settle_62 : decode cX10_settle 62 = .ok (.aload_n 0, 1) := by decide +kernel
theorem dX10_settle_63 : decode cX10_settle 63 = .ok (.getfield 167, 3) := by decide +kernel
theorem dX10_settle_66 : decode cX10_settle 66 = .ok (.imul, 1) := by decide +kernel
theorem dX10_settle_67 : decode cX10_settle 67 = .ok (.aload_n 0, 1) := by decide +kernel
theorem dX10_settle_68 : decode cX10_settle 68 = .ok (.getfield 55, 3) := by decide +kernel
theorem dX10_settle_71 : decode cX10_settle 71 = .ok (.iload_n 1, 1) := by decide +kernel
theorem dX10_settle_72 : decode cX10_settle 72 = .ok (.iaload, 1) := by decide +kernel
theorem dX10_settle_73 : decode cX10_settle 73 = .ok (.iadd, 1) := by decide +kernel
theorem dX10_settle_74 : decode cX10_settle 74 = .ok (.istore_n 3, 1) := by decide +kernel
theorem dX10_settle_75 : decode cX10_settle 75 = .ok (.aload_n 0, 1) := by decide +kernel
theorem dX10_settle_76 : decode cX10_settle 76 = .ok (.getfield 52, 3) := by decide +kernel
theorem dX10_settle_79 : decode cX10_settle 79 = .ok (.iload_n 3, 1) := by decide +kernel
theorem dX10_settle_80 : decode cX10_settle 80 = .ok (.iaload, 1) := by decide +kernel
theorem dX10_settle_81 : decode cX10_settle 81 = .ok (.iload_n 2, 1) := by decide +kernel
theorem dX10_settle_82 : decode cX10_settle 82 = .ok (.iconst 1, 1) := by decide +kernel
theorem dX10_settle_83 : decode cX10_settle 83 = .ok (.iadd, 1) := by decide +kernel
theorem dX10_settle_84 : decode cX10_settle 84 = .ok (.if_icmp .eq 7, 3) := by decide +kernel
theorem dX10_settle_87 : decode cX10_settle 87 = .ok (.iconst 1, 1) := by decide +kernel
theorem dX10_settle_88 : decode cX10_settle 88 = .ok (.goto 4, 3) := by decide +kernel
theorem dX10_settle_91 : decode cX10_settle 91 = .ok (.iconst 0, 1) := by decide +kernel
theorem dX10_settle_92 : decode cX10_settle 92 = .ok (.istore 4, 2) := by decide +kernel
theorem dX10_settle_94 : decode cX10_settle 94 = .ok (.aload_n 0, 1) := by decide +kernel
theorem dX10_settle_95 : decode cX10_settle 95 = .ok (.getfield 52, 3) := by decide +kernel
theorem dX10_settle_98 : decode cX10_settle 98 = .ok (.iload_n 3, 1) := by decide +kernel
theorem dX10_settle_99 : decode cX10_settle 99 = .ok (.iload_n 2, 1) := by decide +kernel
theorem dX10_settle_100 : decode cX10_settle 100 = .ok (.iconst 1, 1) := by decide +kernel
theorem dX10_settle_101 : decode cX10_settle 101 = .ok (.iadd, 1) := by decide +kernel
theorem dX10_settle_102 : decode cX10_settle 102 = .ok (.iastore, 1) := by decide +kernel
theorem dX10_settle_103 : decode cX10_settle 103 = .ok (.iload 4, 2) := by decide +kernel
theorem dX10_settle_105 : decode cX10_settle 105 = .ok (.ireturn, 1) := by decide +kernel
theorem dX10_play_0 : decode cX10_play 0 = .ok (.aload_n 0, 1) := by decide +kernel
theorem dX10_play_1 : decode cX10_play 1 = .ok (.iload_n 3, 1) := by decide +kernel
theorem dX10_play_2 : decode cX10_play 2 = .ok (.ifCond .lt 13, 3) := by decide +kernel
theorem dX10_play_5 : decode cX10_play 5 = .ok (.iload_n 3, 1) := by decide +kernel
theorem dX10_play_6 : decode cX10_play 6 = .ok (.bipush 100, 2) := by decide +kernel
theorem dX10_play_8 : decode cX10_play 8 = .ok (.if_icmp .gt 7, 3) := by decide +kernel
theorem dX10_play_11 : decode cX10_play 11 = .ok (.iconst 0, 1) := by decide +kernel
theorem dX10_play_12 : decode cX10_play 12 = .ok (.goto 4, 3) := by decide +kernel
theorem dX10_play_15 : decode cX10_play 15 = .ok (.iconst 1, 1) := by decide +kernel
theorem dX10_play_16 : decode cX10_play 16 = .ok (.putfield 76, 3) := by decide +kernel
theorem dX10_play_19 : decode cX10_play 19 = .ok (.aload_n 0, 1) := by decide +kernel
theorem dX10_play_20 : decode cX10_play 20 = .ok (.getfield 76, 3) := by decide +kernel
theorem dX10_play_23 : decode cX10_play 23 = .ok (.ifCond .eq 5, 3) := by decide +kernel
theorem dX10_play_26 : decode cX10_play 26 = .ok (.iconst 0, 1) := by decide +kernel
theorem dX10_play_27 : decode cX10_play 27 = .ok (.ireturn, 1) := by decide +kernel
theorem dX10_play_28 : decode cX10_play 28 = .ok (.aload_n 0, 1) := by decide +kernel
theorem dX10_play_29 : decode cX10_play 29 = .ok (.getfield 82, 3) := by decide +kernel
theorem dX10_play_32 : decode cX10_play 32 = .ok (.bipush 20, 2) := by decide +kernel
theorem dX10_play_34 : decode cX10_play 34 = .ok (.if_icmp .eq 12, 3) := by decide +kernel
theorem dX10_play_37 : decode cX10_play 37 = .ok (.aload_n 0, 1) := by decide +kernel
theorem dX10_play_38 : decode cX10_play 38 = .ok (.getfield 13, 3) := by decide +kernel
theorem dX10_play_41 : decode cX10_play 41 = .ok (.bipush 40, 2) := by decide +kernel
theorem dX10_play_43 : decode cX10_play 43 = .ok (.if_icmp .ne 5, 3) := by decide +kernel
theorem dX10_play_46 : decode cX10_play 46 = .ok (.iconst (-1), 1) := by decide +kernel
theorem dX10_play_47 : decode cX10_play 47 = .ok (.ireturn, 1) := by decide +kernel
theorem dX10_play_48 : decode cX10_play 48 = .ok (.aload_n 0, 1) := by decide +kernel
theorem dX10_play_49 : decode cX10_play 49 = .ok (.aload_n 0, 1) := by decide +kernel
theorem dX10_play_50 : decode cX10_play 50 = .ok (.invokevirtual 92, 3) := by decide +kernel
theorem dX10_play_53 : decode cX10_play 53 = .ok (.invokevirtual 96, 3) := by decide +kernel
theorem dX10_play_56 : decode cX10_play 56 = .ok (.istore 4, 2) := by decide +kernel
theorem dX10_play_58 : decode cX10_play 58 = .ok (.lload_n 1, 1) := by decide +kernel
theorem dX10_play_59 : decode cX10_play 59 = .ok (.lstore 5, 2) := by decide +kernel
theorem dX10_play_61 : decode cX10_play 61 = .ok (.iconst 0, 1) := by decide +kernel
theorem dX10_play_62 : decode cX10_play 62 = .ok (.istore 7, 2) := by decide +kernel
theorem dX10_play_64 : decode cX10_play 64 = .ok (.iconst 0, 1) := by decide +kernel
theorem dX10_play_65 : decode cX10_play 65 = .ok (.istore 8, 2) := by decide +kernel
theorem dX10_play_67 : decode cX10_play 67 = .ok (.iload 8, 2) := by decide +kernel
theorem dX10_play_69 : decode cX10_play 69 = .ok (.iload_n 3, 1) := by decide +kernel
theorem dX10_play_70 : decode cX10_play 70 = .ok (.if_icmp .ge 114, 3) := by decide +kernel
theorem dX10_play_73 : decode cX10_play 73 = .ok (.aload_n 0, 1) := by decide +kernel
theorem dX10_play_74 : decode cX10_play 74 = .ok (.getfield 79, 3) := by decide +kernel
theorem dX10_play_77 : decode cX10_play 77 = .ok (.ifCond .le 107, 3) := by decide +kernel
theorem dX10_play_80 : decode cX10_play 80 = .ok (.lload 5, 2) := by decide +kernel
theorem dX10_play_82 : decode cX10_play 82 = .ok (.invokestatic 189, 3) := by decide +kernel
theorem dX10_play_85 : decode cX10_play 85 = .ok (.lstore 5, 2) := by decide +kernel
theorem dX10_play_87 : decode cX10_play 87 = .ok (.lload 5, 2) := by decide +kernel
theorem dX10_play_89 : decode cX10_play 89 = .ok (.bipush 33, 2) := by decide +kernel
theorem dX10_play_91 : decode cX10_play 91 = .ok (.lushr, 1) := by decide +kernel
theorem dX10_play_92 : decode cX10_play 92 = .ok (.aload_n 0, 1) := by decide +kernel
theorem dX10_play_93 : decode cX10_play 93 = .ok (.getfield 79, 3) := by decide +kernel
theorem dX10_play_96 : decode cX10_play 96 = .ok (.i2l, 1) := by decide +kernel
theorem dX10_play_97 : decode cX10_play 97 = .ok (.lrem, 1) := by decide +kernel
theorem dX10_play_98 : decode cX10_play 98 = .ok (.l2i, 1) := by decide +kernel
theorem dX10_play_99 : decode cX10_play 99 = .ok (.istore 9, 2) := by decide +kernel
theorem dX10_play_101 : decode cX10_play 101 = .ok (.aload_n 0, 1) := by decide +kernel
theorem dX10_play_102 : decode cX10_play 102 = .ok (.getfield 31, 3) := by decide +kernel
theorem dX10_play_105 : decode cX10_play 105 = .ok (.bipush 60, 2) := by decide +kernel
theorem dX10_play_107 : decode cX10_play 107 = .ok (.iload 4, 2) := by decide +kernel
theorem dX10_play_109 : decode cX10_play 109 = .ok (.imul, 1) := by decide +kernel
theorem dX10_play_110 : decode cX10_play 110 = .ok (.iload 9, 2) := by decide +kernel
theorem dX10_play_112 : decode cX10_play 112 = .ok (.iadd, 1) := by decide +kernel
theorem dX10_play_113 : decode cX10_play 113 = .ok (.baload, 1) := by decide +kernel
theorem dX10_play_114 : decode cX10_play 114 = .ok (.ifCond .ne 6, 3) := by decide +kernel
theorem dX10_play_117 : decode cX10_play 117 = .ok (.goto 61, 3) := by decide +kernel
theorem dX10_play_120 : decode cX10_play 120 = .ok (.lload 5, 2) := by decide +kernel
theorem dX10_play_122 : decode cX10_play 122 = .ok (.invokestatic 189, 3) := by decide +kernel
theorem dX10_play_125 : decode cX10_play 125 = .ok (.lstore 5, 2) := by decide +kernel
theorem dX10_play_127 : decode cX10_play 127 = .ok (.lload 5, 2) := by decide +kernel
theorem dX10_play_129 : decode cX10_play 129 = .ok (.bipush 33, 2) := by decide +kernel
theorem dX10_play_131 : decode cX10_play 131 = .ok (.lushr, 1) := by decide +kernel
theorem dX10_play_132 : decode cX10_play 132 = .ok (.ldc2_w 193, 3) := by decide +kernel
theorem dX10_play_135 : decode cX10_play 135 = .ok (.lrem, 1) := by decide +kernel
theorem dX10_play_136 : decode cX10_play 136 = .ok (.l2i, 1) := by decide +kernel
theorem dX10_play_137 : decode cX10_play 137 = .ok (.istore 10, 2) := by decide +kernel
theorem dX10_play_139 : decode cX10_play 139 = .ok (.lload 5, 2) := by decide +kernel
theorem dX10_play_141 : decode cX10_play 141 = .ok (.invokestatic 189, 3) := by decide +kernel
theorem dX10_play_144 : decode cX10_play 144 = .ok (.lstore 5, 2) := by decide +kernel
theorem dX10_play_146 : decode cX10_play 146 = .ok (.iload 7, 2) := by decide +kernel
theorem dX10_play_148 : decode cX10_play 148 = .ok (.aload_n 0, 1) := by decide +kernel
theorem dX10_play_149 : decode cX10_play 149 = .ok (.iload 4, 2) := by decide +kernel
theorem dX10_play_151 : decode cX10_play 151 = .ok (.iload 9, 2) := by decide +kernel
theorem dX10_play_153 : decode cX10_play 153 = .ok (.iload 10, 2) := by decide +kernel
theorem dX10_play_155 : decode cX10_play 155 = .ok (.lload 5, 2) := by decide +kernel
theorem dX10_play_157 : decode cX10_play 157 = .ok (.bipush 33, 2) := by decide +kernel
theorem dX10_play_159 : decode cX10_play 159 = .ok (.lushr, 1) := by decide +kernel
theorem dX10_play_160 : decode cX10_play 160 = .ok (.ldc2_w 195, 3) := by decide +kernel
theorem dX10_play_163 : decode cX10_play 163 = .ok (.lrem, 1) := by decide +kernel
theorem dX10_play_164 : decode cX10_play 164 = .ok (.invokevirtual 120, 3) := by decide +kernel
theorem dX10_play_167 : decode cX10_play 167 = .ok (.ifCond .eq 7, 3) := by decide +kernel
theorem dX10_play_170 : decode cX10_play 170 = .ok (.iconst 1, 1) := by decide +kernel
theorem dX10_play_171 : decode cX10_play 171 = .ok (.goto 4, 3) := by decide +kernel
theorem dX10_play_174 : decode cX10_play 174 = .ok (.iconst 0, 1) := by decide +kernel
theorem dX10_play_175 : decode cX10_play 175 = .ok (.iadd, 1) := by decide +kernel
theorem dX10_play_176 : decode cX10_play 176 = .ok (.istore 7, 2) := by decide +kernel
theorem dX10_play_178 : decode cX10_play 178 = .ok (.iinc 8 1, 3) := by decide +kernel
theorem dX10_play_181 : decode cX10_play 181 = .ok (.goto (-114), 3) := by decide +kernel
theorem dX10_play_184 : decode cX10_play 184 = .ok (.aload_n 0, 1) := by decide +kernel
theorem dX10_play_185 : decode cX10_play 185 = .ok (.iload 4, 2) := by decide +kernel
theorem dX10_play_187 : decode cX10_play 187 = .ok (.invokevirtual 186, 3) := by decide +kernel
theorem dX10_play_190 : decode cX10_play 190 = .ok (.pop, 1) := by decide +kernel
theorem dX10_play_191 : decode cX10_play 191 = .ok (.iload 7, 2) := by decide +kernel
theorem dX10_play_193 : decode cX10_play 193 = .ok (.ireturn, 1) := by decide +kernel
theorem dX10_next_0 : decode cX10_next 0 = .ok (.lload_n 0, 1) := by decide +kernel
theorem dX10_next_1 : decode cX10_next 1 = .ok (.ldc2_w 197, 3) := by decide +kernel
theorem dX10_next_4 : decode cX10_next 4 = .ok (.lmul, 1) := by decide +kernel
theorem dX10_next_5 : decode cX10_next 5 = .ok (.ldc2_w 199, 3) := by decide +kernel
theorem dX10_next_8 : decode cX10_next 8 = .ok (.ladd, 1) := by decide +kernel
theorem dX10_next_9 : decode cX10_next 9 = .ok (.lreturn, 1) := by decide +kernel
theorem dX10_at_0 : decode cX10_at 0 = .ok (.aload_n 0, 1) := by decide +kernel
theorem dX10_at_1 : decode cX10_at 1 = .ok (.iload_n 1, 1) := by decide +kernel
theorem dX10_at_2 : decode cX10_at 2 = .ok (.invokevirtual 114, 3) := by decide +kernel
theorem dX10_at_5 : decode cX10_at 5 = .ok (.ifCond .eq 14, 3) := by decide +kernel
theorem dX10_at_8 : decode cX10_at 8 = .ok (.iload_n 2, 1) := by decide +kernel
theorem dX10_at_9 : decode cX10_at 9 = .ok (.invokestatic 117, 3) := by decide +kernel
theorem dX10_at_12 : decode cX10_at 12 = .ok (.ifCond .eq 7, 3) := by decide +kernel
theorem dX10_at_15 : decode cX10_at 15 = .ok (.iconst 1, 1) := by decide +kernel
theorem dX10_at_16 : decode cX10_at 16 = .ok (.goto 4, 3) := by decide +kernel
theorem dX10_at_19 : decode cX10_at 19 = .ok (.iconst 0, 1) := by decide +kernel
theorem dX10_at_20 : decode cX10_at 20 = .ok (.istore_n 3, 1) := by decide +kernel
theorem dX10_at_21 : decode cX10_at 21 = .ok (.aload_n 0, 1) := by decide +kernel
theorem dX10_at_22 : decode cX10_at 22 = .ok (.iload_n 3, 1) := by decide +kernel
theorem dX10_at_23 : decode cX10_at 23 = .ok (.ifCond .ne 7, 3) := by decide +kernel
theorem dX10_at_26 : decode cX10_at 26 = .ok (.iconst 1, 1) := by decide +kernel
theorem dX10_at_27 : decode cX10_at 27 = .ok (.goto 16, 3) := by decide +kernel
theorem dX10_at_30 : decode cX10_at 30 = .ok (.aload_n 0, 1) := by decide +kernel
theorem dX10_at_31 : decode cX10_at 31 = .ok (.iload_n 1, 1) := by decide +kernel
theorem dX10_at_32 : decode cX10_at 32 = .ok (.invokevirtual 144, 3) := by decide +kernel
theorem dX10_at_35 : decode cX10_at 35 = .ok (.ifCond .eq 7, 3) := by decide +kernel
theorem dX10_at_38 : decode cX10_at 38 = .ok (.iconst 0, 1) := by decide +kernel
theorem dX10_at_39 : decode cX10_at 39 = .ok (.goto 4, 3) := by decide +kernel
theorem dX10_at_42 : decode cX10_at 42 = .ok (.iconst 2, 1) := by decide +kernel
theorem dX10_at_43 : decode cX10_at 43 = .ok (.putfield 76, 3) := by decide +kernel
theorem dX10_at_46 : decode cX10_at 46 = .ok (.aload_n 0, 1) := by decide +kernel
theorem dX10_at_47 : decode cX10_at 47 = .ok (.getfield 76, 3) := by decide +kernel
theorem dX10_at_50 : decode cX10_at 50 = .ok (.ifCond .ne 12, 3) := by decide +kernel
theorem dX10_at_53 : decode cX10_at 53 = .ok (.aload_n 0, 1) := by decide +kernel
theorem dX10_at_54 : decode cX10_at 54 = .ok (.iload_n 1, 1) := by decide +kernel
theorem dX10_at_55 : decode cX10_at 55 = .ok (.iload_n 2, 1) := by decide +kernel
theorem dX10_at_56 : decode cX10_at 56 = .ok (.invokevirtual 124, 3) := by decide +kernel
theorem dX10_at_59 : decode cX10_at 59 = .ok (.goto 4, 3) := by decide +kernel
theorem dX10_at_62 : decode cX10_at 62 = .ok (.lconst 0, 1) := by decide +kernel
theorem dX10_at_63 : decode cX10_at 63 = .ok (.lreturn, 1) := by decide +kernel
theorem dX10_version_0 : decode cX10_version 0 = .ok (.aload_n 0, 1) := by decide +kernel
theorem dX10_version_1 : decode cX10_version 1 = .ok (.iconst 0, 1) := by decide +kernel
theorem dX10_version_2 : decode cX10_version 2 = .ok (.putfield 76, 3) := by decide +kernel
theorem dX10_version_5 : decode cX10_version 5 = .ok (.aload_n 0, 1) := by decide +kernel
theorem dX10_version_6 : decode cX10_version 6 = .ok (.invokevirtual 92, 3) := by decide +kernel
theorem dX10_version_9 : decode cX10_version 9 = .ok (.ireturn, 1) := by decide +kernel
theorem dX10_mark_0 : decode cX10_mark 0 = .ok (.aload_n 0, 1) := by decide +kernel
theorem dX10_mark_1 : decode cX10_mark 1 = .ok (.aload_n 0, 1) := by decide +kernel
theorem dX10_mark_2 : decode cX10_mark 2 = .ok (.iload_n 1, 1) := by decide +kernel
theorem dX10_mark_3 : decode cX10_mark 3 = .ok (.invokevirtual 114, 3) := by decide +kernel
theorem dX10_mark_6 : decode cX10_mark 6 = .ok (.ifCond .eq 11, 3) := by decide +kernel
theorem dX10_mark_9 : decode cX10_mark 9 = .ok (.aload_n 0, 1) := by decide +kernel
theorem dX10_mark_10 : decode cX10_mark 10 = .ok (.iload_n 1, 1) := by decide +kernel
theorem dX10_mark_11 : decode cX10_mark 11 = .ok (.invokevirtual 144, 3) := by decide +kernel
theorem dX10_mark_14 : decode cX10_mark 14 = .ok (.ifCond .ne 7, 3) := by decide +kernel
theorem dX10_mark_17 : decode cX10_mark 17 = .ok (.iconst 1, 1) := by decide +kernel
theorem dX10_mark_18 : decode cX10_mark 18 = .ok (.goto 18, 3) := by decide +kernel
theorem dX10_mark_21 : decode cX10_mark 21 = .ok (.iload_n 2, 1) := by decide +kernel
theorem dX10_mark_22 : decode cX10_mark 22 = .ok (.ifCond .lt 13, 3) := by decide +kernel
theorem dX10_mark_25 : decode cX10_mark 25 = .ok (.iload_n 2, 1) := by decide +kernel
theorem dX10_mark_26 : decode cX10_mark 26 = .ok (.bipush 32, 2) := by decide +kernel
theorem dX10_mark_28 : decode cX10_mark 28 = .ok (.if_icmp .ge 7, 3) := by decide +kernel
theorem dX10_mark_31 : decode cX10_mark 31 = .ok (.iconst 0, 1) := by decide +kernel
theorem dX10_mark_32 : decode cX10_mark 32 = .ok (.goto 4, 3) := by decide +kernel
theorem dX10_mark_35 : decode cX10_mark 35 = .ok (.iconst 2, 1) := by decide +kernel
theorem dX10_mark_36 : decode cX10_mark 36 = .ok (.putfield 76, 3) := by decide +kernel
theorem dX10_mark_39 : decode cX10_mark 39 = .ok (.aload_n 0, 1) := by decide +kernel
theorem dX10_mark_40 : decode cX10_mark 40 = .ok (.getfield 76, 3) := by decide +kernel
theorem dX10_mark_43 : decode cX10_mark 43 = .ok (.ifCond .eq 5, 3) := by decide +kernel
theorem dX10_mark_46 : decode cX10_mark 46 = .ok (.iconst 0, 1) := by decide +kernel
theorem dX10_mark_47 : decode cX10_mark 47 = .ok (.ireturn, 1) := by decide +kernel
theorem dX10_mark_48 : decode cX10_mark 48 = .ok (.aload_n 0, 1) := by decide +kernel
theorem dX10_mark_49 : decode cX10_mark 49 = .ok (.getfield 73, 3) := by decide +kernel
theorem dX10_mark_52 : decode cX10_mark 52 = .ok (.iload_n 1, 1) := by decide +kernel
theorem dX10_mark_53 : decode cX10_mark 53 = .ok (.aload_n 0, 1) := by decide +kernel
theorem dX10_mark_54 : decode cX10_mark 54 = .ok (.getfield 73, 3) := by decide +kernel
theorem dX10_mark_57 : decode cX10_mark 57 = .ok (.iload_n 1, 1) := by decide +kernel
theorem dX10_mark_58 : decode cX10_mark 58 = .ok (.iaload, 1) := by decide +kernel
theorem dX10_mark_59 : decode cX10_mark 59 = .ok (.iconst 1, 1) := by decide +kernel
theorem dX10_mark_60 : decode cX10_mark 60 = .ok (.iload_n 2, 1) := by decide +kernel
theorem dX10_mark_61 : decode cX10_mark 61 = .ok (.ishl, 1) := by decide +kernel
theorem dX10_mark_62 : decode cX10_mark 62 = .ok (.ior, 1) := by decide +kernel
theorem dX10_mark_63 : decode cX10_mark 63 = .ok (.iastore, 1) := by decide +kernel
theorem dX10_mark_64 : decode cX10_mark 64 = .ok (.iconst 0, 1) := by decide +kernel
theorem dX10_mark_65 : decode cX10_mark 65 = .ok (.istore_n 3, 1) := by decide +kernel
theorem dX10_mark_66 : decode cX10_mark 66 = .ok (.iconst 0, 1) := by decide +kernel
theorem dX10_mark_67 : decode cX10_mark 67 = .ok (.istore 4, 2) := by decide +kernel
theorem dX10_mark_69 : decode cX10_mark 69 = .ok (.iload 4, 2) := by decide +kernel
theorem dX10_mark_71 : decode cX10_mark 71 = .ok (.bipush 32, 2) := by decide +kernel
theorem dX10_mark_73 : decode cX10_mark 73 = .ok (.if_icmp .ge 23, 3) := by decide +kernel
theorem dX10_mark_76 : decode cX10_mark 76 = .ok (.iload_n 3, 1) := by decide +kernel
theorem dX10_mark_77 : decode cX10_mark 77 = .ok (.aload_n 0, 1) := by decide +kernel
theorem dX10_mark_78 : decode cX10_mark 78 = .ok (.getfield 73, 3) := by decide +kernel
theorem dX10_mark_81 : decode cX10_mark 81 = .ok (.iload_n 1, 1) := by decide +kernel
theorem dX10_mark_82 : decode cX10_mark 82 = .ok (.iaload, 1) := by decide +kernel
theorem dX10_mark_83 : decode cX10_mark 83 = .ok (.iload 4, 2) := by decide +kernel
theorem dX10_mark_85 : decode cX10_mark 85 = .ok (.ishr, 1) := by decide +kernel
theorem dX10_mark_86 : decode cX10_mark 86 = .ok (.iconst 1, 1) := by decide +kernel
theorem dX10_mark_87 : decode cX10_mark 87 = .ok (.iand, 1) := by decide +kernel
theorem dX10_mark_88 : decode cX10_mark 88 = .ok (.iadd, 1) := by decide +kernel
theorem dX10_mark_89 : decode cX10_mark 89 = .ok (.istore_n 3, 1) := by decide +kernel
theorem dX10_mark_90 : decode cX10_mark 90 = .ok (.iinc 4 1, 3) := by decide +kernel
theorem dX10_mark_93 : decode cX10_mark 93 = .ok (.goto (-24), 3) := by decide +kernel
theorem dX10_mark_96 : decode cX10_mark 96 = .ok (.iload_n 3, 1) := by decide +kernel
theorem dX10_mark_97 : decode cX10_mark 97 = .ok (.ireturn, 1) := by decide +kernel
theorem dX10_difference_0 : decode cX10_difference 0 = .ok (.iload_n 1, 1) := by decide +kernel
theorem dX10_difference_1 : decode cX10_difference 1 = .ok (.ifCond .lt 27, 3) := by decide +kernel
theorem dX10_difference_4 : decode cX10_difference 4 = .ok (.iload_n 1, 1) := by decide +kernel
theorem dX10_difference_5 : decode cX10_difference 5 = .ok (.aload_n 0, 1) := by decide +kernel
theorem dX10_difference_6 : decode cX10_difference 6 = .ok (.getfield 13, 3) := by decide +kernel
theorem dX10_difference_9 : decode cX10_difference 9 = .ok (.if_icmp .ge 19, 3) := by decide +kernel
theorem dX10_difference_12 : decode cX10_difference 12 = .ok (.iload_n 2, 1) := by decide +kernel
theorem dX10_difference_13 : decode cX10_difference 13 = .ok (.ifCond .lt 15, 3) := by decide +kernel
theorem dX10_difference_16 : decode cX10_difference 16 = .ok (.iload_n 2, 1) := by decide +kernel
theorem dX10_difference_17 : decode cX10_difference 17 = .ok (.aload_n 0, 1) := by decide +kernel
theorem dX10_difference_18 : decode cX10_difference 18 = .ok (.getfield 13, 3) := by decide +kernel
theorem dX10_difference_21 : decode cX10_difference 21 = .ok (.if_icmp .ge 7, 3) := by decide +kernel
theorem dX10_difference_24 : decode cX10_difference 24 = .ok (.iconst 1, 1) := by decide +kernel
theorem dX10_difference_25 : decode cX10_difference 25 = .ok (.goto 4, 3) := by decide +kernel
theorem dX10_difference_28 : decode cX10_difference 28 = .ok (.iconst 0, 1) := by decide +kernel
theorem dX10_difference_29 : decode cX10_difference 29 = .ok (.istore 4, 2) := by decide +kernel
theorem dX10_difference_31 : decode cX10_difference 31 = .ok (.aload_n 0, 1) := by decide +kernel
theorem dX10_difference_32 : decode cX10_difference 32 = .ok (.iload 4, 2) := by decide +kernel
theorem dX10_difference_34 : decode cX10_difference 34 = .ok (.ifCond .eq 7, 3) := by decide +kernel
theorem dX10_difference_37 : decode cX10_difference 37 = .ok (.iconst 0, 1) := by decide +kernel
theorem dX10_difference_38 : decode cX10_difference 38 = .ok (.goto 4, 3) := by decide +kernel
theorem dX10_difference_41 : decode cX10_difference 41 = .ok (.iconst 1, 1) := by decide +kernel
theorem dX10_difference_42 : decode cX10_difference 42 = .ok (.putfield 76, 3) := by decide +kernel
theorem dX10_difference_45 : decode cX10_difference 45 = .ok (.aload_n 0, 1) := by decide +kernel
theorem dX10_difference_46 : decode cX10_difference 46 = .ok (.getfield 76, 3) := by decide +kernel
theorem dX10_difference_49 : decode cX10_difference 49 = .ok (.ifCond .eq 5, 3) := by decide +kernel
theorem dX10_difference_52 : decode cX10_difference 52 = .ok (.iconst 0, 1) := by decide +kernel
theorem dX10_difference_53 : decode cX10_difference 53 = .ok (.ireturn, 1) := by decide +kernel
theorem dX10_difference_54 : decode cX10_difference 54 = .ok (.iload_n 3, 1) := by decide +kernel
theorem dX10_difference_55 : decode cX10_difference 55 = .ok (.istore 5, 2) := by decide +kernel
theorem dX10_difference_57 : decode cX10_difference 57 = .ok (.iconst 0, 1) := by decide +kernel
theorem dX10_difference_58 : decode cX10_difference 58 = .ok (.istore 6, 2) := by decide +kernel
theorem dX10_difference_60 : decode cX10_difference 60 = .ok (.iload 6, 2) := by decide +kernel
theorem dX10_difference_62 : decode cX10_difference 62 = .ok (.aload_n 0, 1) := by decide +kernel
theorem dX10_difference_63 : decode cX10_difference 63 = .ok (.getfield 79, 3) := by decide +kernel
theorem dX10_difference_66 : decode cX10_difference 66 = .ok (.if_icmp .ge 172, 3) := by decide +kernel
theorem dX10_difference_69 : decode cX10_difference 69 = .ok (.iload_n 3, 1) := by decide +kernel
theorem dX10_difference_70 : decode cX10_difference 70 = .ok (.ifCond .lt 168, 3) := by decide +kernel
theorem dX10_difference_73 : decode cX10_difference 73 = .ok (.aload_n 0, 1) := by decide +kernel
theorem dX10_difference_74 : decode cX10_difference 74 = .ok (.getfield 17, 3) := by decide +kernel
theorem dX10_difference_77 : decode cX10_difference 77 = .ok (.bipush 60, 2) := by decide +kernel
theorem dX10_difference_79 : decode cX10_difference 79 = .ok (.iload_n 1, 1) := by decide +kernel
theorem dX10_difference_80 : decode cX10_difference 80 = .ok (.imul, 1) := by decide +kernel
theorem dX10_difference_81 : decode cX10_difference 81 = .ok (.iload 6, 2) := by decide +kernel
theorem dX10_difference_83 : decode cX10_difference 83 = .ok (.iadd, 1) := by decide +kernel
theorem dX10_difference_84 : decode cX10_difference 84 = .ok (.baload, 1) := by decide +kernel
theorem dX10_difference_85 : decode cX10_difference 85 = .ok (.istore 7, 2) := by decide +kernel
theorem dX10_difference_87 : decode cX10_difference 87 = .ok (.aload_n 0, 1) := by decide +kernel
theorem dX10_difference_88 : decode cX10_difference 88 = .ok (.getfield 17, 3) := by decide +kernel
theorem dX10_difference_91 : decode cX10_difference 91 = .ok (.bipush 60, 2) := by decide +kernel
theorem dX10_difference_93 : decode cX10_difference 93 = .ok (.iload_n 2, 1) := by decide +kernel
theorem dX10_difference_94 : decode cX10_difference 94 = .ok (.imul, 1) := by decide +kernel
theorem dX10_difference_95 : decode cX10_difference 95 = .ok (.iload 6, 2) := by decide +kernel
theorem dX10_difference_97 : decode cX10_difference 97 = .ok (.iadd, 1) := by decide +kernel
theorem dX10_difference_98 : decode cX10_difference 98 = .ok (.baload, 1) := by decide +kernel
theorem dX10_difference_99 : decode cX10_difference 99 = .ok (.istore 8, 2) := by decide +kernel
theorem dX10_difference_101 : decode cX10_difference 101 = .ok (.iconst 0, 1) := by decide +kernel
theorem dX10_difference_102 : decode cX10_difference 102 = .ok (.istore 9, 2) := by decide +kernel
theorem dX10_difference_104 : decode cX10_difference 104 = .ok (.iload 9, 2) := by decide +kernel
theorem dX10_difference_106 : decode cX10_difference 106 = .ok (.bipush 7, 2) := by decide +kernel
theorem dX10_difference_108 : decode cX10_difference 108 = .ok (.if_icmp .ge 124, 3) := by decide +kernel
theorem dX10_difference_111 : decode cX10_difference 111 = .ok (.iload 9, 2) := by decide +kernel
theorem dX10_difference_113 : decode cX10_difference 113 = .ok (.bipush 6, 2) := by decide +kernel
theorem dX10_difference_115 : decode cX10_difference 115 = .ok (.if_icmp .ne 18, 3) := by decide +kernel
theorem dX10_difference_118 : decode cX10_difference 118 = .ok (.iload 7, 2) := by decide +kernel
theorem dX10_difference_120 : decode cX10_difference 120 = .ok (.iload 8, 2) := by decide +kernel
theorem dX10_difference_122 : decode cX10_difference 122 = .ok (.if_icmp .eq 7, 3) := by decide +kernel
theorem dX10_difference_125 : decode cX10_difference 125 = .ok (.iconst 1, 1) := by decide +kernel
theorem dX10_difference_126 : decode cX10_difference 126 = .ok (.goto 64, 3) := by decide +kernel
theorem dX10_difference_129 : decode cX10_difference 129 = .ok (.iconst 0, 1) := by decide +kernel
theorem dX10_difference_130 : decode cX10_difference 130 = .ok (.goto 60, 3) := by decide +kernel
theorem dX10_difference_133 : decode cX10_difference 133 = .ok (.iload 7, 2) := by decide +kernel
theorem dX10_difference_135 : decode cX10_difference 135 = .ok (.ifCond .eq 54, 3) := by decide +kernel
theorem dX10_difference_138 : decode cX10_difference 138 = .ok (.iload 8, 2) := by decide +kernel
theorem dX10_difference_140 : decode cX10_difference 140 = .ok (.ifCond .eq 49, 3) := by decide +kernel
theorem dX10_difference_143 : decode cX10_difference 143 = .ok (.aload_n 0, 1) := by decide +kernel
theorem dX10_difference_144 : decode cX10_difference 144 = .ok (.getfield 21, 3) := by decide +kernel
theorem dX10_difference_147 : decode cX10_difference 147 = .ok (.sipush 360, 3) := by decide +kernel
theorem dX10_difference_150 : decode cX10_difference 150 = .ok (.iload_n 1, 1) := by decide +kernel
theorem dX10_difference_151 : decode cX10_difference 151 = .ok (.imul, 1) := by decide +kernel
theorem dX10_difference_152 : decode cX10_difference 152 = .ok (.bipush 6, 2) := by decide +kernel
theorem dX10_difference_154 : decode cX10_difference 154 = .ok (.iload 6, 2) := by decide +kernel
theorem dX10_difference_156 : decode cX10_difference 156 = .ok (.imul, 1) := by decide +kernel
theorem dX10_difference_157 : decode cX10_difference 157 = .ok (.iadd, 1) := by decide +kernel
theorem dX10_difference_158 : decode cX10_difference 158 = .ok (.iload 9, 2) := by decide +kernel
theorem dX10_difference_160 : decode cX10_difference 160 = .ok (.iadd, 1) := by decide +kernel
theorem dX10_difference_161 : decode cX10_difference 161 = .ok (.laload, 1) := by decide +kernel
theorem dX10_difference_162 : decode cX10_difference 162 = .ok (.aload_n 0, 1) := by decide +kernel
theorem dX10_difference_163 : decode cX10_difference 163 = .ok (.getfield 21, 3) := by decide +kernel
theorem dX10_difference_166 : decode cX10_difference 166 = .ok (.sipush 360, 3) := by decide +kernel
theorem dX10_difference_169 : decode cX10_difference 169 = .ok (.iload_n 2, 1) := by decide +kernel
theorem dX10_difference_170 : decode cX10_difference 170 = .ok (.imul, 1) := by decide +kernel
theorem dX10_difference_171 : decode cX10_difference 171 = .ok (.bipush 6, 2) := by decide +kernel
theorem dX10_difference_173 : decode cX10_difference 173 = .ok (.iload 6, 2) := by decide +kernel
theorem dX10_difference_175 : decode cX10_difference 175 = .ok (.imul, 1) := by decide +kernel
theorem dX10_difference_176 : decode cX10_difference 176 = .ok (.iadd, 1) := by decide +kernel
theorem dX10_difference_177 : decode cX10_difference 177 = .ok (.iload 9, 2) := by decide +kernel
theorem dX10_difference_179 : decode cX10_difference 179 = .ok (.iadd, 1) := by decide +kernel
theorem dX10_difference_180 : decode cX10_difference 180 = .ok (.laload, 1) := by decide +kernel
theorem dX10_difference_181 : decode cX10_difference 181 = .ok (.lcmp, 1) := by decide +kernel
theorem dX10_difference_182 : decode cX10_difference 182 = .ok (.ifCond .eq 7, 3) := by decide +kernel
theorem dX10_difference_185 : decode cX10_difference 185 = .ok (.iconst 1, 1) := by decide +kernel
theorem dX10_difference_186 : decode cX10_difference 186 = .ok (.goto 4, 3) := by decide +kernel
theorem dX10_difference_189 : decode cX10_difference 189 = .ok (.iconst 0, 1) := by decide +kernel
theorem dX10_difference_190 : decode cX10_difference 190 = .ok (.istore 10, 2) := by decide +kernel
theorem dX10_difference_192 : decode cX10_difference 192 = .ok (.iload 10, 2) := by decide +kernel
theorem dX10_difference_194 : decode cX10_difference 194 = .ok (.ifCond .eq 17, 3) := by decide +kernel
theorem dX10_difference_197 : decode cX10_difference 197 = .ok (.iload 5, 2) := by decide +kernel
theorem dX10_difference_199 : decode cX10_difference 199 = .ok (.ifCond .ne 12, 3) := by decide +kernel
theorem dX10_difference_202 : decode cX10_difference 202 = .ok (.bipush 8, 2) := by decide +kernel
theorem dX10_difference_204 : decode cX10_difference 204 = .ok (.iload 6, 2) := by decide +kernel
theorem dX10_difference_206 : decode cX10_difference 206 = .ok (.imul, 1) := by decide +kernel
theorem dX10_difference_207 : decode cX10_difference 207 = .ok (.iload 9, 2) := by decide +kernel
theorem dX10_difference_209 : decode cX10_difference 209 = .ok (.iadd, 1) := by decide +kernel
theorem dX10_difference_210 : decode cX10_difference 210 = .ok (.ireturn, 1) := by decide +kernel
theorem dX10_difference_211 : decode cX10_difference 211 = .ok (.iload 5, 2) := by decide +kernel
theorem dX10_difference_213 : decode cX10_difference 213 = .ok (.iload 10, 2) := by decide +kernel
theorem dX10_difference_215 : decode cX10_difference 215 = .ok (.ifCond .eq 7, 3) := by decide +kernel
theorem dX10_difference_218 : decode cX10_difference 218 = .ok (.iconst 1, 1) := by decide +kernel
theorem dX10_difference_219 : decode cX10_difference 219 = .ok (.goto 4, 3) := by decide +kernel
theorem dX10_difference_222 : decode cX10_difference 222 = .ok (.iconst 0, 1) := by decide +kernel
theorem dX10_difference_223 : decode cX10_difference 223 = .ok (.isub, 1) := by decide +kernel
theorem dX10_difference_224 : decode cX10_difference 224 = .ok (.istore 5, 2) := by decide +kernel
theorem dX10_difference_226 : decode cX10_difference 226 = .ok (.iinc 9 1, 3) := by decide +kernel
theorem dX10_difference_229 : decode cX10_difference 229 = .ok (.goto (-125), 3) := by decide +kernel
theorem dX10_difference_232 : decode cX10_difference 232 = .ok (.iinc 6 1, 3) := by decide +kernel
theorem dX10_difference_235 : decode cX10_difference 235 = .ok (.goto (-175), 3) := by decide +kernel
theorem dX10_difference_238 : decode cX10_difference 238 = .ok (.iconst (-1), 1) := by decide +kernel
theorem dX10_difference_239 : decode cX10_difference 239 = .ok (.ireturn, 1) := by decide +kernel
theorem dX10_lock_0 : decode cX10_lock 0 = .ok (.aload_n 0, 1) := by decide +kernel
theorem dX10_lock_1 : decode cX10_lock 1 = .ok (.aload_n 0, 1) := by decide +kernel
theorem dX10_lock_2 : decode cX10_lock 2 = .ok (.iload_n 1, 1) := by decide +kernel
theorem dX10_lock_3 : decode cX10_lock 3 = .ok (.invokevirtual 111, 3) := by decide +kernel
theorem dX10_lock_6 : decode cX10_lock 6 = .ok (.ifCond .ne 7, 3) := by decide +kernel
theorem dX10_lock_9 : decode cX10_lock 9 = .ok (.iconst 1, 1) := by decide +kernel
theorem dX10_lock_10 : decode cX10_lock 10 = .ok (.goto 17, 3) := by decide +kernel
theorem dX10_lock_13 : decode cX10_lock 13 = .ok (.aload_n 0, 1) := by decide +kernel
theorem dX10_lock_14 : decode cX10_lock 14 = .ok (.getfield 28, 3) := by decide +kernel
theorem dX10_lock_17 : decode cX10_lock 17 = .ok (.iload_n 1, 1) := by decide +kernel
theorem dX10_lock_18 : decode cX10_lock 18 = .ok (.baload, 1) := by decide +kernel
theorem dX10_lock_19 : decode cX10_lock 19 = .ok (.ifCond .eq 7, 3) := by decide +kernel
theorem dX10_lock_22 : decode cX10_lock 22 = .ok (.iconst 0, 1) := by decide +kernel
theorem dX10_lock_23 : decode cX10_lock 23 = .ok (.goto 4, 3) := by decide +kernel
theorem dX10_lock_26 : decode cX10_lock 26 = .ok (.iconst 2, 1) := by decide +kernel
theorem dX10_lock_27 : decode cX10_lock 27 = .ok (.putfield 76, 3) := by decide +kernel
theorem dX10_lock_30 : decode cX10_lock 30 = .ok (.aload_n 0, 1) := by decide +kernel
theorem dX10_lock_31 : decode cX10_lock 31 = .ok (.getfield 76, 3) := by decide +kernel
theorem dX10_lock_34 : decode cX10_lock 34 = .ok (.ifCond .ne 27, 3) := by decide +kernel
theorem dX10_lock_37 : decode cX10_lock 37 = .ok (.lload_n 2, 1) := by decide +kernel
theorem dX10_lock_38 : decode cX10_lock 38 = .ok (.lload 6, 2) := by decide +kernel
theorem dX10_lock_40 : decode cX10_lock 40 = .ok (.lcmp, 1) := by decide +kernel
theorem dX10_lock_41 : decode cX10_lock 41 = .ok (.ifCond .gt 20, 3) := by decide +kernel
theorem dX10_lock_44 : decode cX10_lock 44 = .ok (.lload 4, 2) := by decide +kernel
theorem dX10_lock_46 : decode cX10_lock 46 = .ok (.lload 8, 2) := by decide +kernel
theorem dX10_lock_48 : decode cX10_lock 48 = .ok (.lcmp, 1) := by decide +kernel
theorem dX10_lock_49 : decode cX10_lock 49 = .ok (.ifCond .gt 12, 3) := by decide +kernel
theorem dX10_lock_52 : decode cX10_lock 52 = .ok (.aload_n 0, 1) := by decide +kernel
theorem dX10_lock_53 : decode cX10_lock 53 = .ok (.getfield 100, 3) := by decide +kernel
theorem dX10_lock_56 : decode cX10_lock 56 = .ok (.bipush 10, 2) := by decide +kernel
theorem dX10_lock_58 : decode cX10_lock 58 = .ok (.if_icmp .ne 5, 3) := by decide +kernel
theorem dX10_lock_61 : decode cX10_lock 61 = .ok (.iconst 0, 1) := by decide +kernel
theorem dX10_lock_62 : decode cX10_lock 62 = .ok (.ireturn, 1) := by decide +kernel
theorem dX10_lock_63 : decode cX10_lock 63 = .ok (.iconst 0, 1) := by decide +kernel
theorem dX10_lock_64 : decode cX10_lock 64 = .ok (.istore 10, 2) := by decide +kernel
theorem dX10_lock_66 : decode cX10_lock 66 = .ok (.iload 10, 2) := by decide +kernel
theorem dX10_lock_68 : decode cX10_lock 68 = .ok (.aload_n 0, 1) := by decide +kernel
theorem dX10_lock_69 : decode cX10_lock 69 = .ok (.getfield 100, 3) := by decide +kernel
theorem dX10_lock_72 : decode cX10_lock 72 = .ok (.if_icmp .ge 99, 3) := by decide +kernel
theorem dX10_lock_75 : decode cX10_lock 75 = .ok (.aload_n 0, 1) := by decide +kernel
theorem dX10_lock_76 : decode cX10_lock 76 = .ok (.getfield 61, 3) := by decide +kernel
theorem dX10_lock_79 : decode cX10_lock 79 = .ok (.iconst 4, 1) := by decide +kernel
theorem dX10_lock_80 : decode cX10_lock 80 = .ok (.iload 10, 2) := by decide +kernel
theorem dX10_lock_82 : decode cX10_lock 82 = .ok (.imul, 1) := by decide +kernel
theorem dX10_lock_83 : decode cX10_lock 83 = .ok (.laload, 1) := by decide +kernel
theorem dX10_lock_84 : decode cX10_lock 84 = .ok (.lload 6, 2) := by decide +kernel
theorem dX10_lock_86 : decode cX10_lock 86 = .ok (.lcmp, 1) := by decide +kernel
theorem dX10_lock_87 : decode cX10_lock 87 = .ok (.ifCond .gt 57, 3) := by decide +kernel
theorem dX10_lock_90 : decode cX10_lock 90 = .ok (.lload_n 2, 1) := by decide +kernel
theorem dX10_lock_91 : decode cX10_lock 91 = .ok (.aload_n 0, 1) := by decide +kernel
theorem dX10_lock_92 : decode cX10_lock 92 = .ok (.getfield 61, 3) := by decide +kernel
theorem dX10_lock_95 : decode cX10_lock 95 = .ok (.iconst 4, 1) := by decide +kernel
theorem dX10_lock_96 : decode cX10_lock 96 = .ok (.iload 10, 2) := by decide +kernel
theorem dX10_lock_98 : decode cX10_lock 98 = .ok (.imul, 1) := by decide +kernel
theorem dX10_lock_99 : decode cX10_lock 99 = .ok (.iconst 2, 1) := by decide +kernel
theorem dX10_lock_100 : decode cX10_lock 100 = .ok (.iadd, 1) := by decide +kernel
theorem dX10_lock_101 : decode cX10_lock 101 = .ok (.laload, 1) := by decide +kernel
theorem dX10_lock_102 : decode cX10_lock 102 = .ok (.lcmp, 1) := by decide +kernel
theorem dX10_lock_103 : decode cX10_lock 103 = .ok (.ifCond .gt 41, 3) := by decide +kernel
theorem dX10_lock_106 : decode cX10_lock 106 = .ok (.aload_n 0, 1) := by decide +kernel
theorem dX10_lock_107 : decode cX10_lock 107 = .ok (.getfield 61, 3) := by decide +kernel
theorem dX10_lock_110 : decode cX10_lock 110 = .ok (.iconst 4, 1) := by decide +kernel
theorem dX10_lock_111 : decode cX10_lock 111 = .ok (.iload 10, 2) := by decide +kernel
theorem dX10_lock_113 : decode cX10_lock 113 = .ok (.imul, 1) := by decide +kernel
theorem dX10_lock_114 : decode cX10_lock 114 = .ok (.iconst 1, 1) := by decide +kernel
theorem dX10_lock_115 : decode cX10_lock 115 = .ok (.iadd, 1) := by decide +kernel
theorem dX10_lock_116 : decode cX10_lock 116 = .ok (.laload, 1) := by decide +kernel
theorem dX10_lock_117 : decode cX10_lock 117 = .ok (.lload 8, 2) := by decide +kernel
theorem dX10_lock_119 : decode cX10_lock 119 = .ok (.lcmp, 1) := by decide +kernel
theorem dX10_lock_120 : decode cX10_lock 120 = .ok (.ifCond .gt 24, 3) := by decide +kernel
theorem dX10_lock_123 : decode cX10_lock 123 = .ok (.lload 4, 2) := by decide +kernel
theorem dX10_lock_125 : decode cX10_lock 125 = .ok (.aload_n 0, 1) := by decide +kernel
theorem dX10_lock_126 : decode cX10_lock 126 = .ok (.getfield 61, 3) := by decide +kernel
theorem dX10_lock_129 : decode cX10_lock 129 = .ok (.iconst 4, 1) := by decide +kernel
theorem dX10_lock_130 : decode cX10_lock 130 = .ok (.iload 10, 2) := by decide +kernel
theorem dX10_lock_132 : decode cX10_lock 132 = .ok (.imul, 1) := by decide +kernel
theorem dX10_lock_133 : decode cX10_lock 133 = .ok (.iconst 3, 1) := by decide +kernel
theorem dX10_lock_134 : decode cX10_lock 134 = .ok (.iadd, 1) := by decide +kernel
theorem dX10_lock_135 : decode cX10_lock 135 = .ok (.laload, 1) := by decide +kernel
theorem dX10_lock_136 : decode cX10_lock 136 = .ok (.lcmp, 1) := by decide +kernel
theorem dX10_lock_137 : decode cX10_lock 137 = .ok (.ifCond .gt 7, 3) := by decide +kernel
theorem dX10_lock_140 : decode cX10_lock 140 = .ok (.iconst 1, 1) := by decide +kernel
theorem dX10_lock_141 : decode cX10_lock 141 = .ok (.goto 4, 3) := by decide +kernel
theorem dX10_lock_144 : decode cX10_lock 144 = .ok (.iconst 0, 1) := by decide +kernel
theorem dX10_lock_145 : decode cX10_lock 145 = .ok (.istore 11, 2) := by decide +kernel
theorem dX10_lock_147 : decode cX10_lock 147 = .ok (.aload_n 0, 1) := by decide +kernel
theorem dX10_lock_148 : decode cX10_lock 148 = .ok (.getfield 58, 3) := by decide +kernel
theorem dX10_lock_151 : decode cX10_lock 151 = .ok (.iload 10, 2) := by decide +kernel
theorem dX10_lock_153 : decode cX10_lock 153 = .ok (.iaload, 1) := by decide +kernel
theorem dX10_lock_154 : decode cX10_lock 154 = .ok (.iload_n 1, 1) := by decide +kernel
theorem dX10_lock_155 : decode cX10_lock 155 = .ok (.if_icmp .eq 10, 3) := by decide +kernel
theorem dX10_lock_158 : decode cX10_lock 158 = .ok (.iload 11, 2) := by decide +kernel
theorem dX10_lock_160 : decode cX10_lock 160 = .ok (.ifCond .eq 5, 3) := by decide +kernel
theorem dX10_lock_163 : decode cX10_lock 163 = .ok (.iconst 0, 1) := by decide +kernel
theorem dX10_lock_164 : decode cX10_lock 164 = .ok (.ireturn, 1) := by decide +kernel
theorem dX10_lock_165 : decode cX10_lock 165 = .ok (.iinc 10 1, 3) := by decide +kernel
theorem dX10_lock_168 : decode cX10_lock 168 = .ok (.goto (-102), 3) := by decide +kernel
theorem dX10_lock_171 : decode cX10_lock 171 = .ok (.aload_n 0, 1) := by decide +kernel
theorem dX10_lock_172 : decode cX10_lock 172 = .ok (.getfield 58, 3) := by decide +kernel
theorem dX10_lock_175 : decode cX10_lock 175 = .ok (.aload_n 0, 1) := by decide +kernel
theorem dX10_lock_176 : decode cX10_lock 176 = .ok (.getfield 100, 3) := by decide +kernel
theorem dX10_lock_179 : decode cX10_lock 179 = .ok (.iload_n 1, 1) := by decide +kernel
theorem dX10_lock_180 : decode cX10_lock 180 = .ok (.iastore, 1) := by decide +kernel
theorem dX10_lock_181 : decode cX10_lock 181 = .ok (.aload_n 0, 1) := by decide +kernel
theorem dX10_lock_182 : decode cX10_lock 182 = .ok (.getfield 61, 3) := by decide +kernel
theorem dX10_lock_185 : decode cX10_lock 185 = .ok (.iconst 4, 1) := by decide +kernel
theorem dX10_lock_186 : decode cX10_lock 186 = .ok (.aload_n 0, 1) := by decide +kernel
theorem dX10_lock_187 : decode cX10_lock 187 = .ok (.getfield 100, 3) := by decide +kernel
theorem dX10_lock_190 : decode cX10_lock 190 = .ok (.imul, 1) := by decide +kernel
theorem dX10_lock_191 : decode cX10_lock 191 = .ok (.lload_n 2, 1) := by decide +kernel
theorem dX10_lock_192 : decode cX10_lock 192 = .ok (.lastore, 1) := by decide +kernel
theorem dX10_lock_193 : decode cX10_lock 193 = .ok (.aload_n 0, 1) := by decide +kernel
theorem dX10_lock_194 : decode cX10_lock 194 = .ok (.getfield 61, 3) := by decide +kernel
theorem dX10_lock_197 : decode cX10_lock 197 = .ok (.iconst 4, 1) := by decide +kernel
theorem dX10_lock_198 : decode cX10_lock 198 = .ok (.aload_n 0, 1) := by decide +kernel
theorem dX10_lock_199 : decode cX10_lock 199 = .ok (.getfield 100, 3) := by decide +kernel
theorem dX10_lock_202 : decode cX10_lock 202 = .ok (.imul, 1) := by decide +kernel
theorem dX10_lock_203 : decode cX10_lock 203 = .ok (.iconst 1, 1) := by decide +kernel
theorem dX10_lock_204 : decode cX10_lock 204 = .ok (.iadd, 1) := by decide +kernel
theorem dX10_lock_205 : decode cX10_lock 205 = .ok (.lload 4, 2) := by decide +kernel
theorem dX10_lock_207 : decode cX10_lock 207 = .ok (.lastore, 1) := by decide +kernel
theorem dX10_lock_208 : decode cX10_lock 208 = .ok (.aload_n 0, 1) := by decide +kernel
theorem dX10_lock_209 : decode cX10_lock 209 = .ok (.getfield 61, 3) := by decide +kernel
theorem dX10_lock_212 : decode cX10_lock 212 = .ok (.iconst 4, 1) := by decide +kernel
theorem dX10_lock_213 : decode cX10_lock 213 = .ok (.aload_n 0, 1) := by decide +kernel
theorem dX10_lock_214 : decode cX10_lock 214 = .ok (.getfield 100, 3) := by decide +kernel
theorem dX10_lock_217 : decode cX10_lock 217 = .ok (.imul, 1) := by decide +kernel
theorem dX10_lock_218 : decode cX10_lock 218 = .ok (.iconst 2, 1) := by decide +kernel
theorem dX10_lock_219 : decode cX10_lock 219 = .ok (.iadd, 1) := by decide +kernel
theorem dX10_lock_220 : decode cX10_lock 220 = .ok (.lload 6, 2) := by decide +kernel
theorem dX10_lock_222 : decode cX10_lock 222 = .ok (.lastore, 1) := by decide +kernel
theorem dX10_lock_223 : decode cX10_lock 223 = .ok (.aload_n 0, 1) := by decide +kernel
theorem dX10_lock_224 : decode cX10_lock 224 = .ok (.getfield 61, 3) := by decide +kernel
theorem dX10_lock_227 : decode cX10_lock 227 = .ok (.iconst 4, 1) := by decide +kernel
theorem dX10_lock_228 : decode cX10_lock 228 = .ok (.aload_n 0, 1) := by decide +kernel
theorem dX10_lock_229 : decode cX10_lock 229 = .ok (.getfield 100, 3) := by decide +kernel
theorem dX10_lock_232 : decode cX10_lock 232 = .ok (.imul, 1) := by decide +kernel
theorem dX10_lock_233 : decode cX10_lock 233 = .ok (.iconst 3, 1) := by decide +kernel
theorem dX10_lock_234 : decode cX10_lock 234 = .ok (.iadd, 1) := by decide +kernel
theorem dX10_lock_235 : decode cX10_lock 235 = .ok (.lload 8, 2) := by decide +kernel
theorem dX10_lock_237 : decode cX10_lock 237 = .ok (.lastore, 1) := by decide +kernel
theorem dX10_lock_238 : decode cX10_lock 238 = .ok (.aload_n 0, 1) := by decide +kernel
theorem dX10_lock_239 : decode cX10_lock 239 = .ok (.dup, 1) := by decide +kernel
theorem dX10_lock_240 : decode cX10_lock 240 = .ok (.getfield 100, 3) := by decide +kernel
theorem dX10_lock_243 : decode cX10_lock 243 = .ok (.iconst 1, 1) := by decide +kernel
theorem dX10_lock_244 : decode cX10_lock 244 = .ok (.iadd, 1) := by decide +kernel
theorem dX10_lock_245 : decode cX10_lock 245 = .ok (.putfield 100, 3) := by decide +kernel
theorem dX10_lock_248 : decode cX10_lock 248 = .ok (.iconst 1, 1) := by decide +kernel
theorem dX10_lock_249 : decode cX10_lock 249 = .ok (.ireturn, 1) := by decide +kernel
theorem dX10_apart_0 : decode cX10_apart 0 = .ok (.aload_n 0, 1) := by decide +kernel
theorem dX10_apart_1 : decode cX10_apart 1 = .ok (.aload_n 0, 1) := by decide +kernel
theorem dX10_apart_2 : decode cX10_apart 2 = .ok (.iload_n 1, 1) := by decide +kernel
theorem dX10_apart_3 : decode cX10_apart 3 = .ok (.invokevirtual 114, 3) := by decide +kernel
theorem dX10_apart_6 : decode cX10_apart 6 = .ok (.ifCond .eq 11, 3) := by decide +kernel
theorem dX10_apart_9 : decode cX10_apart 9 = .ok (.aload_n 0, 1) := by decide +kernel
theorem dX10_apart_10 : decode cX10_apart 10 = .ok (.iload_n 2, 1) := by decide +kernel
theorem dX10_apart_11 : decode cX10_apart 11 = .ok (.invokevirtual 114, 3) := by decide +kernel
theorem dX10_apart_14 : decode cX10_apart 14 = .ok (.ifCond .ne 7, 3) := by decide +kernel
theorem dX10_apart_17 : decode cX10_apart 17 = .ok (.iconst 1, 1) := by decide +kernel
theorem dX10_apart_18 : decode cX10_apart 18 = .ok (.goto 22, 3) := by decide +kernel
theorem dX10_apart_21 : decode cX10_apart 21 = .ok (.lload_n 3, 1) := by decide +kernel
theorem dX10_apart_22 : decode cX10_apart 22 = .ok (.lconst 0, 1) := by decide +kernel
theorem dX10_apart_23 : decode cX10_apart 23 = .ok (.lcmp, 1) := by decide +kernel
theorem dX10_apart_24 : decode cX10_apart 24 = .ok (.ifCond .lt 11, 3) := by decide +kernel
theorem dX10_apart_27 : decode cX10_apart 27 = .ok (.lload_n 3, 1) := by decide +kernel
theorem dX10_apart_28 : decode cX10_apart 28 = .ok (.ldc2_w 201, 3) := by decide +kernel
theorem dX10_apart_31 : decode cX10_apart 31 = .ok (.lcmp, 1) := by decide +kernel
theorem dX10_apart_32 : decode cX10_apart 32 = .ok (.ifCond .le 7, 3) := by decide +kernel
theorem dX10_apart_35 : decode cX10_apart 35 = .ok (.iconst 2, 1) := by decide +kernel
theorem dX10_apart_36 : decode cX10_apart 36 = .ok (.goto 4, 3) := by decide +kernel
theorem dX10_apart_39 : decode cX10_apart 39 = .ok (.iconst 0, 1) := by decide +kernel
theorem dX10_apart_40 : decode cX10_apart 40 = .ok (.putfield 76, 3) := by decide +kernel
theorem dX10_apart_43 : decode cX10_apart 43 = .ok (.aload_n 0, 1) := by decide +kernel
theorem dX10_apart_44 : decode cX10_apart 44 = .ok (.getfield 76, 3) := by decide +kernel
theorem dX10_apart_47 : decode cX10_apart 47 = .ok (.ifCond .ne 17, 3) := by decide +kernel
theorem dX10_apart_50 : decode cX10_apart 50 = .ok (.iload_n 1, 1) := by decide +kernel
theorem dX10_apart_51 : decode cX10_apart 51 = .ok (.iload_n 2, 1) := by decide +kernel
theorem dX10_apart_52 : decode cX10_apart 52 = .ok (.if_icmp .eq 12, 3) := by decide +kernel
theorem dX10_apart_55 : decode cX10_apart 55 = .ok (.aload_n 0, 1) := by decide +kernel
theorem dX10_apart_56 : decode cX10_apart 56 = .ok (.getfield 203, 3) := by decide +kernel
theorem dX10_apart_59 : decode cX10_apart 59 = .ok (.bipush 20, 2) := by decide +kernel
theorem dX10_apart_61 : decode cX10_apart 61 = .ok (.if_icmp .ne 5, 3) := by decide +kernel
theorem dX10_apart_64 : decode cX10_apart 64 = .ok (.iconst 0, 1) := by decide +kernel
theorem dX10_apart_65 : decode cX10_apart 65 = .ok (.ireturn, 1) := by decide +kernel
theorem dX10_apart_66 : decode cX10_apart 66 = .ok (.aload_n 0, 1) := by decide +kernel
theorem dX10_apart_67 : decode cX10_apart 67 = .ok (.getfield 64, 3) := by decide +kernel
theorem dX10_apart_70 : decode cX10_apart 70 = .ok (.aload_n 0, 1) := by decide +kernel
theorem dX10_apart_71 : decode cX10_apart 71 = .ok (.getfield 203, 3) := by decide +kernel
theorem dX10_apart_74 : decode cX10_apart 74 = .ok (.iload_n 1, 1) := by decide +kernel
theorem dX10_apart_75 : decode cX10_apart 75 = .ok (.iastore, 1) := by decide +kernel
theorem dX10_apart_76 : decode cX10_apart 76 = .ok (.aload_n 0, 1) := by decide +kernel
theorem dX10_apart_77 : decode cX10_apart 77 = .ok (.getfield 67, 3) := by decide +kernel
theorem dX10_apart_80 : decode cX10_apart 80 = .ok (.aload_n 0, 1) := by decide +kernel
theorem dX10_apart_81 : decode cX10_apart 81 = .ok (.getfield 203, 3) := by decide +kernel
theorem dX10_apart_84 : decode cX10_apart 84 = .ok (.iload_n 2, 1) := by decide +kernel
theorem dX10_apart_85 : decode cX10_apart 85 = .ok (.iastore, 1) := by decide +kernel
theorem dX10_apart_86 : decode cX10_apart 86 = .ok (.aload_n 0, 1) := by decide +kernel
theorem dX10_apart_87 : decode cX10_apart 87 = .ok (.getfield 70, 3) := by decide +kernel
theorem dX10_apart_90 : decode cX10_apart 90 = .ok (.aload_n 0, 1) := by decide +kernel
theorem dX10_apart_91 : decode cX10_apart 91 = .ok (.getfield 203, 3) := by decide +kernel
theorem dX10_apart_94 : decode cX10_apart 94 = .ok (.lload_n 3, 1) := by decide +kernel
theorem dX10_apart_95 : decode cX10_apart 95 = .ok (.lastore, 1) := by decide +kernel
theorem dX10_apart_96 : decode cX10_apart 96 = .ok (.aload_n 0, 1) := by decide +kernel
theorem dX10_apart_97 : decode cX10_apart 97 = .ok (.dup, 1) := by decide +kernel
theorem dX10_apart_98 : decode cX10_apart 98 = .ok (.getfield 203, 3) := by decide +kernel
theorem dX10_apart_101 : decode cX10_apart 101 = .ok (.iconst 1, 1) := by decide +kernel
theorem dX10_apart_102 : decode cX10_apart 102 = .ok (.iadd, 1) := by decide +kernel
theorem dX10_apart_103 : decode cX10_apart 103 = .ok (.putfield 203, 3) := by decide +kernel
theorem dX10_apart_106 : decode cX10_apart 106 = .ok (.iconst 1, 1) := by decide +kernel
theorem dX10_apart_107 : decode cX10_apart 107 = .ok (.ireturn, 1) := by decide +kernel
theorem dX10_far_0 : decode cX10_far 0 = .ok (.lload_n 0, 1) := by decide +kernel
theorem dX10_far_1 : decode cX10_far 1 = .ok (.lload_n 2, 1) := by decide +kernel
theorem dX10_far_2 : decode cX10_far 2 = .ok (.lcmp, 1) := by decide +kernel
theorem dX10_far_3 : decode cX10_far 3 = .ok (.ifCond .ge 7, 3) := by decide +kernel
theorem dX10_far_6 : decode cX10_far 6 = .ok (.lload_n 0, 1) := by decide +kernel
theorem dX10_far_7 : decode cX10_far 7 = .ok (.goto 4, 3) := by decide +kernel
theorem dX10_far_10 : decode cX10_far 10 = .ok (.lload_n 2, 1) := by decide +kernel
theorem dX10_far_11 : decode cX10_far 11 = .ok (.lstore 4, 2) := by decide +kernel
theorem dX10_far_13 : decode cX10_far 13 = .ok (.lload_n 0, 1) := by decide +kernel
theorem dX10_far_14 : decode cX10_far 14 = .ok (.lload_n 2, 1) := by decide +kernel
theorem dX10_far_15 : decode cX10_far 15 = .ok (.lcmp, 1) := by decide +kernel
theorem dX10_far_16 : decode cX10_far 16 = .ok (.ifCond .ge 7, 3) := by decide +kernel
theorem dX10_far_19 : decode cX10_far 19 = .ok (.lload_n 2, 1) := by decide +kernel
theorem dX10_far_20 : decode cX10_far 20 = .ok (.goto 4, 3) := by decide +kernel
theorem dX10_far_23 : decode cX10_far 23 = .ok (.lload_n 0, 1) := by decide +kernel
theorem dX10_far_24 : decode cX10_far 24 = .ok (.lstore 6, 2) := by decide +kernel
theorem dX10_far_26 : decode cX10_far 26 = .ok (.lload 6, 2) := by decide +kernel
theorem dX10_far_28 : decode cX10_far 28 = .ok (.lload 4, 2) := by decide +kernel
theorem dX10_far_30 : decode cX10_far 30 = .ok (.lsub, 1) := by decide +kernel
theorem dX10_far_31 : decode cX10_far 31 = .ok (.lstore 8, 2) := by decide +kernel
theorem dX10_far_33 : decode cX10_far 33 = .ok (.lload 8, 2) := by decide +kernel
theorem dX10_far_35 : decode cX10_far 35 = .ok (.lconst 0, 1) := by decide +kernel
theorem dX10_far_36 : decode cX10_far 36 = .ok (.lcmp, 1) := by decide +kernel
theorem dX10_far_37 : decode cX10_far 37 = .ok (.ifCond .lt 12, 3) := by decide +kernel
theorem dX10_far_40 : decode cX10_far 40 = .ok (.lload 8, 2) := by decide +kernel
theorem dX10_far_42 : decode cX10_far 42 = .ok (.ldc2_w 206, 3) := by decide +kernel
theorem dX10_far_45 : decode cX10_far 45 = .ok (.lcmp, 1) := by decide +kernel
theorem dX10_far_46 : decode cX10_far 46 = .ok (.ifCond .le 9, 3) := by decide +kernel
theorem dX10_far_49 : decode cX10_far 49 = .ok (.ldc2_w 206, 3) := by decide +kernel
theorem dX10_far_52 : decode cX10_far 52 = .ok (.goto 5, 3) := by decide +kernel
theorem dX10_far_55 : decode cX10_far 55 = .ok (.lload 8, 2) := by decide +kernel
theorem dX10_far_57 : decode cX10_far 57 = .ok (.lreturn, 1) := by decide +kernel
theorem dX10_isBroken_0 : decode cX10_isBroken 0 = .ok (.aload_n 0, 1) := by decide +kernel
theorem dX10_isBroken_1 : decode cX10_isBroken 1 = .ok (.getfield 64, 3) := by decide +kernel
theorem dX10_isBroken_4 : decode cX10_isBroken 4 = .ok (.iload_n 1, 1) := by decide +kernel
theorem dX10_isBroken_5 : decode cX10_isBroken 5 = .ok (.iaload, 1) := by decide +kernel
theorem dX10_isBroken_6 : decode cX10_isBroken 6 = .ok (.istore_n 2, 1) := by decide +kernel
theorem dX10_isBroken_7 : decode cX10_isBroken 7 = .ok (.aload_n 0, 1) := by decide +kernel
theorem dX10_isBroken_8 : decode cX10_isBroken 8 = .ok (.getfield 67, 3) := by decide +kernel
theorem dX10_isBroken_11 : decode cX10_isBroken 11 = .ok (.iload_n 1, 1) := by decide +kernel
theorem dX10_isBroken_12 : decode cX10_isBroken 12 = .ok (.iaload, 1) := by decide +kernel
theorem dX10_isBroken_13 : decode cX10_isBroken 13 = .ok (.istore_n 3, 1) := by decide +kernel
theorem dX10_isBroken_14 : decode cX10_isBroken 14 = .ok (.aload_n 0, 1) := by decide +kernel
theorem dX10_isBroken_15 : decode cX10_isBroken 15 = .ok (.iload_n 2, 1) := by decide +kernel
theorem dX10_isBroken_16 : decode cX10_isBroken 16 = .ok (.invokevirtual 144, 3) := by decide +kernel
theorem dX10_isBroken_19 : decode cX10_isBroken 19 = .ok (.ifCond .eq 11, 3) := by decide +kernel
theorem dX10_isBroken_22 : decode cX10_isBroken 22 = .ok (.aload_n 0, 1) := by decide +kernel
theorem dX10_isBroken_23 : decode cX10_isBroken 23 = .ok (.iload_n 3, 1) := by decide +kernel
theorem dX10_isBroken_24 : decode cX10_isBroken 24 = .ok (.invokevirtual 144, 3) := by decide +kernel
theorem dX10_isBroken_27 : decode cX10_isBroken 27 = .ok (.ifCond .ne 5, 3) := by decide +kernel
theorem dX10_isBroken_30 : decode cX10_isBroken 30 = .ok (.iconst 0, 1) := by decide +kernel
theorem dX10_isBroken_31 : decode cX10_isBroken 31 = .ok (.ireturn, 1) := by decide +kernel
theorem dX10_isBroken_32 : decode cX10_isBroken 32 = .ok (.aload_n 0, 1) := by decide +kernel
theorem dX10_isBroken_33 : decode cX10_isBroken 33 = .ok (.iload_n 2, 1) := by decide +kernel
theorem dX10_isBroken_34 : decode cX10_isBroken 34 = .ok (.iconst 0, 1) := by decide +kernel
theorem dX10_isBroken_35 : decode cX10_isBroken 35 = .ok (.invokevirtual 124, 3) := by decide +kernel
theorem dX10_isBroken_38 : decode cX10_isBroken 38 = .ok (.aload_n 0, 1) := by decide +kernel
theorem dX10_isBroken_39 : decode cX10_isBroken 39 = .ok (.iload_n 3, 1) := by decide +kernel
theorem dX10_isBroken_40 : decode cX10_isBroken 40 = .ok (.iconst 0, 1) := by decide +kernel
theorem dX10_isBroken_41 : decode cX10_isBroken 41 = .ok (.invokevirtual 124, 3) := by decide +kernel
theorem dX10_isBroken_44 : decode cX10_isBroken 44 = .ok (.invokestatic 208, 3) := by decide +kernel
theorem dX10_isBroken_47 : decode cX10_isBroken 47 = .ok (.aload_n 0, 1) := by decide +kernel
theorem dX10_isBroken_48 : decode cX10_isBroken 48 = .ok (.iload_n 2, 1) := by decide +kernel
theorem dX10_isBroken_49 : decode cX10_isBroken 49 = .ok (.iconst 1, 1) := by decide +kernel
theorem dX10_isBroken_50 : decode cX10_isBroken 50 = .ok (.invokevirtual 124, 3) := by decide +kernel
theorem dX10_isBroken_53 : decode cX10_isBroken 53 = .ok (.aload_n 0, 1) := by decide +kernel
theorem dX10_isBroken_54 : decode cX10_isBroken 54 = .ok (.iload_n 3, 1) := by decide +kernel
theorem dX10_isBroken_55 : decode cX10_isBroken 55 = .ok (.iconst 1, 1) := by decide +kernel
theorem dX10_isBroken_56 : decode cX10_isBroken 56 = .ok (.invokevirtual 124, 3) := by decide +kernel
theorem dX10_isBroken_59 : decode cX10_isBroken 59 = .ok (.invokestatic 208, 3) := by decide +kernel
theorem dX10_isBroken_62 : decode cX10_isBroken 62 = .ok (.ladd, 1) := by decide +kernel
theorem dX10_isBroken_63 : decode cX10_isBroken 63 = .ok (.aload_n 0, 1) := by decide +kernel
theorem dX10_isBroken_64 : decode cX10_isBroken 64 = .ok (.getfield 70, 3) := by decide +kernel
theorem dX10_isBroken_67 : decode cX10_isBroken 67 = .ok (.iload_n 1, 1) := by decide +kernel
theorem dX10_isBroken_68 : decode cX10_isBroken 68 = .ok (.laload, 1) := by decide +kernel
theorem dX10_isBroken_69 : decode cX10_isBroken 69 = .ok (.lcmp, 1) := by decide +kernel
theorem dX10_isBroken_70 : decode cX10_isBroken 70 = .ok (.ifCond .ge 7, 3) := by decide +kernel
theorem dX10_isBroken_73 : decode cX10_isBroken 73 = .ok (.iconst 1, 1) := by decide +kernel
theorem dX10_isBroken_74 : decode cX10_isBroken 74 = .ok (.goto 4, 3) := by decide +kernel
theorem dX10_isBroken_77 : decode cX10_isBroken 77 = .ok (.iconst 0, 1) := by decide +kernel
theorem dX10_isBroken_78 : decode cX10_isBroken 78 = .ok (.ireturn, 1) := by decide +kernel
theorem dX10_violation_0 : decode cX10_violation 0 = .ok (.aload_n 0, 1) := by decide +kernel
theorem dX10_violation_1 : decode cX10_violation 1 = .ok (.iload_n 2, 1) := by decide +kernel
theorem dX10_violation_2 : decode cX10_violation 2 = .ok (.ifCond .eq 8, 3) := by decide +kernel
theorem dX10_violation_5 : decode cX10_violation 5 = .ok (.iload_n 2, 1) := by decide +kernel
theorem dX10_violation_6 : decode cX10_violation 6 = .ok (.iconst 1, 1) := by decide +kernel
theorem dX10_violation_7 : decode cX10_violation 7 = .ok (.if_icmp .ne 7, 3) := by decide +kernel
theorem dX10_violation_10 : decode cX10_violation 10 = .ok (.iconst 0, 1) := by decide +kernel
theorem dX10_violation_11 : decode cX10_violation 11 = .ok (.goto 4, 3) := by decide +kernel
theorem dX10_violation_14 : decode cX10_violation 14 = .ok (.iconst 1, 1) := by decide +kernel
theorem dX10_violation_15 : decode cX10_violation 15 = .ok (.putfield 76, 3) := by decide +kernel
theorem dX10_violation_18 : decode cX10_violation 18 = .ok (.aload_n 0, 1) := by decide +kernel
theorem dX10_violation_19 : decode cX10_violation 19 = .ok (.getfield 76, 3) := by decide +kernel
theorem dX10_violation_22 : decode cX10_violation 22 = .ok (.ifCond .eq 5, 3) := by decide +kernel
theorem dX10_violation_25 : decode cX10_violation 25 = .ok (.iconst 0, 1) := by decide +kernel
theorem dX10_violation_26 : decode cX10_violation 26 = .ok (.ireturn, 1) := by decide +kernel
theorem dX10_violation_27 : decode cX10_violation 27 = .ok (.iload_n 1, 1) := by decide +kernel
theorem dX10_violation_28 : decode cX10_violation 28 = .ok (.istore_n 3, 1) := by decide +kernel
theorem dX10_violation_29 : decode cX10_violation 29 = .ok (.iconst 0, 1) := by decide +kernel
theorem dX10_violation_30 : decode cX10_violation 30 = .ok (.istore 4, 2) := by decide +kernel
theorem dX10_violation_32 : decode cX10_violation 32 = .ok (.iload 4, 2) := by decide +kernel
theorem dX10_violation_34 : decode cX10_violation 34 = .ok (.aload_n 0, 1) := by decide +kernel
theorem dX10_violation_35 : decode cX10_violation 35 = .ok (.getfield 203, 3) := by decide +kernel
theorem dX10_violation_38 : decode cX10_violation 38 = .ok (.if_icmp .ge 54, 3) := by decide +kernel
theorem dX10_violation_41 : decode cX10_violation 41 = .ok (.iload_n 1, 1) := by decide +kernel
theorem dX10_violation_42 : decode cX10_violation 42 = .ok (.ifCond .lt 50, 3) := by decide +kernel
theorem dX10_violation_45 : decode cX10_violation 45 = .ok (.aload_n 0, 1) := by decide +kernel
theorem dX10_violation_46 : decode cX10_violation 46 = .ok (.iload 4, 2) := by decide +kernel
theorem dX10_violation_48 : decode cX10_violation 48 = .ok (.invokevirtual 212, 3) := by decide +kernel
theorem dX10_violation_51 : decode cX10_violation 51 = .ok (.ifCond .ne 6, 3) := by decide +kernel
theorem dX10_violation_54 : decode cX10_violation 54 = .ok (.goto 32, 3) := by decide +kernel
theorem dX10_violation_57 : decode cX10_violation 57 = .ok (.iload_n 3, 1) := by decide +kernel
theorem dX10_violation_58 : decode cX10_violation 58 = .ok (.ifCond .ne 25, 3) := by decide +kernel
theorem dX10_violation_61 : decode cX10_violation 61 = .ok (.iload_n 2, 1) := by decide +kernel
theorem dX10_violation_62 : decode cX10_violation 62 = .ok (.ifCond .ne 13, 3) := by decide +kernel
theorem dX10_violation_65 : decode cX10_violation 65 = .ok (.aload_n 0, 1) := by decide +kernel
theorem dX10_violation_66 : decode cX10_violation 66 = .ok (.getfield 64, 3) := by decide +kernel
theorem dX10_violation_69 : decode cX10_violation 69 = .ok (.iload 4, 2) := by decide +kernel
theorem dX10_violation_71 : decode cX10_violation 71 = .ok (.iaload, 1) := by decide +kernel
theorem dX10_violation_72 : decode cX10_violation 72 = .ok (.goto 10, 3) := by decide +kernel
theorem dX10_violation_75 : decode cX10_violation 75 = .ok (.aload_n 0, 1) := by decide +kernel
theorem dX10_violation_76 : decode cX10_violation 76 = .ok (.getfield 67, 3) := by decide +kernel
theorem dX10_violation_79 : decode cX10_violation 79 = .ok (.iload 4, 2) := by decide +kernel
theorem dX10_violation_81 : decode cX10_violation 81 = .ok (.iaload, 1) := by decide +kernel
theorem dX10_violation_82 : decode cX10_violation 82 = .ok (.ireturn, 1) := by decide +kernel
theorem dX10_violation_83 : decode cX10_violation 83 = .ok (.iinc 3 (-1), 3) := by decide +kernel
theorem dX10_violation_86 : decode cX10_violation 86 = .ok (.iinc 4 1, 3) := by decide +kernel
theorem dX10_violation_89 : decode cX10_violation 89 = .ok (.goto (-57), 3) := by decide +kernel
theorem dX10_violation_92 : decode cX10_violation 92 = .ok (.iconst (-1), 1) := by decide +kernel
theorem dX10_violation_93 : decode cX10_violation 93 = .ok (.ireturn, 1) := by decide +kernel
