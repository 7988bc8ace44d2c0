theorem dAr_isBelow_0 : decode cAr_isBelow 0 = .ok (.iload_n 0, 1) := by decide +kernel
theorem dAr_isBelow_1 : decode cAr_isBelow 1 = .ok (.i2l, 1) := by decide +kernel
theorem dAr_isBelow_2 : decode cAr_isBelow 2 = .ok (.ldc2_w 9, 3) := by decide +kernel
theorem dAr_isBelow_5 : decode cAr_isBelow 5 = .ok (.land, 1) := by decide +kernel
theorem dAr_isBelow_6 : decode cAr_isBelow 6 = .ok (.iload_n 1, 1) := by decide +kernel
theorem dAr_isBelow_7 : decode cAr_isBelow 7 = .ok (.i2l, 1) := by decide +kernel
theorem dAr_isBelow_8 : decode cAr_isBelow 8 = .ok (.ldc2_w 9, 3) := by decide +kernel
theorem dAr_isBelow_11 : decode cAr_isBelow 11 = .ok (.land, 1) := by decide +kernel
theorem dAr_isBelow_12 : decode cAr_isBelow 12 = .ok (.lcmp, 1) := by decide +kernel
theorem dAr_isBelow_13 : decode cAr_isBelow 13 = .ok (.ifCond .ge 7, 3) := by decide +kernel
theorem dAr_isBelow_16 : decode cAr_isBelow 16 = .ok (.iconst 1, 1) := by decide +kernel
theorem dAr_isBelow_17 : decode cAr_isBelow 17 = .ok (.goto 4, 3) := by decide +kernel
theorem dAr_isBelow_20 : decode cAr_isBelow 20 = .ok (.iconst 0, 1) := by decide +kernel
theorem dAr_isBelow_21 : decode cAr_isBelow 21 = .ok (.ireturn, 1) := by decide +kernel
theorem dAr_plain_0 : decode cAr_plain 0 = .ok (.iload_n 0, 1) := by decide +kernel
theorem dAr_plain_1 : decode cAr_plain 1 = .ok (.tableswitch 94 0 6 #[43, 47, 54, 65, 79, 83, 90], 43) := by decide +kernel
theorem dAr_plain_44 : decode cAr_plain 44 = .ok (.iload_n 1, 1) := by decide +kernel
theorem dAr_plain_45 : decode cAr_plain 45 = .ok (.iload_n 2, 1) := by decide +kernel
theorem dAr_plain_46 : decode cAr_plain 46 = .ok (.iadd, 1) := by decide +kernel
theorem dAr_plain_47 : decode cAr_plain 47 = .ok (.ireturn, 1) := by decide +kernel
theorem dAr_plain_48 : decode cAr_plain 48 = .ok (.iload_n 1, 1) := by decide +kernel
theorem dAr_plain_49 : decode cAr_plain 49 = .ok (.iload_n 2, 1) := by decide +kernel
theorem dAr_plain_50 : decode cAr_plain 50 = .ok (.bipush 31, 2) := by decide +kernel
theorem dAr_plain_52 : decode cAr_plain 52 = .ok (.iand, 1) := by decide +kernel
theorem dAr_plain_53 : decode cAr_plain 53 = .ok (.ishl, 1) := by decide +kernel
theorem dAr_plain_54 : decode cAr_plain 54 = .ok (.ireturn, 1) := by decide +kernel
theorem dAr_plain_55 : decode cAr_plain 55 = .ok (.iload_n 1, 1) := by decide +kernel
theorem dAr_plain_56 : decode cAr_plain 56 = .ok (.iload_n 2, 1) := by decide +kernel
theorem dAr_plain_57 : decode cAr_plain 57 = .ok (.if_icmp .ge 7, 3) := by decide +kernel
theorem dAr_plain_60 : decode cAr_plain 60 = .ok (.iconst 1, 1) := by decide +kernel
theorem dAr_plain_61 : decode cAr_plain 61 = .ok (.goto 4, 3) := by decide +kernel
theorem dAr_plain_64 : decode cAr_plain 64 = .ok (.iconst 0, 1) := by decide +kernel
theorem dAr_plain_65 : decode cAr_plain 65 = .ok (.ireturn, 1) := by decide +kernel
theorem dAr_plain_66 : decode cAr_plain 66 = .ok (.iload_n 1, 1) := by decide +kernel
theorem dAr_plain_67 : decode cAr_plain 67 = .ok (.iload_n 2, 1) := by decide +kernel
theorem dAr_plain_68 : decode cAr_plain 68 = .ok (.invokestatic 11, 3) := by decide +kernel
theorem dAr_plain_71 : decode cAr_plain 71 = .ok (.ifCond .eq 7, 3) := by decide +kernel
theorem dAr_plain_74 : decode cAr_plain 74 = .ok (.iconst 1, 1) := by decide +kernel
theorem dAr_plain_75 : decode cAr_plain 75 = .ok (.goto 4, 3) := by decide +kernel
theorem dAr_plain_78 : decode cAr_plain 78 = .ok (.iconst 0, 1) := by decide +kernel
theorem dAr_plain_79 : decode cAr_plain 79 = .ok (.ireturn, 1) := by decide +kernel
theorem dAr_plain_80 : decode cAr_plain 80 = .ok (.iload_n 1, 1) := by decide +kernel
theorem dAr_plain_81 : decode cAr_plain 81 = .ok (.iload_n 2, 1) := by decide +kernel
theorem dAr_plain_82 : decode cAr_plain 82 = .ok (.ixor, 1) := by decide +kernel
theorem dAr_plain_83 : decode cAr_plain 83 = .ok (.ireturn, 1) := by decide +kernel
theorem dAr_plain_84 : decode cAr_plain 84 = .ok (.iload_n 1, 1) := by decide +kernel
theorem dAr_plain_85 : decode cAr_plain 85 = .ok (.iload_n 2, 1) := by decide +kernel
theorem dAr_plain_86 : decode cAr_plain 86 = .ok (.bipush 31, 2) := by decide +kernel
theorem dAr_plain_88 : decode cAr_plain 88 = .ok (.iand, 1) := by decide +kernel
theorem dAr_plain_89 : decode cAr_plain 89 = .ok (.iushr, 1) := by decide +kernel
theorem dAr_plain_90 : decode cAr_plain 90 = .ok (.ireturn, 1) := by decide +kernel
theorem dAr_plain_91 : decode cAr_plain 91 = .ok (.iload_n 1, 1) := by decide +kernel
theorem dAr_plain_92 : decode cAr_plain 92 = .ok (.iload_n 2, 1) := by decide +kernel
theorem dAr_plain_93 : decode cAr_plain 93 = .ok (.ior, 1) := by decide +kernel
theorem dAr_plain_94 : decode cAr_plain 94 = .ok (.ireturn, 1) := by decide +kernel
theorem dAr_plain_95 : decode cAr_plain 95 = .ok (.iload_n 1, 1) := by decide +kernel
theorem dAr_plain_96 : decode cAr_plain 96 = .ok (.iload_n 2, 1) := by decide +kernel
theorem dAr_plain_97 : decode cAr_plain 97 = .ok (.iand, 1) := by decide +kernel
theorem dAr_plain_98 : decode cAr_plain 98 = .ok (.ireturn, 1) := by decide +kernel
theorem dAr_multipliedOrDivided_0 : decode cAr_multipliedOrDivided 0 = .ok (.iload_n 0, 1) := by decide +kernel
theorem dAr_multipliedOrDivided_1 : decode cAr_multipliedOrDivided 1 = .ok (.tableswitch 124 0 6 #[43, 47, 57, 71, 89, 98, 115], 43) := by decide +kernel
theorem dAr_multipliedOrDivided_44 : decode cAr_multipliedOrDivided 44 = .ok (.iload_n 1, 1) := by decide +kernel
theorem dAr_multipliedOrDivided_45 : decode cAr_multipliedOrDivided 45 = .ok (.iload_n 2, 1) := by decide +kernel
theorem dAr_multipliedOrDivided_46 : decode cAr_multipliedOrDivided 46 = .ok (.imul, 1) := by decide +kernel
theorem dAr_multipliedOrDivided_47 : decode cAr_multipliedOrDivided 47 = .ok (.ireturn, 1) := by decide +kernel
theorem dAr_multipliedOrDivided_48 : decode cAr_multipliedOrDivided 48 = .ok (.iload_n 1, 1) := by decide +kernel
theorem dAr_multipliedOrDivided_49 : decode cAr_multipliedOrDivided 49 = .ok (.i2l, 1) := by decide +kernel
theorem dAr_multipliedOrDivided_50 : decode cAr_multipliedOrDivided 50 = .ok (.iload_n 2, 1) := by decide +kernel
theorem dAr_multipliedOrDivided_51 : decode cAr_multipliedOrDivided 51 = .ok (.i2l, 1) := by decide +kernel
theorem dAr_multipliedOrDivided_52 : decode cAr_multipliedOrDivided 52 = .ok (.lmul, 1) := by decide +kernel
theorem dAr_multipliedOrDivided_53 : decode cAr_multipliedOrDivided 53 = .ok (.bipush 32, 2) := by decide +kernel
theorem dAr_multipliedOrDivided_55 : decode cAr_multipliedOrDivided 55 = .ok (.lushr, 1) := by decide +kernel
theorem dAr_multipliedOrDivided_56 : decode cAr_multipliedOrDivided 56 = .ok (.l2i, 1) := by decide +kernel
theorem dAr_multipliedOrDivided_57 : decode cAr_multipliedOrDivided 57 = .ok (.ireturn, 1) := by decide +kernel
theorem dAr_multipliedOrDivided_58 : decode cAr_multipliedOrDivided 58 = .ok (.iload_n 1, 1) := by decide +kernel
theorem dAr_multipliedOrDivided_59 : decode cAr_multipliedOrDivided 59 = .ok (.i2l, 1) := by decide +kernel
theorem dAr_multipliedOrDivided_60 : decode cAr_multipliedOrDivided 60 = .ok (.iload_n 2, 1) := by decide +kernel
theorem dAr_multipliedOrDivided_61 : decode cAr_multipliedOrDivided 61 = .ok (.i2l, 1) := by decide +kernel
theorem dAr_multipliedOrDivided_62 : decode cAr_multipliedOrDivided 62 = .ok (.ldc2_w 9, 3) := by decide +kernel
theorem dAr_multipliedOrDivided_65 : decode cAr_multipliedOrDivided 65 = .ok (.land, 1) := by decide +kernel
theorem dAr_multipliedOrDivided_66 : decode cAr_multipliedOrDivided 66 = .ok (.lmul, 1) := by decide +kernel
theorem dAr_multipliedOrDivided_67 : decode cAr_multipliedOrDivided 67 = .ok (.bipush 32, 2) := by decide +kernel
theorem dAr_multipliedOrDivided_69 : decode cAr_multipliedOrDivided 69 = .ok (.lushr, 1) := by decide +kernel
theorem dAr_multipliedOrDivided_70 : decode cAr_multipliedOrDivided 70 = .ok (.l2i, 1) := by decide +kernel
theorem dAr_multipliedOrDivided_71 : decode cAr_multipliedOrDivided 71 = .ok (.ireturn, 1) := by decide +kernel
theorem dAr_multipliedOrDivided_72 : decode cAr_multipliedOrDivided 72 = .ok (.iload_n 1, 1) := by decide +kernel
theorem dAr_multipliedOrDivided_73 : decode cAr_multipliedOrDivided 73 = .ok (.i2l, 1) := by decide +kernel
theorem dAr_multipliedOrDivided_74 : decode cAr_multipliedOrDivided 74 = .ok (.ldc2_w 9, 3) := by decide +kernel
theorem dAr_multipliedOrDivided_77 : decode cAr_multipliedOrDivided 77 = .ok (.land, 1) := by decide +kernel
theorem dAr_multipliedOrDivided_78 : decode cAr_multipliedOrDivided 78 = .ok (.iload_n 2, 1) := by decide +kernel
theorem dAr_multipliedOrDivided_79 : decode cAr_multipliedOrDivided 79 = .ok (.i2l, 1) := by decide +kernel
theorem dAr_multipliedOrDivided_80 : decode cAr_multipliedOrDivided 80 = .ok (.ldc2_w 9, 3) := by decide +kernel
theorem dAr_multipliedOrDivided_83 : decode cAr_multipliedOrDivided 83 = .ok (.land, 1) := by decide +kernel
theorem dAr_multipliedOrDivided_84 : decode cAr_multipliedOrDivided 84 = .ok (.lmul, 1) := by decide +kernel
theorem dAr_multipliedOrDivided_85 : decode cAr_multipliedOrDivided 85 = .ok (.bipush 32, 2) := by decide +kernel
theorem dAr_multipliedOrDivided_87 : decode cAr_multipliedOrDivided 87 = .ok (.lushr, 1) := by decide +kernel
theorem dAr_multipliedOrDivided_88 : decode cAr_multipliedOrDivided 88 = .ok (.l2i, 1) := by decide +kernel
theorem dAr_multipliedOrDivided_89 : decode cAr_multipliedOrDivided 89 = .ok (.ireturn, 1) := by decide +kernel
theorem dAr_multipliedOrDivided_90 : decode cAr_multipliedOrDivided 90 = .ok (.iload_n 1, 1) := by decide +kernel
theorem dAr_multipliedOrDivided_91 : decode cAr_multipliedOrDivided 91 = .ok (.i2l, 1) := by decide +kernel
theorem dAr_multipliedOrDivided_92 : decode cAr_multipliedOrDivided 92 = .ok (.iload_n 2, 1) := by decide +kernel
theorem dAr_multipliedOrDivided_93 : decode cAr_multipliedOrDivided 93 = .ok (.i2l, 1) := by decide +kernel
theorem dAr_multipliedOrDivided_94 : decode cAr_multipliedOrDivided 94 = .ok (.invokestatic 15, 3) := by decide +kernel
theorem dAr_multipliedOrDivided_97 : decode cAr_multipliedOrDivided 97 = .ok (.l2i, 1) := by decide +kernel
theorem dAr_multipliedOrDivided_98 : decode cAr_multipliedOrDivided 98 = .ok (.ireturn, 1) := by decide +kernel
theorem dAr_multipliedOrDivided_99 : decode cAr_multipliedOrDivided 99 = .ok (.iload_n 1, 1) := by decide +kernel
theorem dAr_multipliedOrDivided_100 : decode cAr_multipliedOrDivided 100 = .ok (.i2l, 1) := by decide +kernel
theorem dAr_multipliedOrDivided_101 : decode cAr_multipliedOrDivided 101 = .ok (.ldc2_w 9, 3) := by decide +kernel
theorem dAr_multipliedOrDivided_104 : decode cAr_multipliedOrDivided 104 = .ok (.land, 1) := by decide +kernel
theorem dAr_multipliedOrDivided_105 : decode cAr_multipliedOrDivided 105 = .ok (.iload_n 2, 1) := by decide +kernel
theorem dAr_multipliedOrDivided_106 : decode cAr_multipliedOrDivided 106 = .ok (.i2l, 1) := by decide +kernel
theorem dAr_multipliedOrDivided_107 : decode cAr_multipliedOrDivided 107 = .ok (.ldc2_w 9, 3) := by decide +kernel
theorem dAr_multipliedOrDivided_110 : decode cAr_multipliedOrDivided 110 = .ok (.land, 1) := by decide +kernel
theorem dAr_multipliedOrDivided_111 : decode cAr_multipliedOrDivided 111 = .ok (.invokestatic 15, 3) := by decide +kernel
theorem dAr_multipliedOrDivided_114 : decode cAr_multipliedOrDivided 114 = .ok (.l2i, 1) := by decide +kernel
theorem dAr_multipliedOrDivided_115 : decode cAr_multipliedOrDivided 115 = .ok (.ireturn, 1) := by decide +kernel
theorem dAr_multipliedOrDivided_116 : decode cAr_multipliedOrDivided 116 = .ok (.iload_n 1, 1) := by decide +kernel
theorem dAr_multipliedOrDivided_117 : decode cAr_multipliedOrDivided 117 = .ok (.i2l, 1) := by decide +kernel
theorem dAr_multipliedOrDivided_118 : decode cAr_multipliedOrDivided 118 = .ok (.iload_n 2, 1) := by decide +kernel
theorem dAr_multipliedOrDivided_119 : decode cAr_multipliedOrDivided 119 = .ok (.i2l, 1) := by decide +kernel
theorem dAr_multipliedOrDivided_120 : decode cAr_multipliedOrDivided 120 = .ok (.invokestatic 19, 3) := by decide +kernel
theorem dAr_multipliedOrDivided_123 : decode cAr_multipliedOrDivided 123 = .ok (.l2i, 1) := by decide +kernel
theorem dAr_multipliedOrDivided_124 : decode cAr_multipliedOrDivided 124 = .ok (.ireturn, 1) := by decide +kernel
theorem dAr_multipliedOrDivided_125 : decode cAr_multipliedOrDivided 125 = .ok (.iload_n 1, 1) := by decide +kernel
theorem dAr_multipliedOrDivided_126 : decode cAr_multipliedOrDivided 126 = .ok (.i2l, 1) := by decide +kernel
theorem dAr_multipliedOrDivided_127 : decode cAr_multipliedOrDivided 127 = .ok (.ldc2_w 9, 3) := by decide +kernel
theorem dAr_multipliedOrDivided_130 : decode cAr_multipliedOrDivided 130 = .ok (.land, 1) := by decide +kernel
theorem dAr_multipliedOrDivided_131 : decode cAr_multipliedOrDivided 131 = .ok (.iload_n 2, 1) := by decide +kernel
theorem dAr_multipliedOrDivided_132 : decode cAr_multipliedOrDivided 132 = .ok (.i2l, 1) := by decide +kernel
theorem dAr_multipliedOrDivided_133 : decode cAr_multipliedOrDivided 133 = .ok (.ldc2_w 9, 3) := by decide +kernel
theorem dAr_multipliedOrDivided_136 : decode cAr_multipliedOrDivided 136 = .ok (.land, 1) := by decide +kernel
theorem dAr_multipliedOrDivided_137 : decode cAr_multipliedOrDivided 137 = .ok (.invokestatic 19, 3) := by decide +kernel
theorem dAr_multipliedOrDivided_140 : decode cAr_multipliedOrDivided 140 = .ok (.l2i, 1) := by decide +kernel
theorem dAr_multipliedOrDivided_141 : decode cAr_multipliedOrDivided 141 = .ok (.ireturn, 1) := by decide +kernel
theorem dAr_quotient_0 : decode cAr_quotient 0 = .ok (.lload_n 2, 1) := by decide +kernel
theorem dAr_quotient_1 : decode cAr_quotient 1 = .ok (.lconst 0, 1) := by decide +kernel
theorem dAr_quotient_2 : decode cAr_quotient 2 = .ok (.lcmp, 1) := by decide +kernel
theorem dAr_quotient_3 : decode cAr_quotient 3 = .ok (.ifCond .ne 9, 3) := by decide +kernel
theorem dAr_quotient_6 : decode cAr_quotient 6 = .ok (.ldc2_w 22, 3) := by decide +kernel
theorem dAr_quotient_9 : decode cAr_quotient 9 = .ok (.goto 6, 3) := by decide +kernel
theorem dAr_quotient_12 : decode cAr_quotient 12 = .ok (.lload_n 0, 1) := by decide +kernel
theorem dAr_quotient_13 : decode cAr_quotient 13 = .ok (.lload_n 2, 1) := by decide +kernel
theorem dAr_quotient_14 : decode cAr_quotient 14 = .ok (.ldiv, 1) := by decide +kernel
theorem dAr_quotient_15 : decode cAr_quotient 15 = .ok (.lreturn, 1) := by decide +kernel
theorem dAr_remainder_0 : decode cAr_remainder 0 = .ok (.lload_n 2, 1) := by decide +kernel
theorem dAr_remainder_1 : decode cAr_remainder 1 = .ok (.lconst 0, 1) := by decide +kernel
theorem dAr_remainder_2 : decode cAr_remainder 2 = .ok (.lcmp, 1) := by decide +kernel
theorem dAr_remainder_3 : decode cAr_remainder 3 = .ok (.ifCond .ne 7, 3) := by decide +kernel
theorem dAr_remainder_6 : decode cAr_remainder 6 = .ok (.lload_n 0, 1) := by decide +kernel
theorem dAr_remainder_7 : decode cAr_remainder 7 = .ok (.goto 6, 3) := by decide +kernel
theorem dAr_remainder_10 : decode cAr_remainder 10 = .ok (.lload_n 0, 1) := by decide +kernel
theorem dAr_remainder_11 : decode cAr_remainder 11 = .ok (.lload_n 2, 1) := by decide +kernel
theorem dAr_remainder_12 : decode cAr_remainder 12 = .ok (.lrem, 1) := by decide +kernel
theorem dAr_remainder_13 : decode cAr_remainder 13 = .ok (.lreturn, 1) := by decide +kernel
theorem dAr_ofTwoNear_0 : decode cAr_ofTwoNear 0 = .ok (.iload_n 0, 1) := by decide +kernel
theorem dAr_ofTwoNear_1 : decode cAr_ofTwoNear 1 = .ok (.tableswitch 39 0 2 #[27, 31, 35], 27) := by decide +kernel
theorem dAr_ofTwoNear_28 : decode cAr_ofTwoNear 28 = .ok (.iload_n 1, 1) := by decide +kernel
theorem dAr_ofTwoNear_29 : decode cAr_ofTwoNear 29 = .ok (.iload_n 2, 1) := by decide +kernel
theorem dAr_ofTwoNear_30 : decode cAr_ofTwoNear 30 = .ok (.isub, 1) := by decide +kernel
theorem dAr_ofTwoNear_31 : decode cAr_ofTwoNear 31 = .ok (.ireturn, 1) := by decide +kernel
theorem dAr_ofTwoNear_32 : decode cAr_ofTwoNear 32 = .ok (.iload_n 1, 1) := by decide +kernel
theorem dAr_ofTwoNear_33 : decode cAr_ofTwoNear 33 = .ok (.iload_n 2, 1) := by decide +kernel
theorem dAr_ofTwoNear_34 : decode cAr_ofTwoNear 34 = .ok (.ixor, 1) := by decide +kernel
theorem dAr_ofTwoNear_35 : decode cAr_ofTwoNear 35 = .ok (.ireturn, 1) := by decide +kernel
theorem dAr_ofTwoNear_36 : decode cAr_ofTwoNear 36 = .ok (.iload_n 1, 1) := by decide +kernel
theorem dAr_ofTwoNear_37 : decode cAr_ofTwoNear 37 = .ok (.iload_n 2, 1) := by decide +kernel
theorem dAr_ofTwoNear_38 : decode cAr_ofTwoNear 38 = .ok (.ior, 1) := by decide +kernel
theorem dAr_ofTwoNear_39 : decode cAr_ofTwoNear 39 = .ok (.ireturn, 1) := by decide +kernel
theorem dAr_ofTwoNear_40 : decode cAr_ofTwoNear 40 = .ok (.iload_n 1, 1) := by decide +kernel
theorem dAr_ofTwoNear_41 : decode cAr_ofTwoNear 41 = .ok (.iload_n 2, 1) := by decide +kernel
theorem dAr_ofTwoNear_42 : decode cAr_ofTwoNear 42 = .ok (.iand, 1) := by decide +kernel
theorem dAr_ofTwoNear_43 : decode cAr_ofTwoNear 43 = .ok (.ireturn, 1) := by decide +kernel
theorem dAr_changed_0 : decode cAr_changed 0 = .ok (.iload_n 0, 1) := by decide +kernel
theorem dAr_changed_1 : decode cAr_changed 1 = .ok (.tableswitch 169 0 24 #[115, 119, 169, 169, 121, 169, 169, 169, 125, 169, 169, 169, 129, 169, 169, 169, 133, 169, 169, 169, 144, 169, 169, 169, 155], 115) := by decide +kernel
theorem dAr_changed_116 : decode cAr_changed 116 = .ok (.iload_n 1, 1) := by decide +kernel
theorem dAr_changed_117 : decode cAr_changed 117 = .ok (.iload_n 2, 1) := by decide +kernel
theorem dAr_changed_118 : decode cAr_changed 118 = .ok (.iadd, 1) := by decide +kernel
theorem dAr_changed_119 : decode cAr_changed 119 = .ok (.ireturn, 1) := by decide +kernel
theorem dAr_changed_120 : decode cAr_changed 120 = .ok (.iload_n 2, 1) := by decide +kernel
theorem dAr_changed_121 : decode cAr_changed 121 = .ok (.ireturn, 1) := by decide +kernel
theorem dAr_changed_122 : decode cAr_changed 122 = .ok (.iload_n 1, 1) := by decide +kernel
theorem dAr_changed_123 : decode cAr_changed 123 = .ok (.iload_n 2, 1) := by decide +kernel
theorem dAr_changed_124 : decode cAr_changed 124 = .ok (.ixor, 1) := by decide +kernel
theorem dAr_changed_125 : decode cAr_changed 125 = .ok (.ireturn, 1) := by decide +kernel
theorem dAr_changed_126 : decode cAr_changed 126 = .ok (.iload_n 1, 1) := by decide +kernel
theorem dAr_changed_127 : decode cAr_changed 127 = .ok (.iload_n 2, 1) := by decide +kernel
theorem dAr_changed_128 : decode cAr_changed 128 = .ok (.ior, 1) := by decide +kernel
theorem dAr_changed_129 : decode cAr_changed 129 = .ok (.ireturn, 1) := by decide +kernel
theorem dAr_changed_130 : decode cAr_changed 130 = .ok (.iload_n 1, 1) := by decide +kernel
theorem dAr_changed_131 : decode cAr_changed 131 = .ok (.iload_n 2, 1) := by decide +kernel
theorem dAr_changed_132 : decode cAr_changed 132 = .ok (.iand, 1) := by decide +kernel
theorem dAr_changed_133 : decode cAr_changed 133 = .ok (.ireturn, 1) := by decide +kernel
theorem dAr_changed_134 : decode cAr_changed 134 = .ok (.iload_n 1, 1) := by decide +kernel
theorem dAr_changed_135 : decode cAr_changed 135 = .ok (.iload_n 2, 1) := by decide +kernel
theorem dAr_changed_136 : decode cAr_changed 136 = .ok (.if_icmp .ge 7, 3) := by decide +kernel
theorem dAr_changed_139 : decode cAr_changed 139 = .ok (.iload_n 1, 1) := by decide +kernel
theorem dAr_changed_140 : decode cAr_changed 140 = .ok (.goto 4, 3) := by decide +kernel
theorem dAr_changed_143 : decode cAr_changed 143 = .ok (.iload_n 2, 1) := by decide +kernel
theorem dAr_changed_144 : decode cAr_changed 144 = .ok (.ireturn, 1) := by decide +kernel
theorem dAr_changed_145 : decode cAr_changed 145 = .ok (.iload_n 1, 1) := by decide +kernel
theorem dAr_changed_146 : decode cAr_changed 146 = .ok (.iload_n 2, 1) := by decide +kernel
theorem dAr_changed_147 : decode cAr_changed 147 = .ok (.if_icmp .ge 7, 3) := by decide +kernel
theorem dAr_changed_150 : decode cAr_changed 150 = .ok (.iload_n 2, 1) := by decide +kernel
theorem dAr_changed_151 : decode cAr_changed 151 = .ok (.goto 4, 3) := by decide +kernel
theorem dAr_changed_154 : decode cAr_changed 154 = .ok (.iload_n 1, 1) := by decide +kernel
theorem dAr_changed_155 : decode cAr_changed 155 = .ok (.ireturn, 1) := by decide +kernel
theorem dAr_changed_156 : decode cAr_changed 156 = .ok (.iload_n 1, 1) := by decide +kernel
theorem dAr_changed_157 : decode cAr_changed 157 = .ok (.iload_n 2, 1) := by decide +kernel
theorem dAr_changed_158 : decode cAr_changed 158 = .ok (.invokestatic 11, 3) := by decide +kernel
theorem dAr_changed_161 : decode cAr_changed 161 = .ok (.ifCond .eq 7, 3) := by decide +kernel
theorem dAr_changed_164 : decode cAr_changed 164 = .ok (.iload_n 1, 1) := by decide +kernel
theorem dAr_changed_165 : decode cAr_changed 165 = .ok (.goto 4, 3) := by decide +kernel
theorem dAr_changed_168 : decode cAr_changed 168 = .ok (.iload_n 2, 1) := by decide +kernel
theorem dAr_changed_169 : decode cAr_changed 169 = .ok (.ireturn, 1) := by decide +kernel
theorem dAr_changed_170 : decode cAr_changed 170 = .ok (.iload_n 1, 1) := by decide +kernel
theorem dAr_changed_171 : decode cAr_changed 171 = .ok (.iload_n 2, 1) := by decide +kernel
theorem dAr_changed_172 : decode cAr_changed 172 = .ok (.invokestatic 11, 3) := by decide +kernel
theorem dAr_changed_175 : decode cAr_changed 175 = .ok (.ifCond .eq 7, 3) := by decide +kernel
theorem dAr_changed_178 : decode cAr_changed 178 = .ok (.iload_n 2, 1) := by decide +kernel
theorem dAr_changed_179 : decode cAr_changed 179 = .ok (.goto 4, 3) := by decide +kernel
theorem dAr_changed_182 : decode cAr_changed 182 = .ok (.iload_n 1, 1) := by decide +kernel
theorem dAr_changed_183 : decode cAr_changed 183 = .ok (.ireturn, 1) := by decide +kernel
theorem dBits_part_0 : decode cBits_part 0 = .ok (.iload_n 0, 1) := by decide +kernel
theorem dBits_part_1 : decode cBits_part 1 = .ok (.iload_n 1, 1) := by decide +kernel
theorem dBits_part_2 : decode cBits_part 2 = .ok (.iushr, 1) := by decide +kernel
theorem dBits_part_3 : decode cBits_part 3 = .ok (.iconst 1, 1) := by decide +kernel
theorem dBits_part_4 : decode cBits_part 4 = .ok (.iload_n 2, 1) := by decide +kernel
theorem dBits_part_5 : decode cBits_part 5 = .ok (.ishl, 1) := by decide +kernel
theorem dBits_part_6 : decode cBits_part 6 = .ok (.iconst 1, 1) := by decide +kernel
theorem dBits_part_7 : decode cBits_part 7 = .ok (.isub, 1) := by decide +kernel
theorem dBits_part_8 : decode cBits_part 8 = .ok (.iand, 1) := by decide +kernel
theorem dBits_part_9 : decode cBits_part 9 = .ok (.ireturn, 1) := by decide +kernel
theorem dBits_signed_0 : decode cBits_signed 0 = .ok (.iload_n 0, 1) := by decide +kernel
theorem dBits_signed_1 : decode cBits_signed 1 = .ok (.bipush 32, 2) := by decide +kernel
theorem dBits_signed_3 : decode cBits_signed 3 = .ok (.iload_n 1, 1) := by decide +kernel
theorem dBits_signed_4 : decode cBits_signed 4 = .ok (.isub, 1) := by decide +kernel
theorem dBits_signed_5 : decode cBits_signed 5 = .ok (.ishl, 1) := by decide +kernel
theorem dBits_signed_6 : decode cBits_signed 6 = .ok (.bipush 32, 2) := by decide +kernel
theorem dBits_signed_8 : decode cBits_signed 8 = .ok (.iload_n 1, 1) := by decide +kernel
theorem dBits_signed_9 : decode cBits_signed 9 = .ok (.isub, 1) := by decide +kernel
theorem dBits_signed_10 : decode cBits_signed 10 = .ok (.ishr, 1) := by decide +kernel
theorem dBits_signed_11 : decode cBits_signed 11 = .ok (.ireturn, 1) := by decide +kernel
theorem dLF_d_0 : decode cLF_d 0 = .ok (.iload_n 0, 1) := by decide +kernel
theorem dLF_d_1 : decode cLF_d 1 = .ok (.bipush 7, 2) := by decide +kernel
theorem dLF_d_3 : decode cLF_d 3 = .ok (.iconst 5, 1) := by decide +kernel
theorem dLF_d_4 : decode cLF_d 4 = .ok (.invokestatic 9, 3) := by decide +kernel
theorem dLF_d_7 : decode cLF_d 7 = .ok (.ireturn, 1) := by decide +kernel
theorem dLF_f_0 : decode cLF_f 0 = .ok (.iload_n 0, 1) := by decide +kernel
theorem dLF_f_1 : decode cLF_f 1 = .ok (.bipush 12, 2) := by decide +kernel
theorem dLF_f_3 : decode cLF_f 3 = .ok (.iconst 3, 1) := by decide +kernel
theorem dLF_f_4 : decode cLF_f 4 = .ok (.invokestatic 9, 3) := by decide +kernel
theorem dLF_f_7 : decode cLF_f 7 = .ok (.ireturn, 1) := by decide +kernel
theorem dLF_a_0 : decode cLF_a 0 = .ok (.iload_n 0, 1) := by decide +kernel
theorem dLF_a_1 : decode cLF_a 1 = .ok (.bipush 15, 2) := by decide +kernel
theorem dLF_a_3 : decode cLF_a 3 = .ok (.iconst 5, 1) := by decide +kernel
theorem dLF_a_4 : decode cLF_a 4 = .ok (.invokestatic 9, 3) := by decide +kernel
theorem dLF_a_7 : decode cLF_a 7 = .ok (.ireturn, 1) := by decide +kernel
theorem dLF_b_0 : decode cLF_b 0 = .ok (.iload_n 0, 1) := by decide +kernel
theorem dLF_b_1 : decode cLF_b 1 = .ok (.bipush 20, 2) := by decide +kernel
theorem dLF_b_3 : decode cLF_b 3 = .ok (.iconst 5, 1) := by decide +kernel
theorem dLF_b_4 : decode cLF_b 4 = .ok (.invokestatic 9, 3) := by decide +kernel
theorem dLF_b_7 : decode cLF_b 7 = .ok (.ireturn, 1) := by decide +kernel
theorem dLF_g_0 : decode cLF_g 0 = .ok (.iload_n 0, 1) := by decide +kernel
theorem dLF_g_1 : decode cLF_g 1 = .ok (.bipush 25, 2) := by decide +kernel
theorem dLF_g_3 : decode cLF_g 3 = .ok (.bipush 7, 2) := by decide +kernel
theorem dLF_g_5 : decode cLF_g 5 = .ok (.invokestatic 9, 3) := by decide +kernel
theorem dLF_g_8 : decode cLF_g 8 = .ok (.ireturn, 1) := by decide +kernel
theorem dLF_k_0 : decode cLF_k 0 = .ok (.iload_n 0, 1) := by decide +kernel
theorem dLF_k_1 : decode cLF_k 1 = .ok (.bipush 27, 2) := by decide +kernel
theorem dLF_k_3 : decode cLF_k 3 = .ok (.iconst 5, 1) := by decide +kernel
theorem dLF_k_4 : decode cLF_k 4 = .ok (.invokestatic 9, 3) := by decide +kernel
theorem dLF_k_7 : decode cLF_k 7 = .ok (.ireturn, 1) := by decide +kernel
theorem dLF_numberI_0 : decode cLF_numberI 0 = .ok (.iload_n 0, 1) := by decide +kernel
theorem dLF_numberI_1 : decode cLF_numberI 1 = .ok (.bipush 20, 2) := by decide +kernel
theorem dLF_numberI_3 : decode cLF_numberI 3 = .ok (.ishr, 1) := by decide +kernel
theorem dLF_numberI_4 : decode cLF_numberI 4 = .ok (.ireturn, 1) := by decide +kernel
theorem dLF_numberS_0 : decode cLF_numberS 0 = .ok (.iload_n 0, 1) := by decide +kernel
theorem dLF_numberS_1 : decode cLF_numberS 1 = .ok (.invokestatic 15, 3) := by decide +kernel
theorem dLF_numberS_4 : decode cLF_numberS 4 = .ok (.iconst 5, 1) := by decide +kernel
theorem dLF_numberS_5 : decode cLF_numberS 5 = .ok (.ishl, 1) := by decide +kernel
theorem dLF_numberS_6 : decode cLF_numberS 6 = .ok (.iload_n 0, 1) := by decide +kernel
theorem dLF_numberS_7 : decode cLF_numberS 7 = .ok (.invokestatic 21, 3) := by decide +kernel
theorem dLF_numberS_10 : decode cLF_numberS 10 = .ok (.ior, 1) := by decide +kernel
theorem dLF_numberS_11 : decode cLF_numberS 11 = .ok (.bipush 12, 2) := by decide +kernel
theorem dLF_numberS_13 : decode cLF_numberS 13 = .ok (.invokestatic 24, 3) := by decide +kernel
theorem dLF_numberS_16 : decode cLF_numberS 16 = .ok (.ireturn, 1) := by decide +kernel
theorem dLF_upperNumber_0 : decode cLF_upperNumber 0 = .ok (.iload_n 0, 1) := by decide +kernel
theorem dLF_upperNumber_1 : decode cLF_upperNumber 1 = .ok (.sipush (-4096), 3) := by decide +kernel
theorem dLF_upperNumber_4 : decode cLF_upperNumber 4 = .ok (.iand, 1) := by decide +kernel
theorem dLF_upperNumber_5 : decode cLF_upperNumber 5 = .ok (.ireturn, 1) := by decide +kernel
theorem dLF_offsetJ_0 : decode cLF_offsetJ 0 = .ok (.iload_n 0, 1) := by decide +kernel
theorem dLF_offsetJ_1 : decode cLF_offsetJ 1 = .ok (.bipush 31, 2) := by decide +kernel
theorem dLF_offsetJ_3 : decode cLF_offsetJ 3 = .ok (.iconst 1, 1) := by decide +kernel
theorem dLF_offsetJ_4 : decode cLF_offsetJ 4 = .ok (.invokestatic 9, 3) := by decide +kernel
theorem dLF_offsetJ_7 : decode cLF_offsetJ 7 = .ok (.bipush 20, 2) := by decide +kernel
theorem dLF_offsetJ_9 : decode cLF_offsetJ 9 = .ok (.ishl, 1) := by decide +kernel
theorem dLF_offsetJ_10 : decode cLF_offsetJ 10 = .ok (.iload_n 0, 1) := by decide +kernel
theorem dLF_offsetJ_11 : decode cLF_offsetJ 11 = .ok (.bipush 12, 2) := by decide +kernel
theorem dLF_offsetJ_13 : decode cLF_offsetJ 13 = .ok (.bipush 8, 2) := by decide +kernel
theorem dLF_offsetJ_15 : decode cLF_offsetJ 15 = .ok (.invokestatic 9, 3) := by decide +kernel
theorem dLF_offsetJ_18 : decode cLF_offsetJ 18 = .ok (.bipush 12, 2) := by decide +kernel
theorem dLF_offsetJ_20 : decode cLF_offsetJ 20 = .ok (.ishl, 1) := by decide +kernel
theorem dLF_offsetJ_21 : decode cLF_offsetJ 21 = .ok (.ior, 1) := by decide +kernel
theorem dLF_offsetJ_22 : decode cLF_offsetJ 22 = .ok (.iload_n 0, 1) := by decide +kernel
theorem dLF_offsetJ_23 : decode cLF_offsetJ 23 = .ok (.bipush 20, 2) := by decide +kernel
theorem dLF_offsetJ_25 : decode cLF_offsetJ 25 = .ok (.iconst 1, 1) := by decide +kernel
theorem dLF_offsetJ_26 : decode cLF_offsetJ 26 = .ok (.invokestatic 9, 3) := by decide +kernel
theorem dLF_offsetJ_29 : decode cLF_offsetJ 29 = .ok (.bipush 11, 2) := by decide +kernel
theorem dLF_offsetJ_31 : decode cLF_offsetJ 31 = .ok (.ishl, 1) := by decide +kernel
theorem dLF_offsetJ_32 : decode cLF_offsetJ 32 = .ok (.ior, 1) := by decide +kernel
theorem dLF_offsetJ_33 : decode cLF_offsetJ 33 = .ok (.iload_n 0, 1) := by decide +kernel
theorem dLF_offsetJ_34 : decode cLF_offsetJ 34 = .ok (.bipush 21, 2) := by decide +kernel
theorem dLF_offsetJ_36 : decode cLF_offsetJ 36 = .ok (.bipush 10, 2) := by decide +kernel
theorem dLF_offsetJ_38 : decode cLF_offsetJ 38 = .ok (.invokestatic 9, 3) := by decide +kernel
theorem dLF_offsetJ_41 : decode cLF_offsetJ 41 = .ok (.iconst 1, 1) := by decide +kernel
theorem dLF_offsetJ_42 : decode cLF_offsetJ 42 = .ok (.ishl, 1) := by decide +kernel
theorem dLF_offsetJ_43 : decode cLF_offsetJ 43 = .ok (.ior, 1) := by decide +kernel
theorem dLF_offsetJ_44 : decode cLF_offsetJ 44 = .ok (.istore_n 1, 1) := by decide +kernel
theorem dLF_offsetJ_45 : decode cLF_offsetJ 45 = .ok (.iload_n 1, 1) := by decide +kernel
theorem dLF_offsetJ_46 : decode cLF_offsetJ 46 = .ok (.bipush 21, 2) := by decide +kernel
theorem dLF_offsetJ_48 : decode cLF_offsetJ 48 = .ok (.invokestatic 24, 3) := by decide +kernel
theorem dLF_offsetJ_51 : decode cLF_offsetJ 51 = .ok (.ireturn, 1) := by decide +kernel
theorem dLF_offsetT_0 : decode cLF_offsetT 0 = .ok (.iload_n 0, 1) := by decide +kernel
theorem dLF_offsetT_1 : decode cLF_offsetT 1 = .ok (.bipush 31, 2) := by decide +kernel
theorem dLF_offsetT_3 : decode cLF_offsetT 3 = .ok (.iconst 1, 1) := by decide +kernel
theorem dLF_offsetT_4 : decode cLF_offsetT 4 = .ok (.invokestatic 9, 3) := by decide +kernel
theorem dLF_offsetT_7 : decode cLF_offsetT 7 = .ok (.bipush 12, 2) := by decide +kernel
theorem dLF_offsetT_9 : decode cLF_offsetT 9 = .ok (.ishl, 1) := by decide +kernel
theorem dLF_offsetT_10 : decode cLF_offsetT 10 = .ok (.iload_n 0, 1) := by decide +kernel
theorem dLF_offsetT_11 : decode cLF_offsetT 11 = .ok (.bipush 7, 2) := by decide +kernel
theorem dLF_offsetT_13 : decode cLF_offsetT 13 = .ok (.iconst 1, 1) := by decide +kernel
theorem dLF_offsetT_14 : decode cLF_offsetT 14 = .ok (.invokestatic 9, 3) := by decide +kernel
theorem dLF_offsetT_17 : decode cLF_offsetT 17 = .ok (.bipush 11, 2) := by decide +kernel
theorem dLF_offsetT_19 : decode cLF_offsetT 19 = .ok (.ishl, 1) := by decide +kernel
theorem dLF_offsetT_20 : decode cLF_offsetT 20 = .ok (.ior, 1) := by decide +kernel
theorem dLF_offsetT_21 : decode cLF_offsetT 21 = .ok (.iload_n 0, 1) := by decide +kernel
theorem dLF_offsetT_22 : decode cLF_offsetT 22 = .ok (.bipush 25, 2) := by decide +kernel
theorem dLF_offsetT_24 : decode cLF_offsetT 24 = .ok (.bipush 6, 2) := by decide +kernel
theorem dLF_offsetT_26 : decode cLF_offsetT 26 = .ok (.invokestatic 9, 3) := by decide +kernel
theorem dLF_offsetT_29 : decode cLF_offsetT 29 = .ok (.iconst 5, 1) := by decide +kernel
theorem dLF_offsetT_30 : decode cLF_offsetT 30 = .ok (.ishl, 1) := by decide +kernel
theorem dLF_offsetT_31 : decode cLF_offsetT 31 = .ok (.ior, 1) := by decide +kernel
theorem dLF_offsetT_32 : decode cLF_offsetT 32 = .ok (.iload_n 0, 1) := by decide +kernel
theorem dLF_offsetT_33 : decode cLF_offsetT 33 = .ok (.bipush 8, 2) := by decide +kernel
theorem dLF_offsetT_35 : decode cLF_offsetT 35 = .ok (.iconst 4, 1) := by decide +kernel
theorem dLF_offsetT_36 : decode cLF_offsetT 36 = .ok (.invokestatic 9, 3) := by decide +kernel
theorem dLF_offsetT_39 : decode cLF_offsetT 39 = .ok (.iconst 1, 1) := by decide +kernel
theorem dLF_offsetT_40 : decode cLF_offsetT 40 = .ok (.ishl, 1) := by decide +kernel
theorem dLF_offsetT_41 : decode cLF_offsetT 41 = .ok (.ior, 1) := by decide +kernel
theorem dLF_offsetT_42 : decode cLF_offsetT 42 = .ok (.istore_n 1, 1) := by decide +kernel
theorem dLF_offsetT_43 : decode cLF_offsetT 43 = .ok (.iload_n 1, 1) := by decide +kernel
theorem dLF_offsetT_44 : decode cLF_offsetT 44 = .ok (.bipush 13, 2) := by decide +kernel
theorem dLF_offsetT_46 : decode cLF_offsetT 46 = .ok (.invokestatic 24, 3) := by decide +kernel
theorem dLF_offsetT_49 : decode cLF_offsetT 49 = .ok (.ireturn, 1) := by decide +kernel
theorem dLF_isAtomic_0 : decode cLF_isAtomic 0 = .ok (.iload_n 0, 1) := by decide +kernel
theorem dLF_isAtomic_1 : decode cLF_isAtomic 1 = .ok (.invokestatic 28, 3) := by decide +kernel
theorem dLF_isAtomic_4 : decode cLF_isAtomic 4 = .ok (.iconst 2, 1) := by decide +kernel
theorem dLF_isAtomic_5 : decode cLF_isAtomic 5 = .ok (.if_icmp .eq 5, 3) := by decide +kernel
theorem dLF_isAtomic_8 : decode cLF_isAtomic 8 = .ok (.iconst 0, 1) := by decide +kernel
theorem dLF_isAtomic_9 : decode cLF_isAtomic 9 = .ok (.ireturn, 1) := by decide +kernel
theorem dLF_isAtomic_10 : decode cLF_isAtomic 10 = .ok (.iload_n 0, 1) := by decide +kernel
theorem dLF_isAtomic_11 : decode cLF_isAtomic 11 = .ok (.invokestatic 31, 3) := by decide +kernel
theorem dLF_isAtomic_14 : decode cLF_isAtomic 14 = .ok (.tableswitch 145 0 28 #[143, 143, 130, 143, 143, 145, 145, 145, 143, 145, 145, 145, 143, 145, 145, 145, 143, 145, 145, 145, 143, 145, 145, 145, 143, 145, 145, 145, 143], 130) := by decide +kernel
theorem dLF_isAtomic_144 : decode cLF_isAtomic 144 = .ok (.iload_n 0, 1) := by decide +kernel
theorem dLF_isAtomic_145 : decode cLF_isAtomic 145 = .ok (.invokestatic 34, 3) := by decide +kernel
theorem dLF_isAtomic_148 : decode cLF_isAtomic 148 = .ok (.ifCond .ne 7, 3) := by decide +kernel
theorem dLF_isAtomic_151 : decode cLF_isAtomic 151 = .ok (.iconst 1, 1) := by decide +kernel
theorem dLF_isAtomic_152 : decode cLF_isAtomic 152 = .ok (.goto 4, 3) := by decide +kernel
theorem dLF_isAtomic_155 : decode cLF_isAtomic 155 = .ok (.iconst 0, 1) := by decide +kernel
theorem dLF_isAtomic_156 : decode cLF_isAtomic 156 = .ok (.ireturn, 1) := by decide +kernel
theorem dLF_isAtomic_157 : decode cLF_isAtomic 157 = .ok (.iconst 1, 1) := by decide +kernel
theorem dLF_isAtomic_158 : decode cLF_isAtomic 158 = .ok (.ireturn, 1) := by decide +kernel
theorem dLF_isAtomic_159 : decode cLF_isAtomic 159 = .ok (.iconst 0, 1) := by decide +kernel
theorem dLF_isAtomic_160 : decode cLF_isAtomic 160 = .ok (.ireturn, 1) := by decide +kernel
theorem dMem_init_0 : decode cMem_init 0 = .ok (.aload_n 0, 1) := by decide +kernel
theorem dMem_init_1 : decode cMem_init 1 = .ok (.invokespecial 1, 3) := by decide +kernel
theorem dMem_init_4 : decode cMem_init 4 = .ok (.aload_n 0, 1) := by decide +kernel
theorem dMem_init_5 : decode cMem_init 5 = .ok (.sipush 16384, 3) := by decide +kernel
theorem dMem_init_8 : decode cMem_init 8 = .ok (.newarray .int, 2) := by decide +kernel
theorem dMem_init_10 : decode cMem_init 10 = .ok (.putfield 9, 3) := by decide +kernel
theorem dMem_init_13 : decode cMem_init 13 = .ok (.aload_n 0, 1) := by decide +kernel
theorem dMem_init_14 : decode cMem_init 14 = .ok (.bipush 64, 2) := by decide +kernel
theorem dMem_init_16 : decode cMem_init 16 = .ok (.newarray .int, 2) := by decide +kernel
theorem dMem_init_18 : decode cMem_init 18 = .ok (.putfield 13, 3) := by decide +kernel
theorem dMem_init_21 : decode cMem_init 21 = .ok (.iconst 0, 1) := by decide +kernel
theorem dMem_init_22 : decode cMem_init 22 = .ok (.istore_n 1, 1) := by decide +kernel
theorem dMem_init_23 : decode cMem_init 23 = .ok (.iload_n 1, 1) := by decide +kernel
theorem dMem_init_24 : decode cMem_init 24 = .ok (.bipush 64, 2) := by decide +kernel
theorem dMem_init_26 : decode cMem_init 26 = .ok (.if_icmp .ge 17, 3) := by decide +kernel
theorem dMem_init_29 : decode cMem_init 29 = .ok (.aload_n 0, 1) := by decide +kernel
theorem dMem_init_30 : decode cMem_init 30 = .ok (.getfield 13, 3) := by decide +kernel
theorem dMem_init_33 : decode cMem_init 33 = .ok (.iload_n 1, 1) := by decide +kernel
theorem dMem_init_34 : decode cMem_init 34 = .ok (.bipush 7, 2) := by decide +kernel
theorem dMem_init_36 : decode cMem_init 36 = .ok (.iastore, 1) := by decide +kernel
theorem dMem_init_37 : decode cMem_init 37 = .ok (.iinc 1 1, 3) := by decide +kernel
theorem dMem_init_40 : decode cMem_init 40 = .ok (.goto (-17), 3) := by decide +kernel
theorem dMem_init_43 : decode cMem_init 43 = .ok (.aload_n 0, 1) := by decide +kernel
theorem dMem_init_44 : decode cMem_init 44 = .ok (.iconst (-1), 1) := by decide +kernel
theorem dMem_init_45 : decode cMem_init 45 = .ok (.putfield 16, 3) := by decide +kernel
theorem dMem_init_48 : decode cMem_init 48 = .ok (.return_, 1) := by decide +kernel
theorem dMem_holds_0 : decode cMem_holds 0 = .ok (.iload_n 0, 1) := by decide +kernel
theorem dMem_holds_1 : decode cMem_holds 1 = .ok (.ifCond .lt 13, 3) := by decide +kernel
theorem dMem_holds_4 : decode cMem_holds 4 = .ok (.iload_n 0, 1) := by decide +kernel
theorem dMem_holds_5 : decode cMem_holds 5 = .ok (.ldc 20, 2) := by decide +kernel
theorem dMem_holds_7 : decode cMem_holds 7 = .ok (.if_icmp .gt 7, 3) := by decide +kernel
theorem dMem_holds_10 : decode cMem_holds 10 = .ok (.iconst 1, 1) := by decide +kernel
theorem dMem_holds_11 : decode cMem_holds 11 = .ok (.goto 4, 3) := by decide +kernel
theorem dMem_holds_14 : decode cMem_holds 14 = .ok (.iconst 0, 1) := by decide +kernel
theorem dMem_holds_15 : decode cMem_holds 15 = .ok (.ireturn, 1) := by decide +kernel
theorem dMem_isMisaligned_0 : decode cMem_isMisaligned 0 = .ok (.iload_n 1, 1) := by decide +kernel
theorem dMem_isMisaligned_1 : decode cMem_isMisaligned 1 = .ok (.iconst 1, 1) := by decide +kernel
theorem dMem_isMisaligned_2 : decode cMem_isMisaligned 2 = .ok (.iload_n 0, 1) := by decide +kernel
theorem dMem_isMisaligned_3 : decode cMem_isMisaligned 3 = .ok (.iconst 3, 1) := by decide +kernel
theorem dMem_isMisaligned_4 : decode cMem_isMisaligned 4 = .ok (.iand, 1) := by decide +kernel
theorem dMem_isMisaligned_5 : decode cMem_isMisaligned 5 = .ok (.ishl, 1) := by decide +kernel
theorem dMem_isMisaligned_6 : decode cMem_isMisaligned 6 = .ok (.iconst 1, 1) := by decide +kernel
theorem dMem_isMisaligned_7 : decode cMem_isMisaligned 7 = .ok (.isub, 1) := by decide +kernel
theorem dMem_isMisaligned_8 : decode cMem_isMisaligned 8 = .ok (.iand, 1) := by decide +kernel
theorem dMem_isMisaligned_9 : decode cMem_isMisaligned 9 = .ok (.ifCond .eq 7, 3) := by decide +kernel
theorem dMem_isMisaligned_12 : decode cMem_isMisaligned 12 = .ok (.iconst 1, 1) := by decide +kernel
theorem dMem_isMisaligned_13 : decode cMem_isMisaligned 13 = .ok (.goto 4, 3) := by decide +kernel
theorem dMem_isMisaligned_16 : decode cMem_isMisaligned 16 = .ok (.iconst 0, 1) := by decide +kernel
theorem dMem_isMisaligned_17 : decode cMem_isMisaligned 17 = .ok (.ireturn, 1) := by decide +kernel
theorem dMem_allows_0 : decode cMem_allows 0 = .ok (.iload_n 2, 1) := by decide +kernel
theorem dMem_allows_1 : decode cMem_allows 1 = .ok (.invokestatic 21, 3) := by decide +kernel
theorem dMem_allows_4 : decode cMem_allows 4 = .ok (.ifCond .eq 21, 3) := by decide +kernel
theorem dMem_allows_7 : decode cMem_allows 7 = .ok (.aload_n 0, 1) := by decide +kernel
theorem dMem_allows_8 : decode cMem_allows 8 = .ok (.getfield 13, 3) := by decide +kernel
theorem dMem_allows_11 : decode cMem_allows 11 = .ok (.iload_n 2, 1) := by decide +kernel
theorem dMem_allows_12 : decode cMem_allows 12 = .ok (.bipush 10, 2) := by decide +kernel
theorem dMem_allows_14 : decode cMem_allows 14 = .ok (.iushr, 1) := by decide +kernel
theorem dMem_allows_15 : decode cMem_allows 15 = .ok (.iaload, 1) := by decide +kernel
theorem dMem_allows_16 : decode cMem_allows 16 = .ok (.iload_n 1, 1) := by decide +kernel
theorem dMem_allows_17 : decode cMem_allows 17 = .ok (.iand, 1) := by decide +kernel
theorem dMem_allows_18 : decode cMem_allows 18 = .ok (.ifCond .eq 7, 3) := by decide +kernel
theorem dMem_allows_21 : decode cMem_allows 21 = .ok (.iconst 1, 1) := by decide +kernel
theorem dMem_allows_22 : decode cMem_allows 22 = .ok (.goto 4, 3) := by decide +kernel
theorem dMem_allows_25 : decode cMem_allows 25 = .ok (.iconst 0, 1) := by decide +kernel
theorem dMem_allows_26 : decode cMem_allows 26 = .ok (.ireturn, 1) := by decide +kernel
theorem dMem_mayCarryOut_0 : decode cMem_mayCarryOut 0 = .ok (.iconst 1, 1) := by decide +kernel
theorem dMem_mayCarryOut_1 : decode cMem_mayCarryOut 1 = .ok (.iload_n 1, 1) := by decide +kernel
theorem dMem_mayCarryOut_2 : decode cMem_mayCarryOut 2 = .ok (.invokestatic 25, 3) := by decide +kernel
theorem dMem_mayCarryOut_5 : decode cMem_mayCarryOut 5 = .ok (.ifCond .ne 16, 3) := by decide +kernel
theorem dMem_mayCarryOut_8 : decode cMem_mayCarryOut 8 = .ok (.aload_n 0, 1) := by decide +kernel
theorem dMem_mayCarryOut_9 : decode cMem_mayCarryOut 9 = .ok (.iconst 4, 1) := by decide +kernel
theorem dMem_mayCarryOut_10 : decode cMem_mayCarryOut 10 = .ok (.iload_n 1, 1) := by decide +kernel
theorem dMem_mayCarryOut_11 : decode cMem_mayCarryOut 11 = .ok (.invokevirtual 29, 3) := by decide +kernel
theorem dMem_mayCarryOut_14 : decode cMem_mayCarryOut 14 = .ok (.ifCond .eq 7, 3) := by decide +kernel
theorem dMem_mayCarryOut_17 : decode cMem_mayCarryOut 17 = .ok (.iconst 1, 1) := by decide +kernel
theorem dMem_mayCarryOut_18 : decode cMem_mayCarryOut 18 = .ok (.goto 4, 3) := by decide +kernel
theorem dMem_mayCarryOut_21 : decode cMem_mayCarryOut 21 = .ok (.iconst 0, 1) := by decide +kernel
theorem dMem_mayCarryOut_22 : decode cMem_mayCarryOut 22 = .ok (.ireturn, 1) := by decide +kernel
theorem dMem_exchangeRights_0 : decode cMem_exchangeRights 0 = .ok (.aload_n 0, 1) := by decide +kernel
theorem dMem_exchangeRights_1 : decode cMem_exchangeRights 1 = .ok (.getfield 13, 3) := by decide +kernel
theorem dMem_exchangeRights_4 : decode cMem_exchangeRights 4 = .ok (.iload_n 1, 1) := by decide +kernel
theorem dMem_exchangeRights_5 : decode cMem_exchangeRights 5 = .ok (.iaload, 1) := by decide +kernel
theorem dMem_exchangeRights_6 : decode cMem_exchangeRights 6 = .ok (.istore_n 3, 1) := by decide +kernel
theorem dMem_exchangeRights_7 : decode cMem_exchangeRights 7 = .ok (.aload_n 0, 1) := by decide +kernel
theorem dMem_exchangeRights_8 : decode cMem_exchangeRights 8 = .ok (.getfield 13, 3) := by decide +kernel
theorem dMem_exchangeRights_11 : decode cMem_exchangeRights 11 = .ok (.iload_n 1, 1) := by decide +kernel
theorem dMem_exchangeRights_12 : decode cMem_exchangeRights 12 = .ok (.iload_n 2, 1) := by decide +kernel
theorem dMem_exchangeRights_13 : decode cMem_exchangeRights 13 = .ok (.iastore, 1) := by decide +kernel
theorem dMem_exchangeRights_14 : decode cMem_exchangeRights 14 = .ok (.iload_n 3, 1) := by decide +kernel
theorem dMem_exchangeRights_15 : decode cMem_exchangeRights 15 = .ok (.ireturn, 1) := by decide +kernel
theorem dMem_reservedAddress_0 : decode cMem_reservedAddress 0 = .ok (.aload_n 0, 1) := by decide +kernel
theorem dMem_reservedAddress_1 : decode cMem_reservedAddress 1 = .ok (.getfield 16, 3) := by decide +kernel
theorem dMem_reservedAddress_4 : decode cMem_reservedAddress 4 = .ok (.ireturn, 1) := by decide +kernel
theorem dMem_reserve_0 : decode cMem_reserve 0 = .ok (.aload_n 0, 1) := by decide +kernel
theorem dMem_reserve_1 : decode cMem_reserve 1 = .ok (.iload_n 1, 1) := by decide +kernel
theorem dMem_reserve_2 : decode cMem_reserve 2 = .ok (.putfield 16, 3) := by decide +kernel
theorem dMem_reserve_5 : decode cMem_reserve 5 = .ok (.return_, 1) := by decide +kernel
theorem dMem_read_0 : decode cMem_read 0 = .ok (.aload_n 0, 1) := by decide +kernel
theorem dMem_read_1 : decode cMem_read 1 = .ok (.getfield 9, 3) := by decide +kernel
theorem dMem_read_4 : decode cMem_read 4 = .ok (.iload_n 2, 1) := by decide +kernel
theorem dMem_read_5 : decode cMem_read 5 = .ok (.invokestatic 32, 3) := by decide +kernel
theorem dMem_read_8 : decode cMem_read 8 = .ok (.iaload, 1) := by decide +kernel
theorem dMem_read_9 : decode cMem_read 9 = .ok (.istore_n 3, 1) := by decide +kernel
theorem dMem_read_10 : decode cMem_read 10 = .ok (.iload_n 3, 1) := by decide +kernel
theorem dMem_read_11 : decode cMem_read 11 = .ok (.iload_n 2, 1) := by decide +kernel
theorem dMem_read_12 : decode cMem_read 12 = .ok (.invokestatic 36, 3) := by decide +kernel
theorem dMem_read_15 : decode cMem_read 15 = .ok (.iushr, 1) := by decide +kernel
theorem dMem_read_16 : decode cMem_read 16 = .ok (.istore 4, 2) := by decide +kernel
theorem dMem_read_18 : decode cMem_read 18 = .ok (.iload_n 1, 1) := by decide +kernel
theorem dMem_read_19 : decode cMem_read 19 = .ok (.tableswitch 58 0 5 #[37, 41, 58, 58, 45, 52], 37) := by decide +kernel
theorem dMem_read_56 : decode cMem_read 56 = .ok (.iload 4, 2) := by decide +kernel
theorem dMem_read_58 : decode cMem_read 58 = .ok (.i2b, 1) := by decide +kernel
theorem dMem_read_59 : decode cMem_read 59 = .ok (.ireturn, 1) := by decide +kernel
theorem dMem_read_60 : decode cMem_read 60 = .ok (.iload 4, 2) := by decide +kernel
theorem dMem_read_62 : decode cMem_read 62 = .ok (.i2s, 1) := by decide +kernel
theorem dMem_read_63 : decode cMem_read 63 = .ok (.ireturn, 1) := by decide +kernel
theorem dMem_read_64 : decode cMem_read 64 = .ok (.iload 4, 2) := by decide +kernel
theorem dMem_read_66 : decode cMem_read 66 = .ok (.sipush 255, 3) := by decide +kernel
theorem dMem_read_69 : decode cMem_read 69 = .ok (.iand, 1) := by decide +kernel
theorem dMem_read_70 : decode cMem_read 70 = .ok (.ireturn, 1) := by decide +kernel
theorem dMem_read_71 : decode cMem_read 71 = .ok (.iload 4, 2) := by decide +kernel
theorem dMem_read_73 : decode cMem_read 73 = .ok (.ldc 20, 2) := by decide +kernel
theorem dMem_read_75 : decode cMem_read 75 = .ok (.iand, 1) := by decide +kernel
theorem dMem_read_76 : decode cMem_read 76 = .ok (.ireturn, 1) := by decide +kernel
theorem dMem_read_77 : decode cMem_read 77 = .ok (.iload_n 3, 1) := by decide +kernel
theorem dMem_read_78 : decode cMem_read 78 = .ok (.ireturn, 1) := by decide +kernel
theorem dMem_write_0 : decode cMem_write 0 = .ok (.iload_n 2, 1) := by decide +kernel
theorem dMem_write_1 : decode cMem_write 1 = .ok (.invokestatic 32, 3) := by decide +kernel
theorem dMem_write_4 : decode cMem_write 4 = .ok (.istore 4, 2) := by decide +kernel
theorem dMem_write_6 : decode cMem_write 6 = .ok (.iload_n 1, 1) := by decide +kernel
theorem dMem_write_7 : decode cMem_write 7 = .ok (.invokestatic 39, 3) := by decide +kernel
theorem dMem_write_10 : decode cMem_write 10 = .ok (.iload_n 2, 1) := by decide +kernel
theorem dMem_write_11 : decode cMem_write 11 = .ok (.invokestatic 36, 3) := by decide +kernel
theorem dMem_write_14 : decode cMem_write 14 = .ok (.ishl, 1) := by decide +kernel
theorem dMem_write_15 : decode cMem_write 15 = .ok (.istore 5, 2) := by decide +kernel
theorem dMem_write_17 : decode cMem_write 17 = .ok (.aload_n 0, 1) := by decide +kernel
theorem dMem_write_18 : decode cMem_write 18 = .ok (.getfield 9, 3) := by decide +kernel
theorem dMem_write_21 : decode cMem_write 21 = .ok (.iload 4, 2) := by decide +kernel
theorem dMem_write_23 : decode cMem_write 23 = .ok (.aload_n 0, 1) := by decide +kernel
theorem dMem_write_24 : decode cMem_write 24 = .ok (.getfield 9, 3) := by decide +kernel
theorem dMem_write_27 : decode cMem_write 27 = .ok (.iload 4, 2) := by decide +kernel
theorem dMem_write_29 : decode cMem_write 29 = .ok (.iaload, 1) := by decide +kernel
theorem dMem_write_30 : decode cMem_write 30 = .ok (.iload 5, 2) := by decide +kernel
theorem dMem_write_32 : decode cMem_write 32 = .ok (.iconst (-1), 1) := by decide +kernel
theorem dMem_write_33 : decode cMem_write 33 = .ok (.ixor, 1) := by decide +kernel
theorem dMem_write_34 : decode cMem_write 34 = .ok (.iand, 1) := by decide +kernel
theorem dMem_write_35 : decode cMem_write 35 = .ok (.iload_n 3, 1) := by decide +kernel
theorem dMem_write_36 : decode cMem_write 36 = .ok (.iload_n 2, 1) := by decide +kernel
theorem dMem_write_37 : decode cMem_write 37 = .ok (.invokestatic 36, 3) := by decide +kernel
theorem dMem_write_40 : decode cMem_write 40 = .ok (.ishl, 1) := by decide +kernel
theorem dMem_write_41 : decode cMem_write 41 = .ok (.iload 5, 2) := by decide +kernel
theorem dMem_write_43 : decode cMem_write 43 = .ok (.iand, 1) := by decide +kernel
theorem dMem_write_44 : decode cMem_write 44 = .ok (.ior, 1) := by decide +kernel
theorem dMem_write_45 : decode cMem_write 45 = .ok (.iastore, 1) := by decide +kernel
theorem dMem_write_46 : decode cMem_write 46 = .ok (.aload_n 0, 1) := by decide +kernel
theorem dMem_write_47 : decode cMem_write 47 = .ok (.getfield 16, 3) := by decide +kernel
theorem dMem_write_50 : decode cMem_write 50 = .ok (.iload_n 2, 1) := by decide +kernel
theorem dMem_write_51 : decode cMem_write 51 = .ok (.bipush (-4), 2) := by decide +kernel
theorem dMem_write_53 : decode cMem_write 53 = .ok (.iand, 1) := by decide +kernel
theorem dMem_write_54 : decode cMem_write 54 = .ok (.if_icmp .ne 8, 3) := by decide +kernel
theorem dMem_write_57 : decode cMem_write 57 = .ok (.aload_n 0, 1) := by decide +kernel
theorem dMem_write_58 : decode cMem_write 58 = .ok (.iconst (-1), 1) := by decide +kernel
theorem dMem_write_59 : decode cMem_write 59 = .ok (.putfield 16, 3) := by decide +kernel
theorem dMem_write_62 : decode cMem_write 62 = .ok (.return_, 1) := by decide +kernel
theorem dMem_wordIndex_0 : decode cMem_wordIndex 0 = .ok (.iload_n 0, 1) := by decide +kernel
theorem dMem_wordIndex_1 : decode cMem_wordIndex 1 = .ok (.ldc 20, 2) := by decide +kernel
theorem dMem_wordIndex_3 : decode cMem_wordIndex 3 = .ok (.iand, 1) := by decide +kernel
theorem dMem_wordIndex_4 : decode cMem_wordIndex 4 = .ok (.iconst 2, 1) := by decide +kernel
theorem dMem_wordIndex_5 : decode cMem_wordIndex 5 = .ok (.iushr, 1) := by decide +kernel
theorem dMem_wordIndex_6 : decode cMem_wordIndex 6 = .ok (.ireturn, 1) := by decide +kernel
theorem dMem_shiftOf_0 : decode cMem_shiftOf 0 = .ok (.iload_n 0, 1) := by decide +kernel
theorem dMem_shiftOf_1 : decode cMem_shiftOf 1 = .ok (.iconst 3, 1) := by decide +kernel
theorem dMem_shiftOf_2 : decode cMem_shiftOf 2 = .ok (.iand, 1) := by decide +kernel
theorem dMem_shiftOf_3 : decode cMem_shiftOf 3 = .ok (.iconst 3, 1) := by decide +kernel
theorem dMem_shiftOf_4 : decode cMem_shiftOf 4 = .ok (.ishl, 1) := by decide +kernel
theorem dMem_shiftOf_5 : decode cMem_shiftOf 5 = .ok (.ireturn, 1) := by decide +kernel
theorem dMem_maskOf_0 : decode cMem_maskOf 0 = .ok (.iload_n 0, 1) := by decide +kernel
theorem dMem_maskOf_1 : decode cMem_maskOf 1 = .ok (.lookupswitch 34 #[(0, 27), (1, 31)], 27) := by decide +kernel
theorem dMem_maskOf_28 : decode cMem_maskOf 28 = .ok (.sipush 255, 3) := by decide +kernel
theorem dMem_maskOf_31 : decode cMem_maskOf 31 = .ok (.ireturn, 1) := by decide +kernel
theorem dMem_maskOf_32 : decode cMem_maskOf 32 = .ok (.ldc 20, 2) := by decide +kernel
theorem dMem_maskOf_34 : decode cMem_maskOf 34 = .ok (.ireturn, 1) := by decide +kernel
theorem dMem_maskOf_35 : decode cMem_maskOf 35 = .ok (.iconst (-1), 1) := by decide +kernel
theorem dMem_maskOf_36 : decode cMem_maskOf 36 = .ok (.ireturn, 1) := by decide +kernel
theorem dSF_f_0 : decode cSF_f 0 = .ok (.iload_n 0, 1) := by decide +kernel
theorem dSF_f_1 : decode cSF_f 1 = .ok (.bipush 13, 2) := by decide +kernel
theorem dSF_f_3 : decode cSF_f 3 = .ok (.iconst 3, 1) := by decide +kernel
theorem dSF_f_4 : decode cSF_f 4 = .ok (.invokestatic 7, 3) := by decide +kernel
theorem dSF_f_7 : decode cSF_f 7 = .ok (.ireturn, 1) := by decide +kernel
theorem dSF_bit12_0 : decode cSF_bit12 0 = .ok (.iload_n 0, 1) := by decide +kernel
theorem dSF_bit12_1 : decode cSF_bit12 1 = .ok (.bipush 12, 2) := by decide +kernel
theorem dSF_bit12_3 : decode cSF_bit12 3 = .ok (.iconst 1, 1) := by decide +kernel
theorem dSF_bit12_4 : decode cSF_bit12 4 = .ok (.invokestatic 7, 3) := by decide +kernel
theorem dSF_bit12_7 : decode cSF_bit12 7 = .ok (.ifCond .eq 7, 3) := by decide +kernel
theorem dSF_bit12_10 : decode cSF_bit12 10 = .ok (.iconst 1, 1) := by decide +kernel
theorem dSF_bit12_11 : decode cSF_bit12 11 = .ok (.goto 4, 3) := by decide +kernel
theorem dSF_bit12_14 : decode cSF_bit12 14 = .ok (.iconst 0, 1) := by decide +kernel
theorem dSF_bit12_15 : decode cSF_bit12 15 = .ok (.ireturn, 1) := by decide +kernel
theorem dSF_d_0 : decode cSF_d 0 = .ok (.iload_n 0, 1) := by decide +kernel
theorem dSF_d_1 : decode cSF_d 1 = .ok (.bipush 7, 2) := by decide +kernel
theorem dSF_d_3 : decode cSF_d 3 = .ok (.iconst 5, 1) := by decide +kernel
theorem dSF_d_4 : decode cSF_d 4 = .ok (.invokestatic 7, 3) := by decide +kernel
theorem dSF_d_7 : decode cSF_d 7 = .ok (.ireturn, 1) := by decide +kernel
theorem dSF_b_0 : decode cSF_b 0 = .ok (.iload_n 0, 1) := by decide +kernel
theorem dSF_b_1 : decode cSF_b 1 = .ok (.iconst 2, 1) := by decide +kernel
theorem dSF_b_2 : decode cSF_b 2 = .ok (.iconst 5, 1) := by decide +kernel
theorem dSF_b_3 : decode cSF_b 3 = .ok (.invokestatic 7, 3) := by decide +kernel
theorem dSF_b_6 : decode cSF_b 6 = .ok (.ireturn, 1) := by decide +kernel
theorem dSF_lowNear_0 : decode cSF_lowNear 0 = .ok (.bipush 8, 2) := by decide +kernel
theorem dSF_lowNear_2 : decode cSF_lowNear 2 = .ok (.iload_n 0, 1) := by decide +kernel
theorem dSF_lowNear_3 : decode cSF_lowNear 3 = .ok (.iconst 2, 1) := by decide +kernel
theorem dSF_lowNear_4 : decode cSF_lowNear 4 = .ok (.iconst 3, 1) := by decide +kernel
theorem dSF_lowNear_5 : decode cSF_lowNear 5 = .ok (.invokestatic 7, 3) := by decide +kernel
theorem dSF_lowNear_8 : decode cSF_lowNear 8 = .ok (.iadd, 1) := by decide +kernel
theorem dSF_lowNear_9 : decode cSF_lowNear 9 = .ok (.ireturn, 1) := by decide +kernel
theorem dSF_highNear_0 : decode cSF_highNear 0 = .ok (.bipush 8, 2) := by decide +kernel
theorem dSF_highNear_2 : decode cSF_highNear 2 = .ok (.iload_n 0, 1) := by decide +kernel
theorem dSF_highNear_3 : decode cSF_highNear 3 = .ok (.bipush 7, 2) := by decide +kernel
theorem dSF_highNear_5 : decode cSF_highNear 5 = .ok (.iconst 3, 1) := by decide +kernel
theorem dSF_highNear_6 : decode cSF_highNear 6 = .ok (.invokestatic 7, 3) := by decide +kernel
theorem dSF_highNear_9 : decode cSF_highNear 9 = .ok (.iadd, 1) := by decide +kernel
theorem dSF_highNear_10 : decode cSF_highNear 10 = .ok (.ireturn, 1) := by decide +kernel
theorem dSF_number_0 : decode cSF_number 0 = .ok (.iload_n 0, 1) := by decide +kernel
theorem dSF_number_1 : decode cSF_number 1 = .ok (.bipush 12, 2) := by decide +kernel
theorem dSF_number_3 : decode cSF_number 3 = .ok (.iconst 1, 1) := by decide +kernel
theorem dSF_number_4 : decode cSF_number 4 = .ok (.invokestatic 7, 3) := by decide +kernel
theorem dSF_number_7 : decode cSF_number 7 = .ok (.iconst 5, 1) := by decide +kernel
theorem dSF_number_8 : decode cSF_number 8 = .ok (.ishl, 1) := by decide +kernel
theorem dSF_number_9 : decode cSF_number 9 = .ok (.iload_n 0, 1) := by decide +kernel
theorem dSF_number_10 : decode cSF_number 10 = .ok (.iconst 2, 1) := by decide +kernel
theorem dSF_number_11 : decode cSF_number 11 = .ok (.iconst 5, 1) := by decide +kernel
theorem dSF_number_12 : decode cSF_number 12 = .ok (.invokestatic 7, 3) := by decide +kernel
theorem dSF_number_15 : decode cSF_number 15 = .ok (.ior, 1) := by decide +kernel
theorem dSF_number_16 : decode cSF_number 16 = .ok (.bipush 6, 2) := by decide +kernel
theorem dSF_number_18 : decode cSF_number 18 = .ok (.invokestatic 13, 3) := by decide +kernel
theorem dSF_number_21 : decode cSF_number 21 = .ok (.ireturn, 1) := by decide +kernel
theorem dSF_stackNumber_0 : decode cSF_stackNumber 0 = .ok (.iload_n 0, 1) := by decide +kernel
theorem dSF_stackNumber_1 : decode cSF_stackNumber 1 = .ok (.bipush 11, 2) := by decide +kernel
theorem dSF_stackNumber_3 : decode cSF_stackNumber 3 = .ok (.iconst 2, 1) := by decide +kernel
theorem dSF_stackNumber_4 : decode cSF_stackNumber 4 = .ok (.invokestatic 7, 3) := by decide +kernel
theorem dSF_stackNumber_7 : decode cSF_stackNumber 7 = .ok (.iconst 4, 1) := by decide +kernel
theorem dSF_stackNumber_8 : decode cSF_stackNumber 8 = .ok (.ishl, 1) := by decide +kernel
theorem dSF_stackNumber_9 : decode cSF_stackNumber 9 = .ok (.iload_n 0, 1) := by decide +kernel
theorem dSF_stackNumber_10 : decode cSF_stackNumber 10 = .ok (.bipush 7, 2) := by decide +kernel
theorem dSF_stackNumber_12 : decode cSF_stackNumber 12 = .ok (.iconst 4, 1) := by decide +kernel
theorem dSF_stackNumber_13 : decode cSF_stackNumber 13 = .ok (.invokestatic 7, 3) := by decide +kernel
theorem dSF_stackNumber_16 : decode cSF_stackNumber 16 = .ok (.bipush 6, 2) := by decide +kernel
theorem dSF_stackNumber_18 : decode cSF_stackNumber 18 = .ok (.ishl, 1) := by decide +kernel
theorem dSF_stackNumber_19 : decode cSF_stackNumber 19 = .ok (.ior, 1) := by decide +kernel
theorem dSF_stackNumber_20 : decode cSF_stackNumber 20 = .ok (.iload_n 0, 1) := by decide +kernel
theorem dSF_stackNumber_21 : decode cSF_stackNumber 21 = .ok (.bipush 6, 2) := by decide +kernel
theorem dSF_stackNumber_23 : decode cSF_stackNumber 23 = .ok (.iconst 1, 1) := by decide +kernel
theorem dSF_stackNumber_24 : decode cSF_stackNumber 24 = .ok (.invokestatic 7, 3) := by decide +kernel
theorem dSF_stackNumber_27 : decode cSF_stackNumber 27 = .ok (.iconst 2, 1) := by decide +kernel
theorem dSF_stackNumber_28 : decode cSF_stackNumber 28 = .ok (.ishl, 1) := by decide +kernel
theorem dSF_stackNumber_29 : decode cSF_stackNumber 29 = .ok (.ior, 1) := by decide +kernel
theorem dSF_stackNumber_30 : decode cSF_stackNumber 30 = .ok (.iload_n 0, 1) := by decide +kernel
theorem dSF_stackNumber_31 : decode cSF_stackNumber 31 = .ok (.iconst 5, 1) := by decide +kernel
theorem dSF_stackNumber_32 : decode cSF_stackNumber 32 = .ok (.iconst 1, 1) := by decide +kernel
theorem dSF_stackNumber_33 : decode cSF_stackNumber 33 = .ok (.invokestatic 7, 3) := by decide +kernel
theorem dSF_stackNumber_36 : decode cSF_stackNumber 36 = .ok (.iconst 3, 1) := by decide +kernel
theorem dSF_stackNumber_37 : decode cSF_stackNumber 37 = .ok (.ishl, 1) := by decide +kernel
theorem dSF_stackNumber_38 : decode cSF_stackNumber 38 = .ok (.ior, 1) := by decide +kernel
theorem dSF_stackNumber_39 : decode cSF_stackNumber 39 = .ok (.ireturn, 1) := by decide +kernel
theorem dSF_nearOffset_0 : decode cSF_nearOffset 0 = .ok (.iload_n 0, 1) := by decide +kernel
theorem dSF_nearOffset_1 : decode cSF_nearOffset 1 = .ok (.bipush 10, 2) := by decide +kernel
theorem dSF_nearOffset_3 : decode cSF_nearOffset 3 = .ok (.iconst 3, 1) := by decide +kernel
theorem dSF_nearOffset_4 : decode cSF_nearOffset 4 = .ok (.invokestatic 7, 3) := by decide +kernel
theorem dSF_nearOffset_7 : decode cSF_nearOffset 7 = .ok (.iconst 3, 1) := by decide +kernel
theorem dSF_nearOffset_8 : decode cSF_nearOffset 8 = .ok (.ishl, 1) := by decide +kernel
theorem dSF_nearOffset_9 : decode cSF_nearOffset 9 = .ok (.iload_n 0, 1) := by decide +kernel
theorem dSF_nearOffset_10 : decode cSF_nearOffset 10 = .ok (.bipush 6, 2) := by decide +kernel
theorem dSF_nearOffset_12 : decode cSF_nearOffset 12 = .ok (.iconst 1, 1) := by decide +kernel
theorem dSF_nearOffset_13 : decode cSF_nearOffset 13 = .ok (.invokestatic 7, 3) := by decide +kernel
theorem dSF_nearOffset_16 : decode cSF_nearOffset 16 = .ok (.iconst 2, 1) := by decide +kernel
theorem dSF_nearOffset_17 : decode cSF_nearOffset 17 = .ok (.ishl, 1) := by decide +kernel
theorem dSF_nearOffset_18 : decode cSF_nearOffset 18 = .ok (.ior, 1) := by decide +kernel
theorem dSF_nearOffset_19 : decode cSF_nearOffset 19 = .ok (.iload_n 0, 1) := by decide +kernel
theorem dSF_nearOffset_20 : decode cSF_nearOffset 20 = .ok (.iconst 5, 1) := by decide +kernel
theorem dSF_nearOffset_21 : decode cSF_nearOffset 21 = .ok (.iconst 1, 1) := by decide +kernel
theorem dSF_nearOffset_22 : decode cSF_nearOffset 22 = .ok (.invokestatic 7, 3) := by decide +kernel
theorem dSF_nearOffset_25 : decode cSF_nearOffset 25 = .ok (.bipush 6, 2) := by decide +kernel
theorem dSF_nearOffset_27 : decode cSF_nearOffset 27 = .ok (.ishl, 1) := by decide +kernel
theorem dSF_nearOffset_28 : decode cSF_nearOffset 28 = .ok (.ior, 1) := by decide +kernel
theorem dSF_nearOffset_29 : decode cSF_nearOffset 29 = .ok (.ireturn, 1) := by decide +kernel
theorem dSF_offsetJ_0 : decode cSF_offsetJ 0 = .ok (.iload_n 0, 1) := by decide +kernel
theorem dSF_offsetJ_1 : decode cSF_offsetJ 1 = .ok (.bipush 12, 2) := by decide +kernel
theorem dSF_offsetJ_3 : decode cSF_offsetJ 3 = .ok (.iconst 1, 1) := by decide +kernel
theorem dSF_offsetJ_4 : decode cSF_offsetJ 4 = .ok (.invokestatic 7, 3) := by decide +kernel
theorem dSF_offsetJ_7 : decode cSF_offsetJ 7 = .ok (.bipush 11, 2) := by decide +kernel
theorem dSF_offsetJ_9 : decode cSF_offsetJ 9 = .ok (.ishl, 1) := by decide +kernel
theorem dSF_offsetJ_10 : decode cSF_offsetJ 10 = .ok (.iload_n 0, 1) := by decide +kernel
theorem dSF_offsetJ_11 : decode cSF_offsetJ 11 = .ok (.bipush 11, 2) := by decide +kernel
theorem dSF_offsetJ_13 : decode cSF_offsetJ 13 = .ok (.iconst 1, 1) := by decide +kernel
theorem dSF_offsetJ_14 : decode cSF_offsetJ 14 = .ok (.invokestatic 7, 3) := by decide +kernel
theorem dSF_offsetJ_17 : decode cSF_offsetJ 17 = .ok (.iconst 4, 1) := by decide +kernel
theorem dSF_offsetJ_18 : decode cSF_offsetJ 18 = .ok (.ishl, 1) := by decide +kernel
theorem dSF_offsetJ_19 : decode cSF_offsetJ 19 = .ok (.ior, 1) := by decide +kernel
theorem dSF_offsetJ_20 : decode cSF_offsetJ 20 = .ok (.iload_n 0, 1) := by decide +kernel
theorem dSF_offsetJ_21 : decode cSF_offsetJ 21 = .ok (.bipush 9, 2) := by decide +kernel
theorem dSF_offsetJ_23 : decode cSF_offsetJ 23 = .ok (.iconst 2, 1) := by decide +kernel
theorem dSF_offsetJ_24 : decode cSF_offsetJ 24 = .ok (.invokestatic 7, 3) := by decide +kernel
theorem dSF_offsetJ_27 : decode cSF_offsetJ 27 = .ok (.bipush 8, 2) := by decide +kernel
theorem dSF_offsetJ_29 : decode cSF_offsetJ 29 = .ok (.ishl, 1) := by decide +kernel
theorem dSF_offsetJ_30 : decode cSF_offsetJ 30 = .ok (.ior, 1) := by decide +kernel
theorem dSF_offsetJ_31 : decode cSF_offsetJ 31 = .ok (.iload_n 0, 1) := by decide +kernel
theorem dSF_offsetJ_32 : decode cSF_offsetJ 32 = .ok (.bipush 8, 2) := by decide +kernel
theorem dSF_offsetJ_34 : decode cSF_offsetJ 34 = .ok (.iconst 1, 1) := by decide +kernel
theorem dSF_offsetJ_35 : decode cSF_offsetJ 35 = .ok (.invokestatic 7, 3) := by decide +kernel
theorem dSF_offsetJ_38 : decode cSF_offsetJ 38 = .ok (.bipush 10, 2) := by decide +kernel
theorem dSF_offsetJ_40 : decode cSF_offsetJ 40 = .ok (.ishl, 1) := by decide +kernel
theorem dSF_offsetJ_41 : decode cSF_offsetJ 41 = .ok (.ior, 1) := by decide +kernel
theorem dSF_offsetJ_42 : decode cSF_offsetJ 42 = .ok (.iload_n 0, 1) := by decide +kernel
theorem dSF_offsetJ_43 : decode cSF_offsetJ 43 = .ok (.bipush 7, 2) := by decide +kernel
theorem dSF_offsetJ_45 : decode cSF_offsetJ 45 = .ok (.iconst 1, 1) := by decide +kernel
theorem dSF_offsetJ_46 : decode cSF_offsetJ 46 = .ok (.invokestatic 7, 3) := by decide +kernel
theorem dSF_offsetJ_49 : decode cSF_offsetJ 49 = .ok (.bipush 6, 2) := by decide +kernel
theorem dSF_offsetJ_51 : decode cSF_offsetJ 51 = .ok (.ishl, 1) := by decide +kernel
theorem dSF_offsetJ_52 : decode cSF_offsetJ 52 = .ok (.ior, 1) := by decide +kernel
theorem dSF_offsetJ_53 : decode cSF_offsetJ 53 = .ok (.iload_n 0, 1) := by decide +kernel
theorem dSF_offsetJ_54 : decode cSF_offsetJ 54 = .ok (.bipush 6, 2) := by decide +kernel
theorem dSF_offsetJ_56 : decode cSF_offsetJ 56 = .ok (.iconst 1, 1) := by decide +kernel
theorem dSF_offsetJ_57 : decode cSF_offsetJ 57 = .ok (.invokestatic 7, 3) := by decide +kernel
theorem dSF_offsetJ_60 : decode cSF_offsetJ 60 = .ok (.bipush 7, 2) := by decide +kernel
theorem dSF_offsetJ_62 : decode cSF_offsetJ 62 = .ok (.ishl, 1) := by decide +kernel
theorem dSF_offsetJ_63 : decode cSF_offsetJ 63 = .ok (.ior, 1) := by decide +kernel
theorem dSF_offsetJ_64 : decode cSF_offsetJ 64 = .ok (.iload_n 0, 1) := by decide +kernel
theorem dSF_offsetJ_65 : decode cSF_offsetJ 65 = .ok (.iconst 3, 1) := by decide +kernel
theorem dSF_offsetJ_66 : decode cSF_offsetJ 66 = .ok (.iconst 3, 1) := by decide +kernel
theorem dSF_offsetJ_67 : decode cSF_offsetJ 67 = .ok (.invokestatic 7, 3) := by decide +kernel
theorem dSF_offsetJ_70 : decode cSF_offsetJ 70 = .ok (.iconst 1, 1) := by decide +kernel
theorem dSF_offsetJ_71 : decode cSF_offsetJ 71 = .ok (.ishl, 1) := by decide +kernel
theorem dSF_offsetJ_72 : decode cSF_offsetJ 72 = .ok (.ior, 1) := by decide +kernel
theorem dSF_offsetJ_73 : decode cSF_offsetJ 73 = .ok (.iload_n 0, 1) := by decide +kernel
theorem dSF_offsetJ_74 : decode cSF_offsetJ 74 = .ok (.iconst 2, 1) := by decide +kernel
theorem dSF_offsetJ_75 : decode cSF_offsetJ 75 = .ok (.iconst 1, 1) := by decide +kernel
theorem dSF_offsetJ_76 : decode cSF_offsetJ 76 = .ok (.invokestatic 7, 3) := by decide +kernel
theorem dSF_offsetJ_79 : decode cSF_offsetJ 79 = .ok (.iconst 5, 1) := by decide +kernel
theorem dSF_offsetJ_80 : decode cSF_offsetJ 80 = .ok (.ishl, 1) := by decide +kernel
theorem dSF_offsetJ_81 : decode cSF_offsetJ 81 = .ok (.ior, 1) := by decide +kernel
theorem dSF_offsetJ_82 : decode cSF_offsetJ 82 = .ok (.istore_n 1, 1) := by decide +kernel
theorem dSF_offsetJ_83 : decode cSF_offsetJ 83 = .ok (.iload_n 1, 1) := by decide +kernel
theorem dSF_offsetJ_84 : decode cSF_offsetJ 84 = .ok (.bipush 12, 2) := by decide +kernel
theorem dSF_offsetJ_86 : decode cSF_offsetJ 86 = .ok (.invokestatic 13, 3) := by decide +kernel
theorem dSF_offsetJ_89 : decode cSF_offsetJ 89 = .ok (.ireturn, 1) := by decide +kernel
theorem dSF_stackMove_0 : decode cSF_stackMove 0 = .ok (.iload_n 0, 1) := by decide +kernel
theorem dSF_stackMove_1 : decode cSF_stackMove 1 = .ok (.bipush 12, 2) := by decide +kernel
theorem dSF_stackMove_3 : decode cSF_stackMove 3 = .ok (.iconst 1, 1) := by decide +kernel
theorem dSF_stackMove_4 : decode cSF_stackMove 4 = .ok (.invokestatic 7, 3) := by decide +kernel
theorem dSF_stackMove_7 : decode cSF_stackMove 7 = .ok (.bipush 9, 2) := by decide +kernel
theorem dSF_stackMove_9 : decode cSF_stackMove 9 = .ok (.ishl, 1) := by decide +kernel
theorem dSF_stackMove_10 : decode cSF_stackMove 10 = .ok (.iload_n 0, 1) := by decide +kernel
theorem dSF_stackMove_11 : decode cSF_stackMove 11 = .ok (.bipush 6, 2) := by decide +kernel
theorem dSF_stackMove_13 : decode cSF_stackMove 13 = .ok (.iconst 1, 1) := by decide +kernel
theorem dSF_stackMove_14 : decode cSF_stackMove 14 = .ok (.invokestatic 7, 3) := by decide +kernel
theorem dSF_stackMove_17 : decode cSF_stackMove 17 = .ok (.iconst 4, 1) := by decide +kernel
theorem dSF_stackMove_18 : decode cSF_stackMove 18 = .ok (.ishl, 1) := by decide +kernel
theorem dSF_stackMove_19 : decode cSF_stackMove 19 = .ok (.ior, 1) := by decide +kernel
theorem dSF_stackMove_20 : decode cSF_stackMove 20 = .ok (.iload_n 0, 1) := by decide +kernel
theorem dSF_stackMove_21 : decode cSF_stackMove 21 = .ok (.iconst 5, 1) := by decide +kernel
theorem dSF_stackMove_22 : decode cSF_stackMove 22 = .ok (.iconst 1, 1) := by decide +kernel
theorem dSF_stackMove_23 : decode cSF_stackMove 23 = .ok (.invokestatic 7, 3) := by decide +kernel
theorem dSF_stackMove_26 : decode cSF_stackMove 26 = .ok (.bipush 6, 2) := by decide +kernel
theorem dSF_stackMove_28 : decode cSF_stackMove 28 = .ok (.ishl, 1) := by decide +kernel
theorem dSF_stackMove_29 : decode cSF_stackMove 29 = .ok (.ior, 1) := by decide +kernel
theorem dSF_stackMove_30 : decode cSF_stackMove 30 = .ok (.iload_n 0, 1) := by decide +kernel
theorem dSF_stackMove_31 : decode cSF_stackMove 31 = .ok (.iconst 3, 1) := by decide +kernel
theorem dSF_stackMove_32 : decode cSF_stackMove 32 = .ok (.iconst 2, 1) := by decide +kernel
theorem dSF_stackMove_33 : decode cSF_stackMove 33 = .ok (.invokestatic 7, 3) := by decide +kernel
theorem dSF_stackMove_36 : decode cSF_stackMove 36 = .ok (.bipush 7, 2) := by decide +kernel
theorem dSF_stackMove_38 : decode cSF_stackMove 38 = .ok (.ishl, 1) := by decide +kernel
theorem dSF_stackMove_39 : decode cSF_stackMove 39 = .ok (.ior, 1) := by decide +kernel
theorem dSF_stackMove_40 : decode cSF_stackMove 40 = .ok (.iload_n 0, 1) := by decide +kernel
theorem dSF_stackMove_41 : decode cSF_stackMove 41 = .ok (.iconst 2, 1) := by decide +kernel
theorem dSF_stackMove_42 : decode cSF_stackMove 42 = .ok (.iconst 1, 1) := by decide +kernel
theorem dSF_stackMove_43 : decode cSF_stackMove 43 = .ok (.invokestatic 7, 3) := by decide +kernel
theorem dSF_stackMove_46 : decode cSF_stackMove 46 = .ok (.iconst 5, 1) := by decide +kernel
theorem dSF_stackMove_47 : decode cSF_stackMove 47 = .ok (.ishl, 1) := by decide +kernel
theorem dSF_stackMove_48 : decode cSF_stackMove 48 = .ok (.ior, 1) := by decide +kernel
theorem dSF_stackMove_49 : decode cSF_stackMove 49 = .ok (.istore_n 1, 1) := by decide +kernel
theorem dSF_stackMove_50 : decode cSF_stackMove 50 = .ok (.iload_n 1, 1) := by decide +kernel
theorem dSF_stackMove_51 : decode cSF_stackMove 51 = .ok (.bipush 10, 2) := by decide +kernel
theorem dSF_stackMove_53 : decode cSF_stackMove 53 = .ok (.invokestatic 13, 3) := by decide +kernel
theorem dSF_stackMove_56 : decode cSF_stackMove 56 = .ok (.ireturn, 1) := by decide +kernel
theorem dSF_offsetT_0 : decode cSF_offsetT 0 = .ok (.iload_n 0, 1) := by decide +kernel
theorem dSF_offsetT_1 : decode cSF_offsetT 1 = .ok (.bipush 12, 2) := by decide +kernel
theorem dSF_offsetT_3 : decode cSF_offsetT 3 = .ok (.iconst 1, 1) := by decide +kernel
theorem dSF_offsetT_4 : decode cSF_offsetT 4 = .ok (.invokestatic 7, 3) := by decide +kernel
theorem dSF_offsetT_7 : decode cSF_offsetT 7 = .ok (.bipush 8, 2) := by decide +kernel
theorem dSF_offsetT_9 : decode cSF_offsetT 9 = .ok (.ishl, 1) := by decide +kernel
theorem dSF_offsetT_10 : decode cSF_offsetT 10 = .ok (.iload_n 0, 1) := by decide +kernel
theorem dSF_offsetT_11 : decode cSF_offsetT 11 = .ok (.bipush 10, 2) := by decide +kernel
theorem dSF_offsetT_13 : decode cSF_offsetT 13 = .ok (.iconst 2, 1) := by decide +kernel
theorem dSF_offsetT_14 : decode cSF_offsetT 14 = .ok (.invokestatic 7, 3) := by decide +kernel
theorem dSF_offsetT_17 : decode cSF_offsetT 17 = .ok (.iconst 3, 1) := by decide +kernel
theorem dSF_offsetT_18 : decode cSF_offsetT 18 = .ok (.ishl, 1) := by decide +kernel
theorem dSF_offsetT_19 : decode cSF_offsetT 19 = .ok (.ior, 1) := by decide +kernel
theorem dSF_offsetT_20 : decode cSF_offsetT 20 = .ok (.iload_n 0, 1) := by decide +kernel
theorem dSF_offsetT_21 : decode cSF_offsetT 21 = .ok (.iconst 5, 1) := by decide +kernel
theorem dSF_offsetT_22 : decode cSF_offsetT 22 = .ok (.iconst 2, 1) := by decide +kernel
theorem dSF_offsetT_23 : decode cSF_offsetT 23 = .ok (.invokestatic 7, 3) := by decide +kernel
theorem dSF_offsetT_26 : decode cSF_offsetT 26 = .ok (.bipush 6, 2) := by decide +kernel
theorem dSF_offsetT_28 : decode cSF_offsetT 28 = .ok (.ishl, 1) := by decide +kernel
theorem dSF_offsetT_29 : decode cSF_offsetT 29 = .ok (.ior, 1) := by decide +kernel
theorem dSF_offsetT_30 : decode cSF_offsetT 30 = .ok (.iload_n 0, 1) := by decide +kernel
theorem dSF_offsetT_31 : decode cSF_offsetT 31 = .ok (.iconst 3, 1) := by decide +kernel
theorem dSF_offsetT_32 : decode cSF_offsetT 32 = .ok (.iconst 2, 1) := by decide +kernel
theorem dSF_offsetT_33 : decode cSF_offsetT 33 = .ok (.invokestatic 7, 3) := by decide +kernel
theorem dSF_offsetT_36 : decode cSF_offsetT 36 = .ok (.iconst 1, 1) := by decide +kernel
theorem dSF_offsetT_37 : decode cSF_offsetT 37 = .ok (.ishl, 1) := by decide +kernel
theorem dSF_offsetT_38 : decode cSF_offsetT 38 = .ok (.ior, 1) := by decide +kernel
theorem dSF_offsetT_39 : decode cSF_offsetT 39 = .ok (.iload_n 0, 1) := by decide +kernel
theorem dSF_offsetT_40 : decode cSF_offsetT 40 = .ok (.iconst 2, 1) := by decide +kernel
theorem dSF_offsetT_41 : decode cSF_offsetT 41 = .ok (.iconst 1, 1) := by decide +kernel
theorem dSF_offsetT_42 : decode cSF_offsetT 42 = .ok (.invokestatic 7, 3) := by decide +kernel
theorem dSF_offsetT_45 : decode cSF_offsetT 45 = .ok (.iconst 5, 1) := by decide +kernel
theorem dSF_offsetT_46 : decode cSF_offsetT 46 = .ok (.ishl, 1) := by decide +kernel
theorem dSF_offsetT_47 : decode cSF_offsetT 47 = .ok (.ior, 1) := by decide +kernel
theorem dSF_offsetT_48 : decode cSF_offsetT 48 = .ok (.istore_n 1, 1) := by decide +kernel
theorem dSF_offsetT_49 : decode cSF_offsetT 49 = .ok (.iload_n 1, 1) := by decide +kernel
theorem dSF_offsetT_50 : decode cSF_offsetT 50 = .ok (.bipush 9, 2) := by decide +kernel
theorem dSF_offsetT_52 : decode cSF_offsetT 52 = .ok (.invokestatic 13, 3) := by decide +kernel
theorem dSF_offsetT_55 : decode cSF_offsetT 55 = .ok (.ireturn, 1) := by decide +kernel
theorem dSF_stackLoadOffset_0 : decode cSF_stackLoadOffset 0 = .ok (.iload_n 0, 1) := by decide +kernel
theorem dSF_stackLoadOffset_1 : decode cSF_stackLoadOffset 1 = .ok (.bipush 12, 2) := by decide +kernel
theorem dSF_stackLoadOffset_3 : decode cSF_stackLoadOffset 3 = .ok (.iconst 1, 1) := by decide +kernel
theorem dSF_stackLoadOffset_4 : decode cSF_stackLoadOffset 4 = .ok (.invokestatic 7, 3) := by decide +kernel
theorem dSF_stackLoadOffset_7 : decode cSF_stackLoadOffset 7 = .ok (.iconst 5, 1) := by decide +kernel
theorem dSF_stackLoadOffset_8 : decode cSF_stackLoadOffset 8 = .ok (.ishl, 1) := by decide +kernel
theorem dSF_stackLoadOffset_9 : decode cSF_stackLoadOffset 9 = .ok (.iload_n 0, 1) := by decide +kernel
theorem dSF_stackLoadOffset_10 : decode cSF_stackLoadOffset 10 = .ok (.iconst 4, 1) := by decide +kernel
theorem dSF_stackLoadOffset_11 : decode cSF_stackLoadOffset 11 = .ok (.iconst 3, 1) := by decide +kernel
theorem dSF_stackLoadOffset_12 : decode cSF_stackLoadOffset 12 = .ok (.invokestatic 7, 3) := by decide +kernel
theorem dSF_stackLoadOffset_15 : decode cSF_stackLoadOffset 15 = .ok (.iconst 2, 1) := by decide +kernel
theorem dSF_stackLoadOffset_16 : decode cSF_stackLoadOffset 16 = .ok (.ishl, 1) := by decide +kernel
theorem dSF_stackLoadOffset_17 : decode cSF_stackLoadOffset 17 = .ok (.ior, 1) := by decide +kernel
theorem dSF_stackLoadOffset_18 : decode cSF_stackLoadOffset 18 = .ok (.iload_n 0, 1) := by decide +kernel
theorem dSF_stackLoadOffset_19 : decode cSF_stackLoadOffset 19 = .ok (.iconst 2, 1) := by decide +kernel
theorem dSF_stackLoadOffset_20 : decode cSF_stackLoadOffset 20 = .ok (.iconst 2, 1) := by decide +kernel
theorem dSF_stackLoadOffset_21 : decode cSF_stackLoadOffset 21 = .ok (.invokestatic 7, 3) := by decide +kernel
theorem dSF_stackLoadOffset_24 : decode cSF_stackLoadOffset 24 = .ok (.bipush 6, 2) := by decide +kernel
theorem dSF_stackLoadOffset_26 : decode cSF_stackLoadOffset 26 = .ok (.ishl, 1) := by decide +kernel
theorem dSF_stackLoadOffset_27 : decode cSF_stackLoadOffset 27 = .ok (.ior, 1) := by decide +kernel
theorem dSF_stackLoadOffset_28 : decode cSF_stackLoadOffset 28 = .ok (.ireturn, 1) := by decide +kernel
theorem dSF_stackStoreOffset_0 : decode cSF_stackStoreOffset 0 = .ok (.iload_n 0, 1) := by decide +kernel
theorem dSF_stackStoreOffset_1 : decode cSF_stackStoreOffset 1 = .ok (.bipush 9, 2) := by decide +kernel
theorem dSF_stackStoreOffset_3 : decode cSF_stackStoreOffset 3 = .ok (.iconst 4, 1) := by decide +kernel
theorem dSF_stackStoreOffset_4 : decode cSF_stackStoreOffset 4 = .ok (.invokestatic 7, 3) := by decide +kernel
theorem dSF_stackStoreOffset_7 : decode cSF_stackStoreOffset 7 = .ok (.iconst 2, 1) := by decide +kernel
theorem dSF_stackStoreOffset_8 : decode cSF_stackStoreOffset 8 = .ok (.ishl, 1) := by decide +kernel
theorem dSF_stackStoreOffset_9 : decode cSF_stackStoreOffset 9 = .ok (.iload_n 0, 1) := by decide +kernel
theorem dSF_stackStoreOffset_10 : decode cSF_stackStoreOffset 10 = .ok (.bipush 7, 2) := by decide +kernel
theorem dSF_stackStoreOffset_12 : decode cSF_stackStoreOffset 12 = .ok (.iconst 2, 1) := by decide +kernel
theorem dSF_stackStoreOffset_13 : decode cSF_stackStoreOffset 13 = .ok (.invokestatic 7, 3) := by decide +kernel
theorem dSF_stackStoreOffset_16 : decode cSF_stackStoreOffset 16 = .ok (.bipush 6, 2) := by decide +kernel
theorem dSF_stackStoreOffset_18 : decode cSF_stackStoreOffset 18 = .ok (.ishl, 1) := by decide +kernel
theorem dSF_stackStoreOffset_19 : decode cSF_stackStoreOffset 19 = .ok (.ior, 1) := by decide +kernel
theorem dSF_stackStoreOffset_20 : decode cSF_stackStoreOffset 20 = .ok (.ireturn, 1) := by decide +kernel
