abbrev b_LN_init : ByteArray := prog_1_method_1_code
abbrev y_LN_init : MethodName := ⟨"LongNames", "<init>", "()V"⟩
abbrev w_LN_init : List Cond := .code y_LN_init b_LN_init 1 none :: BIG
theorem d_LN_init_0 : decode b_LN_init 0 = .ok (.aload_n 0, 1) := by decide +kernel
theorem d_LN_init_1 : decode b_LN_init 1 = .ok (.invokespecial 1, 3) := by decide +kernel
theorem d_LN_init_4 : decode b_LN_init 4 = .ok (.aload_n 0, 1) := by decide +kernel
theorem d_LN_init_5 : decode b_LN_init 5 = .ok (.new 7, 3) := by decide +kernel
theorem d_LN_init_8 : decode b_LN_init 8 = .ok (.dup, 1) := by decide +kernel
theorem d_LN_init_9 : decode b_LN_init 9 = .ok (.invokespecial 9, 3) := by decide +kernel
theorem d_LN_init_12 : decode b_LN_init 12 = .ok (.putfield 10, 3) := by decide +kernel
theorem d_LN_init_15 : decode b_LN_init 15 = .ok (.aload_n 0, 1) := by decide +kernel
theorem d_LN_init_16 : decode b_LN_init 16 = .ok (.new 7, 3) := by decide +kernel
theorem d_LN_init_19 : decode b_LN_init 19 = .ok (.dup, 1) := by decide +kernel
theorem d_LN_init_20 : decode b_LN_init 20 = .ok (.invokespecial 9, 3) := by decide +kernel
theorem d_LN_init_23 : decode b_LN_init 23 = .ok (.putfield 16, 3) := by decide +kernel
theorem d_LN_init_26 : decode b_LN_init 26 = .ok (.aload_n 0, 1) := by decide +kernel
theorem d_LN_init_27 : decode b_LN_init 27 = .ok (.new 19, 3) := by decide +kernel
theorem d_LN_init_30 : decode b_LN_init 30 = .ok (.dup, 1) := by decide +kernel
theorem d_LN_init_31 : decode b_LN_init 31 = .ok (.invokespecial 21, 3) := by decide +kernel
theorem d_LN_init_34 : decode b_LN_init 34 = .ok (.putfield 22, 3) := by decide +kernel
theorem d_LN_init_37 : decode b_LN_init 37 = .ok (.aload_n 0, 1) := by decide +kernel
theorem d_LN_init_38 : decode b_LN_init 38 = .ok (.new 26, 3) := by decide +kernel
theorem d_LN_init_41 : decode b_LN_init 41 = .ok (.dup, 1) := by decide +kernel
theorem d_LN_init_42 : decode b_LN_init 42 = .ok (.invokespecial 28, 3) := by decide +kernel
theorem d_LN_init_45 : decode b_LN_init 45 = .ok (.putfield 29, 3) := by decide +kernel
theorem d_LN_init_48 : decode b_LN_init 48 = .ok (.aload_n 0, 1) := by decide +kernel
theorem d_LN_init_49 : decode b_LN_init 49 = .ok (.new 33, 3) := by decide +kernel
theorem d_LN_init_52 : decode b_LN_init 52 = .ok (.dup, 1) := by decide +kernel
theorem d_LN_init_53 : decode b_LN_init 53 = .ok (.invokespecial 35, 3) := by decide +kernel
theorem d_LN_init_56 : decode b_LN_init 56 = .ok (.putfield 36, 3) := by decide +kernel
theorem d_LN_init_59 : decode b_LN_init 59 = .ok (.return_, 1) := by decide +kernel
abbrev b_LN_unit : ByteArray := prog_1_method_2_code
abbrev y_LN_unit : MethodName := ⟨"LongNames", "unit", "(II)Z"⟩
abbrev w_LN_unit : List Cond := .code y_LN_unit b_LN_unit 4 (some .boolean) :: BIG
theorem d_LN_unit_0 : decode b_LN_unit 0 = .ok (.aload_n 0, 1) := by decide +kernel
theorem d_LN_unit_1 : decode b_LN_unit 1 = .ok (.iload_n 1, 1) := by decide +kernel
theorem d_LN_unit_2 : decode b_LN_unit 2 = .ok (.invokevirtual 40, 3) := by decide +kernel
theorem d_LN_unit_5 : decode b_LN_unit 5 = .ok (.astore_n 3, 1) := by decide +kernel
theorem d_LN_unit_6 : decode b_LN_unit 6 = .ok (.aload_n 3, 1) := by decide +kernel
theorem d_LN_unit_7 : decode b_LN_unit 7 = .ok (.ifnull 13, 3) := by decide +kernel
theorem d_LN_unit_10 : decode b_LN_unit 10 = .ok (.iload_n 2, 1) := by decide +kernel
theorem d_LN_unit_11 : decode b_LN_unit 11 = .ok (.ifCond .lt 9, 3) := by decide +kernel
theorem d_LN_unit_14 : decode b_LN_unit 14 = .ok (.iload_n 2, 1) := by decide +kernel
theorem d_LN_unit_15 : decode b_LN_unit 15 = .ok (.ldc 44, 2) := by decide +kernel
theorem d_LN_unit_17 : decode b_LN_unit 17 = .ok (.if_icmp .le 5, 3) := by decide +kernel
theorem d_LN_unit_20 : decode b_LN_unit 20 = .ok (.iconst 0, 1) := by decide +kernel
theorem d_LN_unit_21 : decode b_LN_unit 21 = .ok (.ireturn, 1) := by decide +kernel
theorem d_LN_unit_22 : decode b_LN_unit 22 = .ok (.aload_n 3, 1) := by decide +kernel
theorem d_LN_unit_23 : decode b_LN_unit 23 = .ok (.iload_n 2, 1) := by decide +kernel
theorem d_LN_unit_24 : decode b_LN_unit 24 = .ok (.invokevirtual 45, 3) := by decide +kernel
theorem d_LN_unit_27 : decode b_LN_unit 27 = .ok (.ireturn, 1) := by decide +kernel
abbrev b_LN_clear : ByteArray := prog_1_method_3_code
abbrev y_LN_clear : MethodName := ⟨"LongNames", "clear", "(I)I"⟩
abbrev w_LN_clear : List Cond := .code y_LN_clear b_LN_clear 4 (some .int) :: BIG
theorem d_LN_clear_0 : decode b_LN_clear 0 = .ok (.aload_n 0, 1) := by decide +kernel
theorem d_LN_clear_1 : decode b_LN_clear 1 = .ok (.iload_n 1, 1) := by decide +kernel
theorem d_LN_clear_2 : decode b_LN_clear 2 = .ok (.invokevirtual 40, 3) := by decide +kernel
theorem d_LN_clear_5 : decode b_LN_clear 5 = .ok (.astore_n 2, 1) := by decide +kernel
theorem d_LN_clear_6 : decode b_LN_clear 6 = .ok (.aload_n 2, 1) := by decide +kernel
theorem d_LN_clear_7 : decode b_LN_clear 7 = .ok (.ifnonnull 5, 3) := by decide +kernel
theorem d_LN_clear_10 : decode b_LN_clear 10 = .ok (.iconst (-1), 1) := by decide +kernel
theorem d_LN_clear_11 : decode b_LN_clear 11 = .ok (.ireturn, 1) := by decide +kernel
theorem d_LN_clear_12 : decode b_LN_clear 12 = .ok (.aload_n 2, 1) := by decide +kernel
theorem d_LN_clear_13 : decode b_LN_clear 13 = .ok (.invokevirtual 49, 3) := by decide +kernel
theorem d_LN_clear_16 : decode b_LN_clear 16 = .ok (.istore_n 3, 1) := by decide +kernel
theorem d_LN_clear_17 : decode b_LN_clear 17 = .ok (.aload_n 2, 1) := by decide +kernel
theorem d_LN_clear_18 : decode b_LN_clear 18 = .ok (.invokevirtual 53, 3) := by decide +kernel
theorem d_LN_clear_21 : decode b_LN_clear 21 = .ok (.iload_n 3, 1) := by decide +kernel
theorem d_LN_clear_22 : decode b_LN_clear 22 = .ok (.ireturn, 1) := by decide +kernel
abbrev b_LN_about : ByteArray := prog_1_method_4_code
abbrev y_LN_about : MethodName := ⟨"LongNames", "about", "(II)I"⟩
abbrev w_LN_about : List Cond := .code y_LN_about b_LN_about 4 (some .int) :: BIG
theorem d_LN_about_0 : decode b_LN_about 0 = .ok (.aload_n 0, 1) := by decide +kernel
theorem d_LN_about_1 : decode b_LN_about 1 = .ok (.iload_n 1, 1) := by decide +kernel
theorem d_LN_about_2 : decode b_LN_about 2 = .ok (.invokevirtual 40, 3) := by decide +kernel
theorem d_LN_about_5 : decode b_LN_about 5 = .ok (.astore_n 3, 1) := by decide +kernel
theorem d_LN_about_6 : decode b_LN_about 6 = .ok (.aload_n 3, 1) := by decide +kernel
theorem d_LN_about_7 : decode b_LN_about 7 = .ok (.ifnonnull 5, 3) := by decide +kernel
theorem d_LN_about_10 : decode b_LN_about 10 = .ok (.iconst (-1), 1) := by decide +kernel
theorem d_LN_about_11 : decode b_LN_about 11 = .ok (.ireturn, 1) := by decide +kernel
theorem d_LN_about_12 : decode b_LN_about 12 = .ok (.iload_n 2, 1) := by decide +kernel
theorem d_LN_about_13 : decode b_LN_about 13 = .ok (.tableswitch 76 0 4 #[35, 40, 53, 66, 71], 35) := by decide +kernel
theorem d_LN_about_48 : decode b_LN_about 48 = .ok (.aload_n 3, 1) := by decide +kernel
theorem d_LN_about_49 : decode b_LN_about 49 = .ok (.invokevirtual 49, 3) := by decide +kernel
theorem d_LN_about_52 : decode b_LN_about 52 = .ok (.ireturn, 1) := by decide +kernel
theorem d_LN_about_53 : decode b_LN_about 53 = .ok (.aload_n 3, 1) := by decide +kernel
theorem d_LN_about_54 : decode b_LN_about 54 = .ok (.invokevirtual 56, 3) := by decide +kernel
theorem d_LN_about_57 : decode b_LN_about 57 = .ok (.ifCond .eq 7, 3) := by decide +kernel
theorem d_LN_about_60 : decode b_LN_about 60 = .ok (.iconst 1, 1) := by decide +kernel
theorem d_LN_about_61 : decode b_LN_about 61 = .ok (.goto 4, 3) := by decide +kernel
theorem d_LN_about_64 : decode b_LN_about 64 = .ok (.iconst 0, 1) := by decide +kernel
theorem d_LN_about_65 : decode b_LN_about 65 = .ok (.ireturn, 1) := by decide +kernel
theorem d_LN_about_66 : decode b_LN_about 66 = .ok (.aload_n 3, 1) := by decide +kernel
theorem d_LN_about_67 : decode b_LN_about 67 = .ok (.invokevirtual 60, 3) := by decide +kernel
theorem d_LN_about_70 : decode b_LN_about 70 = .ok (.ifCond .eq 7, 3) := by decide +kernel
theorem d_LN_about_73 : decode b_LN_about 73 = .ok (.iconst 1, 1) := by decide +kernel
theorem d_LN_about_74 : decode b_LN_about 74 = .ok (.goto 4, 3) := by decide +kernel
theorem d_LN_about_77 : decode b_LN_about 77 = .ok (.iconst 0, 1) := by decide +kernel
theorem d_LN_about_78 : decode b_LN_about 78 = .ok (.ireturn, 1) := by decide +kernel
theorem d_LN_about_79 : decode b_LN_about 79 = .ok (.aload_n 3, 1) := by decide +kernel
theorem d_LN_about_80 : decode b_LN_about 80 = .ok (.invokevirtual 63, 3) := by decide +kernel
theorem d_LN_about_83 : decode b_LN_about 83 = .ok (.ireturn, 1) := by decide +kernel
theorem d_LN_about_84 : decode b_LN_about 84 = .ok (.aload_n 3, 1) := by decide +kernel
theorem d_LN_about_85 : decode b_LN_about 85 = .ok (.invokevirtual 66, 3) := by decide +kernel
theorem d_LN_about_88 : decode b_LN_about 88 = .ok (.ireturn, 1) := by decide +kernel
theorem d_LN_about_89 : decode b_LN_about 89 = .ok (.iconst (-1), 1) := by decide +kernel
theorem d_LN_about_90 : decode b_LN_about 90 = .ok (.ireturn, 1) := by decide +kernel
abbrev b_LN_letter : ByteArray := prog_1_method_5_code
abbrev y_LN_letter : MethodName := ⟨"LongNames", "letter", "(II)I"⟩
abbrev w_LN_letter : List Cond := .code y_LN_letter b_LN_letter 4 (some .int) :: BIG
theorem d_LN_letter_0 : decode b_LN_letter 0 = .ok (.aload_n 0, 1) := by decide +kernel
theorem d_LN_letter_1 : decode b_LN_letter 1 = .ok (.iload_n 1, 1) := by decide +kernel
theorem d_LN_letter_2 : decode b_LN_letter 2 = .ok (.invokevirtual 40, 3) := by decide +kernel
theorem d_LN_letter_5 : decode b_LN_letter 5 = .ok (.astore_n 3, 1) := by decide +kernel
theorem d_LN_letter_6 : decode b_LN_letter 6 = .ok (.aload_n 3, 1) := by decide +kernel
theorem d_LN_letter_7 : decode b_LN_letter 7 = .ok (.ifnonnull 7, 3) := by decide +kernel
theorem d_LN_letter_10 : decode b_LN_letter 10 = .ok (.iconst (-1), 1) := by decide +kernel
theorem d_LN_letter_11 : decode b_LN_letter 11 = .ok (.goto 8, 3) := by decide +kernel
theorem d_LN_letter_14 : decode b_LN_letter 14 = .ok (.aload_n 3, 1) := by decide +kernel
theorem d_LN_letter_15 : decode b_LN_letter 15 = .ok (.iload_n 2, 1) := by decide +kernel
theorem d_LN_letter_16 : decode b_LN_letter 16 = .ok (.invokevirtual 69, 3) := by decide +kernel
theorem d_LN_letter_19 : decode b_LN_letter 19 = .ok (.ireturn, 1) := by decide +kernel
abbrev b_LN_alike : ByteArray := prog_1_method_6_code
abbrev y_LN_alike : MethodName := ⟨"LongNames", "alike", "()Z"⟩
abbrev w_LN_alike : List Cond := .code y_LN_alike b_LN_alike 1 (some .boolean) :: BIG
theorem d_LN_alike_0 : decode b_LN_alike 0 = .ok (.aload_n 0, 1) := by decide +kernel
theorem d_LN_alike_1 : decode b_LN_alike 1 = .ok (.getfield 10, 3) := by decide +kernel
theorem d_LN_alike_4 : decode b_LN_alike 4 = .ok (.aload_n 0, 1) := by decide +kernel
theorem d_LN_alike_5 : decode b_LN_alike 5 = .ok (.getfield 16, 3) := by decide +kernel
theorem d_LN_alike_8 : decode b_LN_alike 8 = .ok (.invokevirtual 73, 3) := by decide +kernel
theorem d_LN_alike_11 : decode b_LN_alike 11 = .ok (.ireturn, 1) := by decide +kernel
abbrev b_LN_write : ByteArray := prog_1_method_7_code
abbrev y_LN_write : MethodName := ⟨"LongNames", "write", "(III)I"⟩
abbrev w_LN_write : List Cond := .code y_LN_write b_LN_write 6 (some .int) :: BIG
theorem d_LN_write_0 : decode b_LN_write 0 = .ok (.aload_n 0, 1) := by decide +kernel
theorem d_LN_write_1 : decode b_LN_write 1 = .ok (.iload_n 1, 1) := by decide +kernel
theorem d_LN_write_2 : decode b_LN_write 2 = .ok (.invokevirtual 40, 3) := by decide +kernel
theorem d_LN_write_5 : decode b_LN_write 5 = .ok (.astore 4, 2) := by decide +kernel
theorem d_LN_write_7 : decode b_LN_write 7 = .ok (.aload 4, 2) := by decide +kernel
theorem d_LN_write_9 : decode b_LN_write 9 = .ok (.ifnull 11, 3) := by decide +kernel
theorem d_LN_write_12 : decode b_LN_write 12 = .ok (.aload 4, 2) := by decide +kernel
theorem d_LN_write_14 : decode b_LN_write 14 = .ok (.invokevirtual 56, 3) := by decide +kernel
theorem d_LN_write_17 : decode b_LN_write 17 = .ok (.ifCond .ne 13, 3) := by decide +kernel
theorem d_LN_write_20 : decode b_LN_write 20 = .ok (.new 77, 3) := by decide +kernel
theorem d_LN_write_23 : decode b_LN_write 23 = .ok (.dup, 1) := by decide +kernel
theorem d_LN_write_24 : decode b_LN_write 24 = .ok (.ldc 79, 2) := by decide +kernel
theorem d_LN_write_26 : decode b_LN_write 26 = .ok (.invokespecial 81, 3) := by decide +kernel
theorem d_LN_write_29 : decode b_LN_write 29 = .ok (.athrow, 1) := by decide +kernel
theorem d_LN_write_30 : decode b_LN_write 30 = .ok (.iload_n 3, 1) := by decide +kernel
theorem d_LN_write_31 : decode b_LN_write 31 = .ok (.ifCond .lt 10, 3) := by decide +kernel
theorem d_LN_write_34 : decode b_LN_write 34 = .ok (.iload_n 3, 1) := by decide +kernel
theorem d_LN_write_35 : decode b_LN_write 35 = .ok (.sipush 9999, 3) := by decide +kernel
theorem d_LN_write_38 : decode b_LN_write 38 = .ok (.if_icmp .le 13, 3) := by decide +kernel
theorem d_LN_write_41 : decode b_LN_write 41 = .ok (.new 77, 3) := by decide +kernel
theorem d_LN_write_44 : decode b_LN_write 44 = .ok (.dup, 1) := by decide +kernel
theorem d_LN_write_45 : decode b_LN_write 45 = .ok (.ldc 84, 2) := by decide +kernel
theorem d_LN_write_47 : decode b_LN_write 47 = .ok (.invokespecial 81, 3) := by decide +kernel
theorem d_LN_write_50 : decode b_LN_write 50 = .ok (.athrow, 1) := by decide +kernel
theorem d_LN_write_51 : decode b_LN_write 51 = .ok (.iload_n 3, 1) := by decide +kernel
theorem d_LN_write_52 : decode b_LN_write 52 = .ok (.ifCond .ne 21, 3) := by decide +kernel
theorem d_LN_write_55 : decode b_LN_write 55 = .ok (.aload 4, 2) := by decide +kernel
theorem d_LN_write_57 : decode b_LN_write 57 = .ok (.invokevirtual 60, 3) := by decide +kernel
theorem d_LN_write_60 : decode b_LN_write 60 = .ok (.ifCond .ne 13, 3) := by decide +kernel
theorem d_LN_write_63 : decode b_LN_write 63 = .ok (.new 77, 3) := by decide +kernel
theorem d_LN_write_66 : decode b_LN_write 66 = .ok (.dup, 1) := by decide +kernel
theorem d_LN_write_67 : decode b_LN_write 67 = .ok (.ldc 86, 2) := by decide +kernel
theorem d_LN_write_69 : decode b_LN_write 69 = .ok (.invokespecial 81, 3) := by decide +kernel
theorem d_LN_write_72 : decode b_LN_write 72 = .ok (.athrow, 1) := by decide +kernel
theorem d_LN_write_73 : decode b_LN_write 73 = .ok (.iload_n 3, 1) := by decide +kernel
theorem d_LN_write_74 : decode b_LN_write 74 = .ok (.ifCond .ne 7, 3) := by decide +kernel
theorem d_LN_write_77 : decode b_LN_write 77 = .ok (.iconst 0, 1) := by decide +kernel
theorem d_LN_write_78 : decode b_LN_write 78 = .ok (.goto 8, 3) := by decide +kernel
theorem d_LN_write_81 : decode b_LN_write 81 = .ok (.aload 4, 2) := by decide +kernel
theorem d_LN_write_83 : decode b_LN_write 83 = .ok (.invokevirtual 63, 3) := by decide +kernel
theorem d_LN_write_86 : decode b_LN_write 86 = .ok (.istore 5, 2) := by decide +kernel
theorem d_LN_write_88 : decode b_LN_write 88 = .ok (.iload_n 2, 1) := by decide +kernel
theorem d_LN_write_89 : decode b_LN_write 89 = .ok (.invokestatic 88, 3) := by decide +kernel
theorem d_LN_write_92 : decode b_LN_write 92 = .ok (.ifCond .eq 13, 3) := by decide +kernel
theorem d_LN_write_95 : decode b_LN_write 95 = .ok (.iload_n 2, 1) := by decide +kernel
theorem d_LN_write_96 : decode b_LN_write 96 = .ok (.iload 5, 2) := by decide +kernel
theorem d_LN_write_98 : decode b_LN_write 98 = .ok (.iadd, 1) := by decide +kernel
theorem d_LN_write_99 : decode b_LN_write 99 = .ok (.invokestatic 88, 3) := by decide +kernel
theorem d_LN_write_102 : decode b_LN_write 102 = .ok (.ifCond .ne 13, 3) := by decide +kernel
theorem d_LN_write_105 : decode b_LN_write 105 = .ok (.new 91, 3) := by decide +kernel
theorem d_LN_write_108 : decode b_LN_write 108 = .ok (.dup, 1) := by decide +kernel
theorem d_LN_write_109 : decode b_LN_write 109 = .ok (.ldc 93, 2) := by decide +kernel
theorem d_LN_write_111 : decode b_LN_write 111 = .ok (.invokespecial 95, 3) := by decide +kernel
theorem d_LN_write_114 : decode b_LN_write 114 = .ok (.athrow, 1) := by decide +kernel
theorem d_LN_write_115 : decode b_LN_write 115 = .ok (.iload_n 3, 1) := by decide +kernel
theorem d_LN_write_116 : decode b_LN_write 116 = .ok (.ifCond .ne 15, 3) := by decide +kernel
theorem d_LN_write_119 : decode b_LN_write 119 = .ok (.aload_n 0, 1) := by decide +kernel
theorem d_LN_write_120 : decode b_LN_write 120 = .ok (.getfield 22, 3) := by decide +kernel
theorem d_LN_write_123 : decode b_LN_write 123 = .ok (.aload 4, 2) := by decide +kernel
theorem d_LN_write_125 : decode b_LN_write 125 = .ok (.invokevirtual 96, 3) := by decide +kernel
theorem d_LN_write_128 : decode b_LN_write 128 = .ok (.goto 13, 3) := by decide +kernel
theorem d_LN_write_131 : decode b_LN_write 131 = .ok (.aload_n 0, 1) := by decide +kernel
theorem d_LN_write_132 : decode b_LN_write 132 = .ok (.getfield 22, 3) := by decide +kernel
theorem d_LN_write_135 : decode b_LN_write 135 = .ok (.aload 4, 2) := by decide +kernel
theorem d_LN_write_137 : decode b_LN_write 137 = .ok (.iload_n 3, 1) := by decide +kernel
theorem d_LN_write_138 : decode b_LN_write 138 = .ok (.invokevirtual 100, 3) := by decide +kernel
theorem d_LN_write_141 : decode b_LN_write 141 = .ok (.aload_n 0, 1) := by decide +kernel
theorem d_LN_write_142 : decode b_LN_write 142 = .ok (.aload 4, 2) := by decide +kernel
theorem d_LN_write_144 : decode b_LN_write 144 = .ok (.iload_n 2, 1) := by decide +kernel
theorem d_LN_write_145 : decode b_LN_write 145 = .ok (.iload 5, 2) := by decide +kernel
theorem d_LN_write_147 : decode b_LN_write 147 = .ok (.iadd, 1) := by decide +kernel
theorem d_LN_write_148 : decode b_LN_write 148 = .ok (.iload 5, 2) := by decide +kernel
theorem d_LN_write_150 : decode b_LN_write 150 = .ok (.invokevirtual 104, 3) := by decide +kernel
theorem d_LN_write_153 : decode b_LN_write 153 = .ok (.iload 5, 2) := by decide +kernel
theorem d_LN_write_155 : decode b_LN_write 155 = .ok (.iconst 1, 1) := by decide +kernel
theorem d_LN_write_156 : decode b_LN_write 156 = .ok (.iadd, 1) := by decide +kernel
theorem d_LN_write_157 : decode b_LN_write 157 = .ok (.ireturn, 1) := by decide +kernel
abbrev b_LN_read : ByteArray := prog_1_method_8_code
abbrev y_LN_read : MethodName := ⟨"LongNames", "read", "(III)I"⟩
abbrev w_LN_read : List Cond := .code y_LN_read b_LN_read 5 (some .int) :: BIG
theorem d_LN_read_0 : decode b_LN_read 0 = .ok (.aload_n 0, 1) := by decide +kernel
theorem d_LN_read_1 : decode b_LN_read 1 = .ok (.iload_n 1, 1) := by decide +kernel
theorem d_LN_read_2 : decode b_LN_read 2 = .ok (.invokevirtual 40, 3) := by decide +kernel
theorem d_LN_read_5 : decode b_LN_read 5 = .ok (.astore 4, 2) := by decide +kernel
theorem d_LN_read_7 : decode b_LN_read 7 = .ok (.aload 4, 2) := by decide +kernel
theorem d_LN_read_9 : decode b_LN_read 9 = .ok (.ifnonnull 13, 3) := by decide +kernel
theorem d_LN_read_12 : decode b_LN_read 12 = .ok (.new 77, 3) := by decide +kernel
theorem d_LN_read_15 : decode b_LN_read 15 = .ok (.dup, 1) := by decide +kernel
theorem d_LN_read_16 : decode b_LN_read 16 = .ok (.ldc 108, 2) := by decide +kernel
theorem d_LN_read_18 : decode b_LN_read 18 = .ok (.invokespecial 81, 3) := by decide +kernel
theorem d_LN_read_21 : decode b_LN_read 21 = .ok (.athrow, 1) := by decide +kernel
theorem d_LN_read_22 : decode b_LN_read 22 = .ok (.aload 4, 2) := by decide +kernel
theorem d_LN_read_24 : decode b_LN_read 24 = .ok (.invokevirtual 53, 3) := by decide +kernel
theorem d_LN_read_27 : decode b_LN_read 27 = .ok (.iload_n 3, 1) := by decide +kernel
theorem d_LN_read_28 : decode b_LN_read 28 = .ok (.ifCond .lt 9, 3) := by decide +kernel
theorem d_LN_read_31 : decode b_LN_read 31 = .ok (.iload_n 3, 1) := by decide +kernel
theorem d_LN_read_32 : decode b_LN_read 32 = .ok (.bipush 20, 2) := by decide +kernel
theorem d_LN_read_34 : decode b_LN_read 34 = .ok (.if_icmp .le 13, 3) := by decide +kernel
theorem d_LN_read_37 : decode b_LN_read 37 = .ok (.new 77, 3) := by decide +kernel
theorem d_LN_read_40 : decode b_LN_read 40 = .ok (.dup, 1) := by decide +kernel
theorem d_LN_read_41 : decode b_LN_read 41 = .ok (.ldc 110, 2) := by decide +kernel
theorem d_LN_read_43 : decode b_LN_read 43 = .ok (.invokespecial 81, 3) := by decide +kernel
theorem d_LN_read_46 : decode b_LN_read 46 = .ok (.athrow, 1) := by decide +kernel
theorem d_LN_read_47 : decode b_LN_read 47 = .ok (.iload_n 2, 1) := by decide +kernel
theorem d_LN_read_48 : decode b_LN_read 48 = .ok (.invokestatic 88, 3) := by decide +kernel
theorem d_LN_read_51 : decode b_LN_read 51 = .ok (.ifCond .eq 8, 3) := by decide +kernel
theorem d_LN_read_54 : decode b_LN_read 54 = .ok (.iload_n 3, 1) := by decide +kernel
theorem d_LN_read_55 : decode b_LN_read 55 = .ok (.iload_n 2, 1) := by decide +kernel
theorem d_LN_read_56 : decode b_LN_read 56 = .ok (.if_icmp .le 13, 3) := by decide +kernel
theorem d_LN_read_59 : decode b_LN_read 59 = .ok (.new 91, 3) := by decide +kernel
theorem d_LN_read_62 : decode b_LN_read 62 = .ok (.dup, 1) := by decide +kernel
theorem d_LN_read_63 : decode b_LN_read 63 = .ok (.ldc 112, 2) := by decide +kernel
theorem d_LN_read_65 : decode b_LN_read 65 = .ok (.invokespecial 95, 3) := by decide +kernel
theorem d_LN_read_68 : decode b_LN_read 68 = .ok (.athrow, 1) := by decide +kernel
theorem d_LN_read_69 : decode b_LN_read 69 = .ok (.aload_n 0, 1) := by decide +kernel
theorem d_LN_read_70 : decode b_LN_read 70 = .ok (.getfield 22, 3) := by decide +kernel
theorem d_LN_read_73 : decode b_LN_read 73 = .ok (.aload_n 0, 1) := by decide +kernel
theorem d_LN_read_74 : decode b_LN_read 74 = .ok (.getfield 36, 3) := by decide +kernel
theorem d_LN_read_77 : decode b_LN_read 77 = .ok (.iload_n 2, 1) := by decide +kernel
theorem d_LN_read_78 : decode b_LN_read 78 = .ok (.invokevirtual 114, 3) := by decide +kernel
theorem d_LN_read_81 : decode b_LN_read 81 = .ok (.aload_n 0, 1) := by decide +kernel
theorem d_LN_read_82 : decode b_LN_read 82 = .ok (.getfield 22, 3) := by decide +kernel
theorem d_LN_read_85 : decode b_LN_read 85 = .ok (.invokevirtual 118, 3) := by decide +kernel
theorem d_LN_read_88 : decode b_LN_read 88 = .ok (.ifCond .ne 13, 3) := by decide +kernel
theorem d_LN_read_91 : decode b_LN_read 91 = .ok (.new 121, 3) := by decide +kernel
theorem d_LN_read_94 : decode b_LN_read 94 = .ok (.dup, 1) := by decide +kernel
theorem d_LN_read_95 : decode b_LN_read 95 = .ok (.ldc 123, 2) := by decide +kernel
theorem d_LN_read_97 : decode b_LN_read 97 = .ok (.invokespecial 125, 3) := by decide +kernel
theorem d_LN_read_100 : decode b_LN_read 100 = .ok (.athrow, 1) := by decide +kernel
theorem d_LN_read_101 : decode b_LN_read 101 = .ok (.iload_n 3, 1) := by decide +kernel
theorem d_LN_read_102 : decode b_LN_read 102 = .ok (.ifCond .ne 15, 3) := by decide +kernel
theorem d_LN_read_105 : decode b_LN_read 105 = .ok (.aload_n 0, 1) := by decide +kernel
theorem d_LN_read_106 : decode b_LN_read 106 = .ok (.getfield 22, 3) := by decide +kernel
theorem d_LN_read_109 : decode b_LN_read 109 = .ok (.aload 4, 2) := by decide +kernel
theorem d_LN_read_111 : decode b_LN_read 111 = .ok (.invokevirtual 126, 3) := by decide +kernel
theorem d_LN_read_114 : decode b_LN_read 114 = .ok (.goto 29, 3) := by decide +kernel
theorem d_LN_read_117 : decode b_LN_read 117 = .ok (.aload_n 0, 1) := by decide +kernel
theorem d_LN_read_118 : decode b_LN_read 118 = .ok (.aload 4, 2) := by decide +kernel
theorem d_LN_read_120 : decode b_LN_read 120 = .ok (.iload_n 2, 1) := by decide +kernel
theorem d_LN_read_121 : decode b_LN_read 121 = .ok (.iload_n 3, 1) := by decide +kernel
theorem d_LN_read_122 : decode b_LN_read 122 = .ok (.invokevirtual 129, 3) := by decide +kernel
theorem d_LN_read_125 : decode b_LN_read 125 = .ok (.ifCond .ne 18, 3) := by decide +kernel
theorem d_LN_read_128 : decode b_LN_read 128 = .ok (.aload 4, 2) := by decide +kernel
theorem d_LN_read_130 : decode b_LN_read 130 = .ok (.invokevirtual 53, 3) := by decide +kernel
theorem d_LN_read_133 : decode b_LN_read 133 = .ok (.new 121, 3) := by decide +kernel
theorem d_LN_read_136 : decode b_LN_read 136 = .ok (.dup, 1) := by decide +kernel
theorem d_LN_read_137 : decode b_LN_read 137 = .ok (.ldc 133, 2) := by decide +kernel
theorem d_LN_read_139 : decode b_LN_read 139 = .ok (.invokespecial 125, 3) := by decide +kernel
theorem d_LN_read_142 : decode b_LN_read 142 = .ok (.athrow, 1) := by decide +kernel
theorem d_LN_read_143 : decode b_LN_read 143 = .ok (.aload 4, 2) := by decide +kernel
theorem d_LN_read_145 : decode b_LN_read 145 = .ok (.invokevirtual 49, 3) := by decide +kernel
theorem d_LN_read_148 : decode b_LN_read 148 = .ok (.ireturn, 1) := by decide +kernel
abbrev b_LN_poke : ByteArray := prog_1_method_9_code
abbrev y_LN_poke : MethodName := ⟨"LongNames", "poke", "(III)Z"⟩
abbrev w_LN_poke : List Cond := .code y_LN_poke b_LN_poke 4 (some .boolean) :: BIG
theorem d_LN_poke_0 : decode b_LN_poke 0 = .ok (.aload_n 0, 1) := by decide +kernel
theorem d_LN_poke_1 : decode b_LN_poke 1 = .ok (.getfield 36, 3) := by decide +kernel
theorem d_LN_poke_4 : decode b_LN_poke 4 = .ok (.iload_n 1, 1) := by decide +kernel
theorem d_LN_poke_5 : decode b_LN_poke 5 = .ok (.iload_n 2, 1) := by decide +kernel
theorem d_LN_poke_6 : decode b_LN_poke 6 = .ok (.iload_n 3, 1) := by decide +kernel
theorem d_LN_poke_7 : decode b_LN_poke 7 = .ok (.invokevirtual 135, 3) := by decide +kernel
theorem d_LN_poke_10 : decode b_LN_poke 10 = .ok (.ireturn, 1) := by decide +kernel
abbrev b_LN_byteAt : ByteArray := prog_1_method_10_code
abbrev y_LN_byteAt : MethodName := ⟨"LongNames", "byteAt", "(II)I"⟩
abbrev w_LN_byteAt : List Cond := .code y_LN_byteAt b_LN_byteAt 3 (some .int) :: BIG
theorem d_LN_byteAt_0 : decode b_LN_byteAt 0 = .ok (.aload_n 0, 1) := by decide +kernel
theorem d_LN_byteAt_1 : decode b_LN_byteAt 1 = .ok (.getfield 36, 3) := by decide +kernel
theorem d_LN_byteAt_4 : decode b_LN_byteAt 4 = .ok (.iload_n 1, 1) := by decide +kernel
theorem d_LN_byteAt_5 : decode b_LN_byteAt 5 = .ok (.iload_n 2, 1) := by decide +kernel
theorem d_LN_byteAt_6 : decode b_LN_byteAt 6 = .ok (.invokevirtual 139, 3) := by decide +kernel
theorem d_LN_byteAt_9 : decode b_LN_byteAt 9 = .ok (.ireturn, 1) := by decide +kernel
abbrev b_LN_sum : ByteArray := prog_1_method_11_code
abbrev y_LN_sum : MethodName := ⟨"LongNames", "sum", "(I)I"⟩
abbrev w_LN_sum : List Cond := .code y_LN_sum b_LN_sum 2 (some .int) :: BIG
theorem d_LN_sum_0 : decode b_LN_sum 0 = .ok (.iload_n 1, 1) := by decide +kernel
theorem d_LN_sum_1 : decode b_LN_sum 1 = .ok (.invokestatic 88, 3) := by decide +kernel
theorem d_LN_sum_4 : decode b_LN_sum 4 = .ok (.ifCond .eq 14, 3) := by decide +kernel
theorem d_LN_sum_7 : decode b_LN_sum 7 = .ok (.aload_n 0, 1) := by decide +kernel
theorem d_LN_sum_8 : decode b_LN_sum 8 = .ok (.getfield 36, 3) := by decide +kernel
theorem d_LN_sum_11 : decode b_LN_sum 11 = .ok (.iload_n 1, 1) := by decide +kernel
theorem d_LN_sum_12 : decode b_LN_sum 12 = .ok (.invokevirtual 143, 3) := by decide +kernel
theorem d_LN_sum_15 : decode b_LN_sum 15 = .ok (.goto 4, 3) := by decide +kernel
theorem d_LN_sum_18 : decode b_LN_sum 18 = .ok (.iconst (-1), 1) := by decide +kernel
theorem d_LN_sum_19 : decode b_LN_sum 19 = .ok (.ireturn, 1) := by decide +kernel
abbrev b_LN_seconds : ByteArray := prog_1_method_12_code
abbrev y_LN_seconds : MethodName := ⟨"LongNames", "seconds", "(II)J"⟩
abbrev w_LN_seconds : List Cond := .code y_LN_seconds b_LN_seconds 3 (some .long) :: BIG
theorem d_LN_seconds_0 : decode b_LN_seconds 0 = .ok (.iload_n 1, 1) := by decide +kernel
theorem d_LN_seconds_1 : decode b_LN_seconds 1 = .ok (.invokestatic 146, 3) := by decide +kernel
theorem d_LN_seconds_4 : decode b_LN_seconds 4 = .ok (.ifCond .eq 10, 3) := by decide +kernel
theorem d_LN_seconds_7 : decode b_LN_seconds 7 = .ok (.iload_n 2, 1) := by decide +kernel
theorem d_LN_seconds_8 : decode b_LN_seconds 8 = .ok (.invokestatic 151, 3) := by decide +kernel
theorem d_LN_seconds_11 : decode b_LN_seconds 11 = .ok (.ifCond .ne 7, 3) := by decide +kernel
theorem d_LN_seconds_14 : decode b_LN_seconds 14 = .ok (.ldc2_w 154, 3) := by decide +kernel
theorem d_LN_seconds_17 : decode b_LN_seconds 17 = .ok (.lreturn, 1) := by decide +kernel
theorem d_LN_seconds_18 : decode b_LN_seconds 18 = .ok (.iload_n 1, 1) := by decide +kernel
theorem d_LN_seconds_19 : decode b_LN_seconds 19 = .ok (.invokestatic 156, 3) := by decide +kernel
theorem d_LN_seconds_22 : decode b_LN_seconds 22 = .ok (.iload_n 2, 1) := by decide +kernel
theorem d_LN_seconds_23 : decode b_LN_seconds 23 = .ok (.invokestatic 160, 3) := by decide +kernel
theorem d_LN_seconds_26 : decode b_LN_seconds 26 = .ok (.ladd, 1) := by decide +kernel
theorem d_LN_seconds_27 : decode b_LN_seconds 27 = .ok (.lreturn, 1) := by decide +kernel
abbrev b_LN_rowOf : ByteArray := prog_1_method_13_code
abbrev y_LN_rowOf : MethodName := ⟨"LongNames", "rowOf", "(I)LLongNames$Row;"⟩
abbrev w_LN_rowOf : List Cond := .code y_LN_rowOf b_LN_rowOf 2 (some (.object "LongNames$Row")) :: BIG
theorem d_LN_rowOf_0 : decode b_LN_rowOf 0 = .ok (.iload_n 1, 1) := by decide +kernel
theorem d_LN_rowOf_1 : decode b_LN_rowOf 1 = .ok (.ifCond .ne 8, 3) := by decide +kernel
theorem d_LN_rowOf_4 : decode b_LN_rowOf 4 = .ok (.aload_n 0, 1) := by decide +kernel
theorem d_LN_rowOf_5 : decode b_LN_rowOf 5 = .ok (.getfield 10, 3) := by decide +kernel
theorem d_LN_rowOf_8 : decode b_LN_rowOf 8 = .ok (.areturn, 1) := by decide +kernel
theorem d_LN_rowOf_9 : decode b_LN_rowOf 9 = .ok (.iload_n 1, 1) := by decide +kernel
theorem d_LN_rowOf_10 : decode b_LN_rowOf 10 = .ok (.iconst 1, 1) := by decide +kernel
theorem d_LN_rowOf_11 : decode b_LN_rowOf 11 = .ok (.if_icmp .ne 10, 3) := by decide +kernel
theorem d_LN_rowOf_14 : decode b_LN_rowOf 14 = .ok (.aload_n 0, 1) := by decide +kernel
theorem d_LN_rowOf_15 : decode b_LN_rowOf 15 = .ok (.getfield 16, 3) := by decide +kernel
theorem d_LN_rowOf_18 : decode b_LN_rowOf 18 = .ok (.goto 4, 3) := by decide +kernel
theorem d_LN_rowOf_21 : decode b_LN_rowOf 21 = .ok (.aconst_null, 1) := by decide +kernel
theorem d_LN_rowOf_22 : decode b_LN_rowOf 22 = .ok (.areturn, 1) := by decide +kernel
abbrev b_LN_writeSlots : ByteArray := prog_1_method_14_code
abbrev y_LN_writeSlots : MethodName := ⟨"LongNames", "writeSlots", "(LLongNames$Row;II)V"⟩
abbrev w_LN_writeSlots : List Cond := .code y_LN_writeSlots b_LN_writeSlots 6 none :: BIG
theorem d_LN_writeSlots_0 : decode b_LN_writeSlots 0 = .ok (.aload_n 0, 1) := by decide +kernel
theorem d_LN_writeSlots_1 : decode b_LN_writeSlots 1 = .ok (.getfield 22, 3) := by decide +kernel
theorem d_LN_writeSlots_4 : decode b_LN_writeSlots 4 = .ok (.aload_n 0, 1) := by decide +kernel
theorem d_LN_writeSlots_5 : decode b_LN_writeSlots 5 = .ok (.getfield 36, 3) := by decide +kernel
theorem d_LN_writeSlots_8 : decode b_LN_writeSlots 8 = .ok (.iload_n 2, 1) := by decide +kernel
theorem d_LN_writeSlots_9 : decode b_LN_writeSlots 9 = .ok (.invokevirtual 163, 3) := by decide +kernel
theorem d_LN_writeSlots_12 : decode b_LN_writeSlots 12 = .ok (.aload_n 0, 1) := by decide +kernel
theorem d_LN_writeSlots_13 : decode b_LN_writeSlots 13 = .ok (.getfield 36, 3) := by decide +kernel
theorem d_LN_writeSlots_16 : decode b_LN_writeSlots 16 = .ok (.iload_n 2, 1) := by decide +kernel
theorem d_LN_writeSlots_17 : decode b_LN_writeSlots 17 = .ok (.invokevirtual 143, 3) := by decide +kernel
theorem d_LN_writeSlots_20 : decode b_LN_writeSlots 20 = .ok (.istore 4, 2) := by decide +kernel
theorem d_LN_writeSlots_22 : decode b_LN_writeSlots 22 = .ok (.iconst 1, 1) := by decide +kernel
theorem d_LN_writeSlots_23 : decode b_LN_writeSlots 23 = .ok (.istore 5, 2) := by decide +kernel
theorem d_LN_writeSlots_25 : decode b_LN_writeSlots 25 = .ok (.iload 5, 2) := by decide +kernel
theorem d_LN_writeSlots_27 : decode b_LN_writeSlots 27 = .ok (.iload_n 3, 1) := by decide +kernel
theorem d_LN_writeSlots_28 : decode b_LN_writeSlots 28 = .ok (.if_icmp .gt 36, 3) := by decide +kernel
theorem d_LN_writeSlots_31 : decode b_LN_writeSlots 31 = .ok (.aload_n 0, 1) := by decide +kernel
theorem d_LN_writeSlots_32 : decode b_LN_writeSlots 32 = .ok (.getfield 29, 3) := by decide +kernel
theorem d_LN_writeSlots_35 : decode b_LN_writeSlots 35 = .ok (.aload_n 1, 1) := by decide +kernel
theorem d_LN_writeSlots_36 : decode b_LN_writeSlots 36 = .ok (.iload 5, 2) := by decide +kernel
theorem d_LN_writeSlots_38 : decode b_LN_writeSlots 38 = .ok (.iload 4, 2) := by decide +kernel
theorem d_LN_writeSlots_40 : decode b_LN_writeSlots 40 = .ok (.invokevirtual 166, 3) := by decide +kernel
theorem d_LN_writeSlots_43 : decode b_LN_writeSlots 43 = .ok (.aload_n 0, 1) := by decide +kernel
theorem d_LN_writeSlots_44 : decode b_LN_writeSlots 44 = .ok (.getfield 29, 3) := by decide +kernel
theorem d_LN_writeSlots_47 : decode b_LN_writeSlots 47 = .ok (.aload_n 0, 1) := by decide +kernel
theorem d_LN_writeSlots_48 : decode b_LN_writeSlots 48 = .ok (.getfield 36, 3) := by decide +kernel
theorem d_LN_writeSlots_51 : decode b_LN_writeSlots 51 = .ok (.iload_n 2, 1) := by decide +kernel
theorem d_LN_writeSlots_52 : decode b_LN_writeSlots 52 = .ok (.iload 5, 2) := by decide +kernel
theorem d_LN_writeSlots_54 : decode b_LN_writeSlots 54 = .ok (.isub, 1) := by decide +kernel
theorem d_LN_writeSlots_55 : decode b_LN_writeSlots 55 = .ok (.invokevirtual 169, 3) := by decide +kernel
theorem d_LN_writeSlots_58 : decode b_LN_writeSlots 58 = .ok (.iinc 5 1, 3) := by decide +kernel
theorem d_LN_writeSlots_61 : decode b_LN_writeSlots 61 = .ok (.goto (-36), 3) := by decide +kernel
theorem d_LN_writeSlots_64 : decode b_LN_writeSlots 64 = .ok (.return_, 1) := by decide +kernel
abbrev b_LN_readParts : ByteArray := prog_1_method_15_code
abbrev y_LN_readParts : MethodName := ⟨"LongNames", "readParts", "(LLongNames$Row;II)Z"⟩
abbrev w_LN_readParts : List Cond := .code y_LN_readParts b_LN_readParts 6 (some .boolean) :: BIG
theorem d_LN_readParts_0 : decode b_LN_readParts 0 = .ok (.aload_n 0, 1) := by decide +kernel
theorem d_LN_readParts_1 : decode b_LN_readParts 1 = .ok (.aload_n 1, 1) := by decide +kernel
theorem d_LN_readParts_2 : decode b_LN_readParts 2 = .ok (.iload_n 2, 1) := by decide +kernel
theorem d_LN_readParts_3 : decode b_LN_readParts 3 = .ok (.iload_n 3, 1) := by decide +kernel
theorem d_LN_readParts_4 : decode b_LN_readParts 4 = .ok (.invokevirtual 172, 3) := by decide +kernel
theorem d_LN_readParts_7 : decode b_LN_readParts 7 = .ok (.aload_n 1, 1) := by decide +kernel
theorem d_LN_readParts_8 : decode b_LN_readParts 8 = .ok (.invokevirtual 56, 3) := by decide +kernel
theorem d_LN_readParts_11 : decode b_LN_readParts 11 = .ok (.ifCond .eq 11, 3) := by decide +kernel
theorem d_LN_readParts_14 : decode b_LN_readParts 14 = .ok (.aload_n 1, 1) := by decide +kernel
theorem d_LN_readParts_15 : decode b_LN_readParts 15 = .ok (.invokevirtual 63, 3) := by decide +kernel
theorem d_LN_readParts_18 : decode b_LN_readParts 18 = .ok (.iload_n 3, 1) := by decide +kernel
theorem d_LN_readParts_19 : decode b_LN_readParts 19 = .ok (.if_icmp .eq 5, 3) := by decide +kernel
theorem d_LN_readParts_22 : decode b_LN_readParts 22 = .ok (.iconst 0, 1) := by decide +kernel
theorem d_LN_readParts_23 : decode b_LN_readParts 23 = .ok (.ireturn, 1) := by decide +kernel
theorem d_LN_readParts_24 : decode b_LN_readParts 24 = .ok (.aload_n 0, 1) := by decide +kernel
theorem d_LN_readParts_25 : decode b_LN_readParts 25 = .ok (.getfield 36, 3) := by decide +kernel
theorem d_LN_readParts_28 : decode b_LN_readParts 28 = .ok (.iload_n 2, 1) := by decide +kernel
theorem d_LN_readParts_29 : decode b_LN_readParts 29 = .ok (.invokevirtual 143, 3) := by decide +kernel
theorem d_LN_readParts_32 : decode b_LN_readParts 32 = .ok (.istore 4, 2) := by decide +kernel
theorem d_LN_readParts_34 : decode b_LN_readParts 34 = .ok (.iconst 1, 1) := by decide +kernel
theorem d_LN_readParts_35 : decode b_LN_readParts 35 = .ok (.istore 5, 2) := by decide +kernel
theorem d_LN_readParts_37 : decode b_LN_readParts 37 = .ok (.iload 5, 2) := by decide +kernel
theorem d_LN_readParts_39 : decode b_LN_readParts 39 = .ok (.iload_n 3, 1) := by decide +kernel
theorem d_LN_readParts_40 : decode b_LN_readParts 40 = .ok (.if_icmp .gt 41, 3) := by decide +kernel
theorem d_LN_readParts_43 : decode b_LN_readParts 43 = .ok (.aload_n 0, 1) := by decide +kernel
theorem d_LN_readParts_44 : decode b_LN_readParts 44 = .ok (.getfield 29, 3) := by decide +kernel
theorem d_LN_readParts_47 : decode b_LN_readParts 47 = .ok (.aload_n 1, 1) := by decide +kernel
theorem d_LN_readParts_48 : decode b_LN_readParts 48 = .ok (.iload 5, 2) := by decide +kernel
theorem d_LN_readParts_50 : decode b_LN_readParts 50 = .ok (.iload 4, 2) := by decide +kernel
theorem d_LN_readParts_52 : decode b_LN_readParts 52 = .ok (.invokevirtual 166, 3) := by decide +kernel
theorem d_LN_readParts_55 : decode b_LN_readParts 55 = .ok (.aload_n 0, 1) := by decide +kernel
theorem d_LN_readParts_56 : decode b_LN_readParts 56 = .ok (.getfield 29, 3) := by decide +kernel
theorem d_LN_readParts_59 : decode b_LN_readParts 59 = .ok (.aload_n 0, 1) := by decide +kernel
theorem d_LN_readParts_60 : decode b_LN_readParts 60 = .ok (.getfield 36, 3) := by decide +kernel
theorem d_LN_readParts_63 : decode b_LN_readParts 63 = .ok (.iload_n 2, 1) := by decide +kernel
theorem d_LN_readParts_64 : decode b_LN_readParts 64 = .ok (.iload 5, 2) := by decide +kernel
theorem d_LN_readParts_66 : decode b_LN_readParts 66 = .ok (.isub, 1) := by decide +kernel
theorem d_LN_readParts_67 : decode b_LN_readParts 67 = .ok (.invokevirtual 175, 3) := by decide +kernel
theorem d_LN_readParts_70 : decode b_LN_readParts 70 = .ok (.ifCond .ne 5, 3) := by decide +kernel
theorem d_LN_readParts_73 : decode b_LN_readParts 73 = .ok (.iconst 0, 1) := by decide +kernel
theorem d_LN_readParts_74 : decode b_LN_readParts 74 = .ok (.ireturn, 1) := by decide +kernel
theorem d_LN_readParts_75 : decode b_LN_readParts 75 = .ok (.iinc 5 1, 3) := by decide +kernel
theorem d_LN_readParts_78 : decode b_LN_readParts 78 = .ok (.goto (-41), 3) := by decide +kernel
theorem d_LN_readParts_81 : decode b_LN_readParts 81 = .ok (.iconst 1, 1) := by decide +kernel
theorem d_LN_readParts_82 : decode b_LN_readParts 82 = .ok (.ireturn, 1) := by decide +kernel
abbrev b_LN_collectUnits : ByteArray := prog_1_method_16_code
abbrev y_LN_collectUnits : MethodName := ⟨"LongNames", "collectUnits", "(LLongNames$Row;II)V"⟩
abbrev w_LN_collectUnits : List Cond := .code y_LN_collectUnits b_LN_collectUnits 7 none :: BIG
theorem d_LN_collectUnits_0 : decode b_LN_collectUnits 0 = .ok (.iconst 1, 1) := by decide +kernel
theorem d_LN_collectUnits_1 : decode b_LN_collectUnits 1 = .ok (.istore 4, 2) := by decide +kernel
theorem d_LN_collectUnits_3 : decode b_LN_collectUnits 3 = .ok (.iload 4, 2) := by decide +kernel
theorem d_LN_collectUnits_5 : decode b_LN_collectUnits 5 = .ok (.iload_n 3, 1) := by decide +kernel
theorem d_LN_collectUnits_6 : decode b_LN_collectUnits 6 = .ok (.if_icmp .gt 55, 3) := by decide +kernel
theorem d_LN_collectUnits_9 : decode b_LN_collectUnits 9 = .ok (.iconst 0, 1) := by decide +kernel
theorem d_LN_collectUnits_10 : decode b_LN_collectUnits 10 = .ok (.istore 5, 2) := by decide +kernel
theorem d_LN_collectUnits_12 : decode b_LN_collectUnits 12 = .ok (.iload 5, 2) := by decide +kernel
theorem d_LN_collectUnits_14 : decode b_LN_collectUnits 14 = .ok (.bipush 13, 2) := by decide +kernel
theorem d_LN_collectUnits_16 : decode b_LN_collectUnits 16 = .ok (.if_icmp .ge 39, 3) := by decide +kernel
theorem d_LN_collectUnits_19 : decode b_LN_collectUnits 19 = .ok (.aload_n 0, 1) := by decide +kernel
theorem d_LN_collectUnits_20 : decode b_LN_collectUnits 20 = .ok (.getfield 36, 3) := by decide +kernel
theorem d_LN_collectUnits_23 : decode b_LN_collectUnits 23 = .ok (.iload_n 2, 1) := by decide +kernel
theorem d_LN_collectUnits_24 : decode b_LN_collectUnits 24 = .ok (.iload 4, 2) := by decide +kernel
theorem d_LN_collectUnits_26 : decode b_LN_collectUnits 26 = .ok (.isub, 1) := by decide +kernel
theorem d_LN_collectUnits_27 : decode b_LN_collectUnits 27 = .ok (.iload 5, 2) := by decide +kernel
theorem d_LN_collectUnits_29 : decode b_LN_collectUnits 29 = .ok (.invokestatic 179, 3) := by decide +kernel
theorem d_LN_collectUnits_32 : decode b_LN_collectUnits 32 = .ok (.istore 6, 2) := by decide +kernel
theorem d_LN_collectUnits_34 : decode b_LN_collectUnits 34 = .ok (.iload 6, 2) := by decide +kernel
theorem d_LN_collectUnits_36 : decode b_LN_collectUnits 36 = .ok (.ifCond .le 12, 3) := by decide +kernel
theorem d_LN_collectUnits_39 : decode b_LN_collectUnits 39 = .ok (.aload_n 1, 1) := by decide +kernel
theorem d_LN_collectUnits_40 : decode b_LN_collectUnits 40 = .ok (.iload 6, 2) := by decide +kernel
theorem d_LN_collectUnits_42 : decode b_LN_collectUnits 42 = .ok (.invokevirtual 45, 3) := by decide +kernel
theorem d_LN_collectUnits_45 : decode b_LN_collectUnits 45 = .ok (.ifCond .ne 4, 3) := by decide +kernel
theorem d_LN_collectUnits_48 : decode b_LN_collectUnits 48 = .ok (.return_, 1) := by decide +kernel
theorem d_LN_collectUnits_49 : decode b_LN_collectUnits 49 = .ok (.iinc 5 1, 3) := by decide +kernel
theorem d_LN_collectUnits_52 : decode b_LN_collectUnits 52 = .ok (.goto (-40), 3) := by decide +kernel
theorem d_LN_collectUnits_55 : decode b_LN_collectUnits 55 = .ok (.iinc 4 1, 3) := by decide +kernel
theorem d_LN_collectUnits_58 : decode b_LN_collectUnits 58 = .ok (.goto (-55), 3) := by decide +kernel
theorem d_LN_collectUnits_61 : decode b_LN_collectUnits 61 = .ok (.return_, 1) := by decide +kernel
abbrev b_Ro_init : ByteArray := prog_4_method_1_code
abbrev y_Ro_init : MethodName := ⟨"LongNames$Row", "<init>", "()V"⟩
abbrev w_Ro_init : List Cond := .code y_Ro_init b_Ro_init 1 none :: BIG
theorem d_Ro_init_0 : decode b_Ro_init 0 = .ok (.aload_n 0, 1) := by decide +kernel
theorem d_Ro_init_1 : decode b_Ro_init 1 = .ok (.invokespecial 3, 3) := by decide +kernel
theorem d_Ro_init_4 : decode b_Ro_init 4 = .ok (.aload_n 0, 1) := by decide +kernel
theorem d_Ro_init_5 : decode b_Ro_init 5 = .ok (.sipush 255, 3) := by decide +kernel
theorem d_Ro_init_8 : decode b_Ro_init 8 = .ok (.newarray .int, 2) := by decide +kernel
theorem d_Ro_init_10 : decode b_Ro_init 10 = .ok (.putfield 11, 3) := by decide +kernel
theorem d_Ro_init_13 : decode b_Ro_init 13 = .ok (.return_, 1) := by decide +kernel
abbrev b_Ro_size : ByteArray := prog_4_method_2_code
abbrev y_Ro_size : MethodName := ⟨"LongNames$Row", "size", "()I"⟩
abbrev w_Ro_size : List Cond := .code y_Ro_size b_Ro_size 1 (some .int) :: BIG
theorem d_Ro_size_0 : decode b_Ro_size 0 = .ok (.aload_n 0, 1) := by decide +kernel
theorem d_Ro_size_1 : decode b_Ro_size 1 = .ok (.getfield 15, 3) := by decide +kernel
theorem d_Ro_size_4 : decode b_Ro_size 4 = .ok (.ireturn, 1) := by decide +kernel
abbrev b_Ro_makeEmpty : ByteArray := prog_4_method_3_code
abbrev y_Ro_makeEmpty : MethodName := ⟨"LongNames$Row", "makeEmpty", "()V"⟩
abbrev w_Ro_makeEmpty : List Cond := .code y_Ro_makeEmpty b_Ro_makeEmpty 1 none :: BIG
theorem d_Ro_makeEmpty_0 : decode b_Ro_makeEmpty 0 = .ok (.aload_n 0, 1) := by decide +kernel
theorem d_Ro_makeEmpty_1 : decode b_Ro_makeEmpty 1 = .ok (.iconst 0, 1) := by decide +kernel
theorem d_Ro_makeEmpty_2 : decode b_Ro_makeEmpty 2 = .ok (.putfield 15, 3) := by decide +kernel
theorem d_Ro_makeEmpty_5 : decode b_Ro_makeEmpty 5 = .ok (.return_, 1) := by decide +kernel
abbrev b_Ro_append : ByteArray := prog_4_method_4_code
abbrev y_Ro_append : MethodName := ⟨"LongNames$Row", "append", "(I)Z"⟩
abbrev w_Ro_append : List Cond := .code y_Ro_append b_Ro_append 2 (some .boolean) :: BIG
theorem d_Ro_append_0 : decode b_Ro_append 0 = .ok (.aload_n 0, 1) := by decide +kernel
theorem d_Ro_append_1 : decode b_Ro_append 1 = .ok (.getfield 15, 3) := by decide +kernel
theorem d_Ro_append_4 : decode b_Ro_append 4 = .ok (.ifCond .lt 13, 3) := by decide +kernel
theorem d_Ro_append_7 : decode b_Ro_append 7 = .ok (.aload_n 0, 1) := by decide +kernel
theorem d_Ro_append_8 : decode b_Ro_append 8 = .ok (.getfield 15, 3) := by decide +kernel
theorem d_Ro_append_11 : decode b_Ro_append 11 = .ok (.sipush 255, 3) := by decide +kernel
theorem d_Ro_append_14 : decode b_Ro_append 14 = .ok (.if_icmp .lt 5, 3) := by decide +kernel
theorem d_Ro_append_17 : decode b_Ro_append 17 = .ok (.iconst 0, 1) := by decide +kernel
theorem d_Ro_append_18 : decode b_Ro_append 18 = .ok (.ireturn, 1) := by decide +kernel
theorem d_Ro_append_19 : decode b_Ro_append 19 = .ok (.aload_n 0, 1) := by decide +kernel
theorem d_Ro_append_20 : decode b_Ro_append 20 = .ok (.getfield 11, 3) := by decide +kernel
theorem d_Ro_append_23 : decode b_Ro_append 23 = .ok (.aload_n 0, 1) := by decide +kernel
theorem d_Ro_append_24 : decode b_Ro_append 24 = .ok (.getfield 15, 3) := by decide +kernel
theorem d_Ro_append_27 : decode b_Ro_append 27 = .ok (.iload_n 1, 1) := by decide +kernel
theorem d_Ro_append_28 : decode b_Ro_append 28 = .ok (.iastore, 1) := by decide +kernel
theorem d_Ro_append_29 : decode b_Ro_append 29 = .ok (.aload_n 0, 1) := by decide +kernel
theorem d_Ro_append_30 : decode b_Ro_append 30 = .ok (.dup, 1) := by decide +kernel
theorem d_Ro_append_31 : decode b_Ro_append 31 = .ok (.getfield 15, 3) := by decide +kernel
theorem d_Ro_append_34 : decode b_Ro_append 34 = .ok (.iconst 1, 1) := by decide +kernel
theorem d_Ro_append_35 : decode b_Ro_append 35 = .ok (.iadd, 1) := by decide +kernel
theorem d_Ro_append_36 : decode b_Ro_append 36 = .ok (.putfield 15, 3) := by decide +kernel
theorem d_Ro_append_39 : decode b_Ro_append 39 = .ok (.iconst 1, 1) := by decide +kernel
theorem d_Ro_append_40 : decode b_Ro_append 40 = .ok (.ireturn, 1) := by decide +kernel
abbrev b_Ro_get : ByteArray := prog_4_method_5_code
abbrev y_Ro_get : MethodName := ⟨"LongNames$Row", "get", "(I)I"⟩
abbrev w_Ro_get : List Cond := .code y_Ro_get b_Ro_get 2 (some .int) :: BIG
theorem d_Ro_get_0 : decode b_Ro_get 0 = .ok (.iload_n 1, 1) := by decide +kernel
theorem d_Ro_get_1 : decode b_Ro_get 1 = .ok (.ifCond .lt 27, 3) := by decide +kernel
theorem d_Ro_get_4 : decode b_Ro_get 4 = .ok (.iload_n 1, 1) := by decide +kernel
theorem d_Ro_get_5 : decode b_Ro_get 5 = .ok (.aload_n 0, 1) := by decide +kernel
theorem d_Ro_get_6 : decode b_Ro_get 6 = .ok (.getfield 15, 3) := by decide +kernel
theorem d_Ro_get_9 : decode b_Ro_get 9 = .ok (.if_icmp .ge 19, 3) := by decide +kernel
theorem d_Ro_get_12 : decode b_Ro_get 12 = .ok (.iload_n 1, 1) := by decide +kernel
theorem d_Ro_get_13 : decode b_Ro_get 13 = .ok (.sipush 255, 3) := by decide +kernel
theorem d_Ro_get_16 : decode b_Ro_get 16 = .ok (.if_icmp .ge 12, 3) := by decide +kernel
theorem d_Ro_get_19 : decode b_Ro_get 19 = .ok (.aload_n 0, 1) := by decide +kernel
theorem d_Ro_get_20 : decode b_Ro_get 20 = .ok (.getfield 11, 3) := by decide +kernel
theorem d_Ro_get_23 : decode b_Ro_get 23 = .ok (.iload_n 1, 1) := by decide +kernel
theorem d_Ro_get_24 : decode b_Ro_get 24 = .ok (.iaload, 1) := by decide +kernel
theorem d_Ro_get_25 : decode b_Ro_get 25 = .ok (.goto 4, 3) := by decide +kernel
theorem d_Ro_get_28 : decode b_Ro_get 28 = .ok (.iconst (-1), 1) := by decide +kernel
theorem d_Ro_get_29 : decode b_Ro_get 29 = .ok (.ireturn, 1) := by decide +kernel
abbrev b_Ro_isName : ByteArray := prog_4_method_6_code
abbrev y_Ro_isName : MethodName := ⟨"LongNames$Row", "isName", "()Z"⟩
abbrev w_Ro_isName : List Cond := .code y_Ro_isName b_Ro_isName 2 (some .boolean) :: BIG
theorem d_Ro_isName_0 : decode b_Ro_isName 0 = .ok (.iconst 0, 1) := by decide +kernel
theorem d_Ro_isName_1 : decode b_Ro_isName 1 = .ok (.istore_n 1, 1) := by decide +kernel
theorem d_Ro_isName_2 : decode b_Ro_isName 2 = .ok (.iload_n 1, 1) := by decide +kernel
theorem d_Ro_isName_3 : decode b_Ro_isName 3 = .ok (.aload_n 0, 1) := by decide +kernel
theorem d_Ro_isName_4 : decode b_Ro_isName 4 = .ok (.getfield 15, 3) := by decide +kernel
theorem d_Ro_isName_7 : decode b_Ro_isName 7 = .ok (.if_icmp .ge 22, 3) := by decide +kernel
theorem d_Ro_isName_10 : decode b_Ro_isName 10 = .ok (.aload_n 0, 1) := by decide +kernel
theorem d_Ro_isName_11 : decode b_Ro_isName 11 = .ok (.iload_n 1, 1) := by decide +kernel
theorem d_Ro_isName_12 : decode b_Ro_isName 12 = .ok (.invokevirtual 19, 3) := by decide +kernel
theorem d_Ro_isName_15 : decode b_Ro_isName 15 = .ok (.invokestatic 23, 3) := by decide +kernel
theorem d_Ro_isName_18 : decode b_Ro_isName 18 = .ok (.ifCond .ne 5, 3) := by decide +kernel
theorem d_Ro_isName_21 : decode b_Ro_isName 21 = .ok (.iconst 0, 1) := by decide +kernel
theorem d_Ro_isName_22 : decode b_Ro_isName 22 = .ok (.ireturn, 1) := by decide +kernel
theorem d_Ro_isName_23 : decode b_Ro_isName 23 = .ok (.iinc 1 1, 3) := by decide +kernel
theorem d_Ro_isName_26 : decode b_Ro_isName 26 = .ok (.goto (-24), 3) := by decide +kernel
theorem d_Ro_isName_29 : decode b_Ro_isName 29 = .ok (.aload_n 0, 1) := by decide +kernel
theorem d_Ro_isName_30 : decode b_Ro_isName 30 = .ok (.aload_n 0, 1) := by decide +kernel
theorem d_Ro_isName_31 : decode b_Ro_isName 31 = .ok (.getfield 15, 3) := by decide +kernel
theorem d_Ro_isName_34 : decode b_Ro_isName 34 = .ok (.iconst 1, 1) := by decide +kernel
theorem d_Ro_isName_35 : decode b_Ro_isName 35 = .ok (.isub, 1) := by decide +kernel
theorem d_Ro_isName_36 : decode b_Ro_isName 36 = .ok (.invokevirtual 19, 3) := by decide +kernel
theorem d_Ro_isName_39 : decode b_Ro_isName 39 = .ok (.istore_n 1, 1) := by decide +kernel
theorem d_Ro_isName_40 : decode b_Ro_isName 40 = .ok (.aload_n 0, 1) := by decide +kernel
theorem d_Ro_isName_41 : decode b_Ro_isName 41 = .ok (.getfield 15, 3) := by decide +kernel
theorem d_Ro_isName_44 : decode b_Ro_isName 44 = .ok (.ifCond .le 19, 3) := by decide +kernel
theorem d_Ro_isName_47 : decode b_Ro_isName 47 = .ok (.iload_n 1, 1) := by decide +kernel
theorem d_Ro_isName_48 : decode b_Ro_isName 48 = .ok (.bipush 32, 2) := by decide +kernel
theorem d_Ro_isName_50 : decode b_Ro_isName 50 = .ok (.if_icmp .eq 13, 3) := by decide +kernel
theorem d_Ro_isName_53 : decode b_Ro_isName 53 = .ok (.iload_n 1, 1) := by decide +kernel
theorem d_Ro_isName_54 : decode b_Ro_isName 54 = .ok (.bipush 46, 2) := by decide +kernel
theorem d_Ro_isName_56 : decode b_Ro_isName 56 = .ok (.if_icmp .eq 7, 3) := by decide +kernel
theorem d_Ro_isName_59 : decode b_Ro_isName 59 = .ok (.iconst 1, 1) := by decide +kernel
theorem d_Ro_isName_60 : decode b_Ro_isName 60 = .ok (.goto 4, 3) := by decide +kernel
theorem d_Ro_isName_63 : decode b_Ro_isName 63 = .ok (.iconst 0, 1) := by decide +kernel
theorem d_Ro_isName_64 : decode b_Ro_isName 64 = .ok (.ireturn, 1) := by decide +kernel
abbrev b_Ro_isShortAsShown : ByteArray := prog_4_method_7_code
abbrev y_Ro_isShortAsShown : MethodName := ⟨"LongNames$Row", "isShortAsShown", "()Z"⟩
abbrev w_Ro_isShortAsShown : List Cond := .code y_Ro_isShortAsShown b_Ro_isShortAsShown 5 (some .boolean) :: BIG
theorem d_Ro_isShortAsShown_0 : decode b_Ro_isShortAsShown 0 = .ok (.aload_n 0, 1) := by decide +kernel
theorem d_Ro_isShortAsShown_1 : decode b_Ro_isShortAsShown 1 = .ok (.invokevirtual 29, 3) := by decide +kernel
theorem d_Ro_isShortAsShown_4 : decode b_Ro_isShortAsShown 4 = .ok (.istore_n 1, 1) := by decide +kernel
theorem d_Ro_isShortAsShown_5 : decode b_Ro_isShortAsShown 5 = .ok (.iload_n 1, 1) := by decide +kernel
theorem d_Ro_isShortAsShown_6 : decode b_Ro_isShortAsShown 6 = .ok (.iconst (-1), 1) := by decide +kernel
theorem d_Ro_isShortAsShown_7 : decode b_Ro_isShortAsShown 7 = .ok (.if_icmp .ne 10, 3) := by decide +kernel
theorem d_Ro_isShortAsShown_10 : decode b_Ro_isShortAsShown 10 = .ok (.aload_n 0, 1) := by decide +kernel
theorem d_Ro_isShortAsShown_11 : decode b_Ro_isShortAsShown 11 = .ok (.getfield 15, 3) := by decide +kernel
theorem d_Ro_isShortAsShown_14 : decode b_Ro_isShortAsShown 14 = .ok (.goto 4, 3) := by decide +kernel
theorem d_Ro_isShortAsShown_17 : decode b_Ro_isShortAsShown 17 = .ok (.iload_n 1, 1) := by decide +kernel
theorem d_Ro_isShortAsShown_18 : decode b_Ro_isShortAsShown 18 = .ok (.istore_n 2, 1) := by decide +kernel
theorem d_Ro_isShortAsShown_19 : decode b_Ro_isShortAsShown 19 = .ok (.aload_n 0, 1) := by decide +kernel
theorem d_Ro_isShortAsShown_20 : decode b_Ro_isShortAsShown 20 = .ok (.getfield 15, 3) := by decide +kernel
theorem d_Ro_isShortAsShown_23 : decode b_Ro_isShortAsShown 23 = .ok (.iload_n 2, 1) := by decide +kernel
theorem d_Ro_isShortAsShown_24 : decode b_Ro_isShortAsShown 24 = .ok (.isub, 1) := by decide +kernel
theorem d_Ro_isShortAsShown_25 : decode b_Ro_isShortAsShown 25 = .ok (.iconst 1, 1) := by decide +kernel
theorem d_Ro_isShortAsShown_26 : decode b_Ro_isShortAsShown 26 = .ok (.isub, 1) := by decide +kernel
theorem d_Ro_isShortAsShown_27 : decode b_Ro_isShortAsShown 27 = .ok (.istore_n 3, 1) := by decide +kernel
theorem d_Ro_isShortAsShown_28 : decode b_Ro_isShortAsShown 28 = .ok (.iload_n 2, 1) := by decide +kernel
theorem d_Ro_isShortAsShown_29 : decode b_Ro_isShortAsShown 29 = .ok (.iconst 1, 1) := by decide +kernel
theorem d_Ro_isShortAsShown_30 : decode b_Ro_isShortAsShown 30 = .ok (.if_icmp .lt 9, 3) := by decide +kernel
theorem d_Ro_isShortAsShown_33 : decode b_Ro_isShortAsShown 33 = .ok (.iload_n 2, 1) := by decide +kernel
theorem d_Ro_isShortAsShown_34 : decode b_Ro_isShortAsShown 34 = .ok (.bipush 8, 2) := by decide +kernel
theorem d_Ro_isShortAsShown_36 : decode b_Ro_isShortAsShown 36 = .ok (.if_icmp .le 5, 3) := by decide +kernel
theorem d_Ro_isShortAsShown_39 : decode b_Ro_isShortAsShown 39 = .ok (.iconst 0, 1) := by decide +kernel
theorem d_Ro_isShortAsShown_40 : decode b_Ro_isShortAsShown 40 = .ok (.ireturn, 1) := by decide +kernel
theorem d_Ro_isShortAsShown_41 : decode b_Ro_isShortAsShown 41 = .ok (.iload_n 1, 1) := by decide +kernel
theorem d_Ro_isShortAsShown_42 : decode b_Ro_isShortAsShown 42 = .ok (.iconst (-1), 1) := by decide +kernel
theorem d_Ro_isShortAsShown_43 : decode b_Ro_isShortAsShown 43 = .ok (.if_icmp .eq 15, 3) := by decide +kernel
theorem d_Ro_isShortAsShown_46 : decode b_Ro_isShortAsShown 46 = .ok (.iload_n 3, 1) := by decide +kernel
theorem d_Ro_isShortAsShown_47 : decode b_Ro_isShortAsShown 47 = .ok (.iconst 1, 1) := by decide +kernel
theorem d_Ro_isShortAsShown_48 : decode b_Ro_isShortAsShown 48 = .ok (.if_icmp .lt 8, 3) := by decide +kernel
theorem d_Ro_isShortAsShown_51 : decode b_Ro_isShortAsShown 51 = .ok (.iload_n 3, 1) := by decide +kernel
theorem d_Ro_isShortAsShown_52 : decode b_Ro_isShortAsShown 52 = .ok (.iconst 3, 1) := by decide +kernel
theorem d_Ro_isShortAsShown_53 : decode b_Ro_isShortAsShown 53 = .ok (.if_icmp .le 5, 3) := by decide +kernel
theorem d_Ro_isShortAsShown_56 : decode b_Ro_isShortAsShown 56 = .ok (.iconst 0, 1) := by decide +kernel
theorem d_Ro_isShortAsShown_57 : decode b_Ro_isShortAsShown 57 = .ok (.ireturn, 1) := by decide +kernel
theorem d_Ro_isShortAsShown_58 : decode b_Ro_isShortAsShown 58 = .ok (.iconst 0, 1) := by decide +kernel
theorem d_Ro_isShortAsShown_59 : decode b_Ro_isShortAsShown 59 = .ok (.istore 4, 2) := by decide +kernel
theorem d_Ro_isShortAsShown_61 : decode b_Ro_isShortAsShown 61 = .ok (.iload 4, 2) := by decide +kernel
theorem d_Ro_isShortAsShown_63 : decode b_Ro_isShortAsShown 63 = .ok (.aload_n 0, 1) := by decide +kernel
theorem d_Ro_isShortAsShown_64 : decode b_Ro_isShortAsShown 64 = .ok (.getfield 15, 3) := by decide +kernel
theorem d_Ro_isShortAsShown_67 : decode b_Ro_isShortAsShown 67 = .ok (.if_icmp .ge 29, 3) := by decide +kernel
theorem d_Ro_isShortAsShown_70 : decode b_Ro_isShortAsShown 70 = .ok (.iload 4, 2) := by decide +kernel
theorem d_Ro_isShortAsShown_72 : decode b_Ro_isShortAsShown 72 = .ok (.iload_n 1, 1) := by decide +kernel
theorem d_Ro_isShortAsShown_73 : decode b_Ro_isShortAsShown 73 = .ok (.if_icmp .eq 17, 3) := by decide +kernel
theorem d_Ro_isShortAsShown_76 : decode b_Ro_isShortAsShown 76 = .ok (.aload_n 0, 1) := by decide +kernel
theorem d_Ro_isShortAsShown_77 : decode b_Ro_isShortAsShown 77 = .ok (.iload 4, 2) := by decide +kernel
theorem d_Ro_isShortAsShown_79 : decode b_Ro_isShortAsShown 79 = .ok (.invokevirtual 19, 3) := by decide +kernel
theorem d_Ro_isShortAsShown_82 : decode b_Ro_isShortAsShown 82 = .ok (.invokestatic 35, 3) := by decide +kernel
theorem d_Ro_isShortAsShown_85 : decode b_Ro_isShortAsShown 85 = .ok (.ifCond .ne 5, 3) := by decide +kernel
theorem d_Ro_isShortAsShown_88 : decode b_Ro_isShortAsShown 88 = .ok (.iconst 0, 1) := by decide +kernel
theorem d_Ro_isShortAsShown_89 : decode b_Ro_isShortAsShown 89 = .ok (.ireturn, 1) := by decide +kernel
theorem d_Ro_isShortAsShown_90 : decode b_Ro_isShortAsShown 90 = .ok (.iinc 4 1, 3) := by decide +kernel
theorem d_Ro_isShortAsShown_93 : decode b_Ro_isShortAsShown 93 = .ok (.goto (-32), 3) := by decide +kernel
theorem d_Ro_isShortAsShown_96 : decode b_Ro_isShortAsShown 96 = .ok (.iconst 1, 1) := by decide +kernel
theorem d_Ro_isShortAsShown_97 : decode b_Ro_isShortAsShown 97 = .ok (.ireturn, 1) := by decide +kernel
abbrev b_Ro_lastPoint : ByteArray := prog_4_method_8_code
abbrev y_Ro_lastPoint : MethodName := ⟨"LongNames$Row", "lastPoint", "()I"⟩
abbrev w_Ro_lastPoint : List Cond := .code y_Ro_lastPoint b_Ro_lastPoint 2 (some .int) :: BIG
theorem d_Ro_lastPoint_0 : decode b_Ro_lastPoint 0 = .ok (.aload_n 0, 1) := by decide +kernel
theorem d_Ro_lastPoint_1 : decode b_Ro_lastPoint 1 = .ok (.getfield 15, 3) := by decide +kernel
theorem d_Ro_lastPoint_4 : decode b_Ro_lastPoint 4 = .ok (.iconst 1, 1) := by decide +kernel
theorem d_Ro_lastPoint_5 : decode b_Ro_lastPoint 5 = .ok (.isub, 1) := by decide +kernel
theorem d_Ro_lastPoint_6 : decode b_Ro_lastPoint 6 = .ok (.istore_n 1, 1) := by decide +kernel
theorem d_Ro_lastPoint_7 : decode b_Ro_lastPoint 7 = .ok (.iload_n 1, 1) := by decide +kernel
theorem d_Ro_lastPoint_8 : decode b_Ro_lastPoint 8 = .ok (.ifCond .lt 21, 3) := by decide +kernel
theorem d_Ro_lastPoint_11 : decode b_Ro_lastPoint 11 = .ok (.aload_n 0, 1) := by decide +kernel
theorem d_Ro_lastPoint_12 : decode b_Ro_lastPoint 12 = .ok (.iload_n 1, 1) := by decide +kernel
theorem d_Ro_lastPoint_13 : decode b_Ro_lastPoint 13 = .ok (.invokevirtual 19, 3) := by decide +kernel
theorem d_Ro_lastPoint_16 : decode b_Ro_lastPoint 16 = .ok (.bipush 46, 2) := by decide +kernel
theorem d_Ro_lastPoint_18 : decode b_Ro_lastPoint 18 = .ok (.if_icmp .ne 5, 3) := by decide +kernel
theorem d_Ro_lastPoint_21 : decode b_Ro_lastPoint 21 = .ok (.iload_n 1, 1) := by decide +kernel
theorem d_Ro_lastPoint_22 : decode b_Ro_lastPoint 22 = .ok (.ireturn, 1) := by decide +kernel
theorem d_Ro_lastPoint_23 : decode b_Ro_lastPoint 23 = .ok (.iinc 1 (-1), 3) := by decide +kernel
theorem d_Ro_lastPoint_26 : decode b_Ro_lastPoint 26 = .ok (.goto (-19), 3) := by decide +kernel
theorem d_Ro_lastPoint_29 : decode b_Ro_lastPoint 29 = .ok (.iconst (-1), 1) := by decide +kernel
theorem d_Ro_lastPoint_30 : decode b_Ro_lastPoint 30 = .ok (.ireturn, 1) := by decide +kernel
abbrev b_Ro_partsNeeded : ByteArray := prog_4_method_9_code
abbrev y_Ro_partsNeeded : MethodName := ⟨"LongNames$Row", "partsNeeded", "()I"⟩
abbrev w_Ro_partsNeeded : List Cond := .code y_Ro_partsNeeded b_Ro_partsNeeded 1 (some .int) :: BIG
theorem d_Ro_partsNeeded_0 : decode b_Ro_partsNeeded 0 = .ok (.aload_n 0, 1) := by decide +kernel
theorem d_Ro_partsNeeded_1 : decode b_Ro_partsNeeded 1 = .ok (.getfield 15, 3) := by decide +kernel
theorem d_Ro_partsNeeded_4 : decode b_Ro_partsNeeded 4 = .ok (.bipush 13, 2) := by decide +kernel
theorem d_Ro_partsNeeded_6 : decode b_Ro_partsNeeded 6 = .ok (.iadd, 1) := by decide +kernel
theorem d_Ro_partsNeeded_7 : decode b_Ro_partsNeeded 7 = .ok (.iconst 1, 1) := by decide +kernel
theorem d_Ro_partsNeeded_8 : decode b_Ro_partsNeeded 8 = .ok (.isub, 1) := by decide +kernel
theorem d_Ro_partsNeeded_9 : decode b_Ro_partsNeeded 9 = .ok (.bipush 13, 2) := by decide +kernel
theorem d_Ro_partsNeeded_11 : decode b_Ro_partsNeeded 11 = .ok (.idiv, 1) := by decide +kernel
theorem d_Ro_partsNeeded_12 : decode b_Ro_partsNeeded 12 = .ok (.ireturn, 1) := by decide +kernel
abbrev b_Ro_encodedSize : ByteArray := prog_4_method_10_code
abbrev y_Ro_encodedSize : MethodName := ⟨"LongNames$Row", "encodedSize", "()I"⟩
abbrev w_Ro_encodedSize : List Cond := .code y_Ro_encodedSize b_Ro_encodedSize 3 (some .int) :: BIG
theorem d_Ro_encodedSize_0 : decode b_Ro_encodedSize 0 = .ok (.iconst 0, 1) := by decide +kernel
theorem d_Ro_encodedSize_1 : decode b_Ro_encodedSize 1 = .ok (.istore_n 1, 1) := by decide +kernel
theorem d_Ro_encodedSize_2 : decode b_Ro_encodedSize 2 = .ok (.iconst 0, 1) := by decide +kernel
theorem d_Ro_encodedSize_3 : decode b_Ro_encodedSize 3 = .ok (.istore_n 2, 1) := by decide +kernel
theorem d_Ro_encodedSize_4 : decode b_Ro_encodedSize 4 = .ok (.iload_n 2, 1) := by decide +kernel
theorem d_Ro_encodedSize_5 : decode b_Ro_encodedSize 5 = .ok (.aload_n 0, 1) := by decide +kernel
theorem d_Ro_encodedSize_6 : decode b_Ro_encodedSize 6 = .ok (.getfield 15, 3) := by decide +kernel
theorem d_Ro_encodedSize_9 : decode b_Ro_encodedSize 9 = .ok (.if_icmp .ge 20, 3) := by decide +kernel
theorem d_Ro_encodedSize_12 : decode b_Ro_encodedSize 12 = .ok (.iload_n 1, 1) := by decide +kernel
theorem d_Ro_encodedSize_13 : decode b_Ro_encodedSize 13 = .ok (.aload_n 0, 1) := by decide +kernel
theorem d_Ro_encodedSize_14 : decode b_Ro_encodedSize 14 = .ok (.iload_n 2, 1) := by decide +kernel
theorem d_Ro_encodedSize_15 : decode b_Ro_encodedSize 15 = .ok (.invokevirtual 19, 3) := by decide +kernel
theorem d_Ro_encodedSize_18 : decode b_Ro_encodedSize 18 = .ok (.invokestatic 40, 3) := by decide +kernel
theorem d_Ro_encodedSize_21 : decode b_Ro_encodedSize 21 = .ok (.iadd, 1) := by decide +kernel
theorem d_Ro_encodedSize_22 : decode b_Ro_encodedSize 22 = .ok (.istore_n 1, 1) := by decide +kernel
theorem d_Ro_encodedSize_23 : decode b_Ro_encodedSize 23 = .ok (.iinc 2 1, 3) := by decide +kernel
theorem d_Ro_encodedSize_26 : decode b_Ro_encodedSize 26 = .ok (.goto (-22), 3) := by decide +kernel
theorem d_Ro_encodedSize_29 : decode b_Ro_encodedSize 29 = .ok (.iload_n 1, 1) := by decide +kernel
theorem d_Ro_encodedSize_30 : decode b_Ro_encodedSize 30 = .ok (.ireturn, 1) := by decide +kernel
abbrev b_Ro_encodedByte : ByteArray := prog_4_method_11_code
abbrev y_Ro_encodedByte : MethodName := ⟨"LongNames$Row", "encodedByte", "(I)I"⟩
abbrev w_Ro_encodedByte : List Cond := .code y_Ro_encodedByte b_Ro_encodedByte 5 (some .int) :: BIG
theorem d_Ro_encodedByte_0 : decode b_Ro_encodedByte 0 = .ok (.iload_n 1, 1) := by decide +kernel
theorem d_Ro_encodedByte_1 : decode b_Ro_encodedByte 1 = .ok (.ifCond .ge 5, 3) := by decide +kernel
theorem d_Ro_encodedByte_4 : decode b_Ro_encodedByte 4 = .ok (.iconst (-1), 1) := by decide +kernel
theorem d_Ro_encodedByte_5 : decode b_Ro_encodedByte 5 = .ok (.ireturn, 1) := by decide +kernel
theorem d_Ro_encodedByte_6 : decode b_Ro_encodedByte 6 = .ok (.iload_n 1, 1) := by decide +kernel
theorem d_Ro_encodedByte_7 : decode b_Ro_encodedByte 7 = .ok (.istore_n 2, 1) := by decide +kernel
theorem d_Ro_encodedByte_8 : decode b_Ro_encodedByte 8 = .ok (.iconst 0, 1) := by decide +kernel
theorem d_Ro_encodedByte_9 : decode b_Ro_encodedByte 9 = .ok (.istore_n 3, 1) := by decide +kernel
theorem d_Ro_encodedByte_10 : decode b_Ro_encodedByte 10 = .ok (.iload_n 3, 1) := by decide +kernel
theorem d_Ro_encodedByte_11 : decode b_Ro_encodedByte 11 = .ok (.aload_n 0, 1) := by decide +kernel
theorem d_Ro_encodedByte_12 : decode b_Ro_encodedByte 12 = .ok (.getfield 15, 3) := by decide +kernel
theorem d_Ro_encodedByte_15 : decode b_Ro_encodedByte 15 = .ok (.if_icmp .ge 40, 3) := by decide +kernel
theorem d_Ro_encodedByte_18 : decode b_Ro_encodedByte 18 = .ok (.aload_n 0, 1) := by decide +kernel
theorem d_Ro_encodedByte_19 : decode b_Ro_encodedByte 19 = .ok (.iload_n 3, 1) := by decide +kernel
theorem d_Ro_encodedByte_20 : decode b_Ro_encodedByte 20 = .ok (.invokevirtual 19, 3) := by decide +kernel
theorem d_Ro_encodedByte_23 : decode b_Ro_encodedByte 23 = .ok (.invokestatic 40, 3) := by decide +kernel
theorem d_Ro_encodedByte_26 : decode b_Ro_encodedByte 26 = .ok (.istore 4, 2) := by decide +kernel
theorem d_Ro_encodedByte_28 : decode b_Ro_encodedByte 28 = .ok (.iload_n 2, 1) := by decide +kernel
theorem d_Ro_encodedByte_29 : decode b_Ro_encodedByte 29 = .ok (.iload 4, 2) := by decide +kernel
theorem d_Ro_encodedByte_31 : decode b_Ro_encodedByte 31 = .ok (.if_icmp .ge 13, 3) := by decide +kernel
theorem d_Ro_encodedByte_34 : decode b_Ro_encodedByte 34 = .ok (.aload_n 0, 1) := by decide +kernel
theorem d_Ro_encodedByte_35 : decode b_Ro_encodedByte 35 = .ok (.iload_n 3, 1) := by decide +kernel
theorem d_Ro_encodedByte_36 : decode b_Ro_encodedByte 36 = .ok (.invokevirtual 19, 3) := by decide +kernel
theorem d_Ro_encodedByte_39 : decode b_Ro_encodedByte 39 = .ok (.iload_n 2, 1) := by decide +kernel
theorem d_Ro_encodedByte_40 : decode b_Ro_encodedByte 40 = .ok (.invokestatic 43, 3) := by decide +kernel
theorem d_Ro_encodedByte_43 : decode b_Ro_encodedByte 43 = .ok (.ireturn, 1) := by decide +kernel
theorem d_Ro_encodedByte_44 : decode b_Ro_encodedByte 44 = .ok (.iload_n 2, 1) := by decide +kernel
theorem d_Ro_encodedByte_45 : decode b_Ro_encodedByte 45 = .ok (.iload 4, 2) := by decide +kernel
theorem d_Ro_encodedByte_47 : decode b_Ro_encodedByte 47 = .ok (.isub, 1) := by decide +kernel
theorem d_Ro_encodedByte_48 : decode b_Ro_encodedByte 48 = .ok (.istore_n 2, 1) := by decide +kernel
theorem d_Ro_encodedByte_49 : decode b_Ro_encodedByte 49 = .ok (.iinc 3 1, 3) := by decide +kernel
theorem d_Ro_encodedByte_52 : decode b_Ro_encodedByte 52 = .ok (.goto (-42), 3) := by decide +kernel
theorem d_Ro_encodedByte_55 : decode b_Ro_encodedByte 55 = .ok (.iconst (-1), 1) := by decide +kernel
theorem d_Ro_encodedByte_56 : decode b_Ro_encodedByte 56 = .ok (.ireturn, 1) := by decide +kernel
abbrev b_Ro_isLike : ByteArray := prog_4_method_12_code
abbrev y_Ro_isLike : MethodName := ⟨"LongNames$Row", "isLike", "(LLongNames$Row;)Z"⟩
abbrev w_Ro_isLike : List Cond := .code y_Ro_isLike b_Ro_isLike 3 (some .boolean) :: BIG
theorem d_Ro_isLike_0 : decode b_Ro_isLike 0 = .ok (.aload_n 1, 1) := by decide +kernel
theorem d_Ro_isLike_1 : decode b_Ro_isLike 1 = .ok (.ifnull 14, 3) := by decide +kernel
theorem d_Ro_isLike_4 : decode b_Ro_isLike 4 = .ok (.aload_n 0, 1) := by decide +kernel
theorem d_Ro_isLike_5 : decode b_Ro_isLike 5 = .ok (.getfield 15, 3) := by decide +kernel
theorem d_Ro_isLike_8 : decode b_Ro_isLike 8 = .ok (.aload_n 1, 1) := by decide +kernel
theorem d_Ro_isLike_9 : decode b_Ro_isLike 9 = .ok (.getfield 15, 3) := by decide +kernel
theorem d_Ro_isLike_12 : decode b_Ro_isLike 12 = .ok (.if_icmp .eq 5, 3) := by decide +kernel
theorem d_Ro_isLike_15 : decode b_Ro_isLike 15 = .ok (.iconst 0, 1) := by decide +kernel
theorem d_Ro_isLike_16 : decode b_Ro_isLike 16 = .ok (.ireturn, 1) := by decide +kernel
theorem d_Ro_isLike_17 : decode b_Ro_isLike 17 = .ok (.iconst 0, 1) := by decide +kernel
theorem d_Ro_isLike_18 : decode b_Ro_isLike 18 = .ok (.istore_n 2, 1) := by decide +kernel
theorem d_Ro_isLike_19 : decode b_Ro_isLike 19 = .ok (.iload_n 2, 1) := by decide +kernel
theorem d_Ro_isLike_20 : decode b_Ro_isLike 20 = .ok (.aload_n 0, 1) := by decide +kernel
theorem d_Ro_isLike_21 : decode b_Ro_isLike 21 = .ok (.getfield 15, 3) := by decide +kernel
theorem d_Ro_isLike_24 : decode b_Ro_isLike 24 = .ok (.if_icmp .ge 30, 3) := by decide +kernel
theorem d_Ro_isLike_27 : decode b_Ro_isLike 27 = .ok (.aload_n 0, 1) := by decide +kernel
theorem d_Ro_isLike_28 : decode b_Ro_isLike 28 = .ok (.iload_n 2, 1) := by decide +kernel
theorem d_Ro_isLike_29 : decode b_Ro_isLike 29 = .ok (.invokevirtual 19, 3) := by decide +kernel
theorem d_Ro_isLike_32 : decode b_Ro_isLike 32 = .ok (.invokestatic 47, 3) := by decide +kernel
theorem d_Ro_isLike_35 : decode b_Ro_isLike 35 = .ok (.aload_n 1, 1) := by decide +kernel
theorem d_Ro_isLike_36 : decode b_Ro_isLike 36 = .ok (.iload_n 2, 1) := by decide +kernel
theorem d_Ro_isLike_37 : decode b_Ro_isLike 37 = .ok (.invokevirtual 19, 3) := by decide +kernel
theorem d_Ro_isLike_40 : decode b_Ro_isLike 40 = .ok (.invokestatic 47, 3) := by decide +kernel
theorem d_Ro_isLike_43 : decode b_Ro_isLike 43 = .ok (.if_icmp .eq 5, 3) := by decide +kernel
theorem d_Ro_isLike_46 : decode b_Ro_isLike 46 = .ok (.iconst 0, 1) := by decide +kernel
theorem d_Ro_isLike_47 : decode b_Ro_isLike 47 = .ok (.ireturn, 1) := by decide +kernel
theorem d_Ro_isLike_48 : decode b_Ro_isLike 48 = .ok (.iinc 2 1, 3) := by decide +kernel
theorem d_Ro_isLike_51 : decode b_Ro_isLike 51 = .ok (.goto (-32), 3) := by decide +kernel
theorem d_Ro_isLike_54 : decode b_Ro_isLike 54 = .ok (.iconst 1, 1) := by decide +kernel
theorem d_Ro_isLike_55 : decode b_Ro_isLike 55 = .ok (.ireturn, 1) := by decide +kernel
abbrev b_Sn_init : ByteArray := prog_5_method_1_code
abbrev y_Sn_init : MethodName := ⟨"LongNames$ShortName", "<init>", "()V"⟩
abbrev w_Sn_init : List Cond := .code y_Sn_init b_Sn_init 1 none :: BIG
theorem d_Sn_init_0 : decode b_Sn_init 0 = .ok (.aload_n 0, 1) := by decide +kernel
theorem d_Sn_init_1 : decode b_Sn_init 1 = .ok (.invokespecial 5, 3) := by decide +kernel
theorem d_Sn_init_4 : decode b_Sn_init 4 = .ok (.aload_n 0, 1) := by decide +kernel
theorem d_Sn_init_5 : decode b_Sn_init 5 = .ok (.bipush 11, 2) := by decide +kernel
theorem d_Sn_init_7 : decode b_Sn_init 7 = .ok (.newarray .int, 2) := by decide +kernel
theorem d_Sn_init_9 : decode b_Sn_init 9 = .ok (.putfield 11, 3) := by decide +kernel
theorem d_Sn_init_12 : decode b_Sn_init 12 = .ok (.return_, 1) := by decide +kernel
abbrev b_Sn_takeShown : ByteArray := prog_5_method_2_code
abbrev y_Sn_takeShown : MethodName := ⟨"LongNames$ShortName", "takeShown", "(LLongNames$Row;)V"⟩
abbrev w_Sn_takeShown : List Cond := .code y_Sn_takeShown b_Sn_takeShown 4 none :: BIG
theorem d_Sn_takeShown_0 : decode b_Sn_takeShown 0 = .ok (.aload_n 0, 1) := by decide +kernel
theorem d_Sn_takeShown_1 : decode b_Sn_takeShown 1 = .ok (.getfield 11, 3) := by decide +kernel
theorem d_Sn_takeShown_4 : decode b_Sn_takeShown 4 = .ok (.bipush 32, 2) := by decide +kernel
theorem d_Sn_takeShown_6 : decode b_Sn_takeShown 6 = .ok (.invokestatic 15, 3) := by decide +kernel
theorem d_Sn_takeShown_9 : decode b_Sn_takeShown 9 = .ok (.aload_n 1, 1) := by decide +kernel
theorem d_Sn_takeShown_10 : decode b_Sn_takeShown 10 = .ok (.invokevirtual 21, 3) := by decide +kernel
theorem d_Sn_takeShown_13 : decode b_Sn_takeShown 13 = .ok (.istore_n 2, 1) := by decide +kernel
theorem d_Sn_takeShown_14 : decode b_Sn_takeShown 14 = .ok (.iload_n 2, 1) := by decide +kernel
theorem d_Sn_takeShown_15 : decode b_Sn_takeShown 15 = .ok (.iconst (-1), 1) := by decide +kernel
theorem d_Sn_takeShown_16 : decode b_Sn_takeShown 16 = .ok (.if_icmp .ne 10, 3) := by decide +kernel
theorem d_Sn_takeShown_19 : decode b_Sn_takeShown 19 = .ok (.aload_n 1, 1) := by decide +kernel
theorem d_Sn_takeShown_20 : decode b_Sn_takeShown 20 = .ok (.invokevirtual 27, 3) := by decide +kernel
theorem d_Sn_takeShown_23 : decode b_Sn_takeShown 23 = .ok (.goto 4, 3) := by decide +kernel
theorem d_Sn_takeShown_26 : decode b_Sn_takeShown 26 = .ok (.iload_n 2, 1) := by decide +kernel
theorem d_Sn_takeShown_27 : decode b_Sn_takeShown 27 = .ok (.istore_n 3, 1) := by decide +kernel
theorem d_Sn_takeShown_28 : decode b_Sn_takeShown 28 = .ok (.aload_n 0, 1) := by decide +kernel
theorem d_Sn_takeShown_29 : decode b_Sn_takeShown 29 = .ok (.aload_n 1, 1) := by decide +kernel
theorem d_Sn_takeShown_30 : decode b_Sn_takeShown 30 = .ok (.iconst 0, 1) := by decide +kernel
theorem d_Sn_takeShown_31 : decode b_Sn_takeShown 31 = .ok (.iload_n 3, 1) := by decide +kernel
theorem d_Sn_takeShown_32 : decode b_Sn_takeShown 32 = .ok (.iconst 0, 1) := by decide +kernel
theorem d_Sn_takeShown_33 : decode b_Sn_takeShown 33 = .ok (.bipush 8, 2) := by decide +kernel
theorem d_Sn_takeShown_35 : decode b_Sn_takeShown 35 = .ok (.invokevirtual 30, 3) := by decide +kernel
theorem d_Sn_takeShown_38 : decode b_Sn_takeShown 38 = .ok (.pop, 1) := by decide +kernel
theorem d_Sn_takeShown_39 : decode b_Sn_takeShown 39 = .ok (.aload_n 0, 1) := by decide +kernel
theorem d_Sn_takeShown_40 : decode b_Sn_takeShown 40 = .ok (.aload_n 1, 1) := by decide +kernel
theorem d_Sn_takeShown_41 : decode b_Sn_takeShown 41 = .ok (.iload_n 3, 1) := by decide +kernel
theorem d_Sn_takeShown_42 : decode b_Sn_takeShown 42 = .ok (.iconst 1, 1) := by decide +kernel
theorem d_Sn_takeShown_43 : decode b_Sn_takeShown 43 = .ok (.iadd, 1) := by decide +kernel
theorem d_Sn_takeShown_44 : decode b_Sn_takeShown 44 = .ok (.aload_n 1, 1) := by decide +kernel
theorem d_Sn_takeShown_45 : decode b_Sn_takeShown 45 = .ok (.invokevirtual 27, 3) := by decide +kernel
theorem d_Sn_takeShown_48 : decode b_Sn_takeShown 48 = .ok (.bipush 8, 2) := by decide +kernel
theorem d_Sn_takeShown_50 : decode b_Sn_takeShown 50 = .ok (.iconst 3, 1) := by decide +kernel
theorem d_Sn_takeShown_51 : decode b_Sn_takeShown 51 = .ok (.invokevirtual 30, 3) := by decide +kernel
theorem d_Sn_takeShown_54 : decode b_Sn_takeShown 54 = .ok (.pop, 1) := by decide +kernel
theorem d_Sn_takeShown_55 : decode b_Sn_takeShown 55 = .ok (.return_, 1) := by decide +kernel
abbrev b_Sn_takeTailed : ByteArray := prog_5_method_3_code
abbrev y_Sn_takeTailed : MethodName := ⟨"LongNames$ShortName", "takeTailed", "(LLongNames$Row;I)V"⟩
abbrev w_Sn_takeTailed : List Cond := .code y_Sn_takeTailed b_Sn_takeTailed 7 none :: BIG
theorem d_Sn_takeTailed_0 : decode b_Sn_takeTailed 0 = .ok (.aload_n 0, 1) := by decide +kernel
theorem d_Sn_takeTailed_1 : decode b_Sn_takeTailed 1 = .ok (.getfield 11, 3) := by decide +kernel
theorem d_Sn_takeTailed_4 : decode b_Sn_takeTailed 4 = .ok (.bipush 32, 2) := by decide +kernel
theorem d_Sn_takeTailed_6 : decode b_Sn_takeTailed 6 = .ok (.invokestatic 15, 3) := by decide +kernel
theorem d_Sn_takeTailed_9 : decode b_Sn_takeTailed 9 = .ok (.aload_n 1, 1) := by decide +kernel
theorem d_Sn_takeTailed_10 : decode b_Sn_takeTailed 10 = .ok (.invokevirtual 21, 3) := by decide +kernel
theorem d_Sn_takeTailed_13 : decode b_Sn_takeTailed 13 = .ok (.istore_n 3, 1) := by decide +kernel
theorem d_Sn_takeTailed_14 : decode b_Sn_takeTailed 14 = .ok (.iload_n 3, 1) := by decide +kernel
theorem d_Sn_takeTailed_15 : decode b_Sn_takeTailed 15 = .ok (.ifCond .le 7, 3) := by decide +kernel
theorem d_Sn_takeTailed_18 : decode b_Sn_takeTailed 18 = .ok (.iload_n 3, 1) := by decide +kernel
theorem d_Sn_takeTailed_19 : decode b_Sn_takeTailed 19 = .ok (.goto 7, 3) := by decide +kernel
theorem d_Sn_takeTailed_22 : decode b_Sn_takeTailed 22 = .ok (.aload_n 1, 1) := by decide +kernel
theorem d_Sn_takeTailed_23 : decode b_Sn_takeTailed 23 = .ok (.invokevirtual 27, 3) := by decide +kernel
theorem d_Sn_takeTailed_26 : decode b_Sn_takeTailed 26 = .ok (.istore 4, 2) := by decide +kernel
theorem d_Sn_takeTailed_28 : decode b_Sn_takeTailed 28 = .ok (.iload_n 2, 1) := by decide +kernel
theorem d_Sn_takeTailed_29 : decode b_Sn_takeTailed 29 = .ok (.invokestatic 34, 3) := by decide +kernel
theorem d_Sn_takeTailed_32 : decode b_Sn_takeTailed 32 = .ok (.istore 5, 2) := by decide +kernel
theorem d_Sn_takeTailed_34 : decode b_Sn_takeTailed 34 = .ok (.aload_n 0, 1) := by decide +kernel
theorem d_Sn_takeTailed_35 : decode b_Sn_takeTailed 35 = .ok (.aload_n 1, 1) := by decide +kernel
theorem d_Sn_takeTailed_36 : decode b_Sn_takeTailed 36 = .ok (.iconst 0, 1) := by decide +kernel
theorem d_Sn_takeTailed_37 : decode b_Sn_takeTailed 37 = .ok (.iload 4, 2) := by decide +kernel
theorem d_Sn_takeTailed_39 : decode b_Sn_takeTailed 39 = .ok (.iconst 0, 1) := by decide +kernel
theorem d_Sn_takeTailed_40 : decode b_Sn_takeTailed 40 = .ok (.bipush 7, 2) := by decide +kernel
theorem d_Sn_takeTailed_42 : decode b_Sn_takeTailed 42 = .ok (.iload 5, 2) := by decide +kernel
theorem d_Sn_takeTailed_44 : decode b_Sn_takeTailed 44 = .ok (.isub, 1) := by decide +kernel
theorem d_Sn_takeTailed_45 : decode b_Sn_takeTailed 45 = .ok (.invokevirtual 30, 3) := by decide +kernel
theorem d_Sn_takeTailed_48 : decode b_Sn_takeTailed 48 = .ok (.istore 6, 2) := by decide +kernel
theorem d_Sn_takeTailed_50 : decode b_Sn_takeTailed 50 = .ok (.aload_n 0, 1) := by decide +kernel
theorem d_Sn_takeTailed_51 : decode b_Sn_takeTailed 51 = .ok (.iload 6, 2) := by decide +kernel
theorem d_Sn_takeTailed_53 : decode b_Sn_takeTailed 53 = .ok (.bipush 126, 2) := by decide +kernel
theorem d_Sn_takeTailed_55 : decode b_Sn_takeTailed 55 = .ok (.invokevirtual 38, 3) := by decide +kernel
theorem d_Sn_takeTailed_58 : decode b_Sn_takeTailed 58 = .ok (.aload_n 0, 1) := by decide +kernel
theorem d_Sn_takeTailed_59 : decode b_Sn_takeTailed 59 = .ok (.iload 6, 2) := by decide +kernel
theorem d_Sn_takeTailed_61 : decode b_Sn_takeTailed 61 = .ok (.iconst 1, 1) := by decide +kernel
theorem d_Sn_takeTailed_62 : decode b_Sn_takeTailed 62 = .ok (.iadd, 1) := by decide +kernel
theorem d_Sn_takeTailed_63 : decode b_Sn_takeTailed 63 = .ok (.iload 5, 2) := by decide +kernel
theorem d_Sn_takeTailed_65 : decode b_Sn_takeTailed 65 = .ok (.iload_n 2, 1) := by decide +kernel
theorem d_Sn_takeTailed_66 : decode b_Sn_takeTailed 66 = .ok (.invokevirtual 42, 3) := by decide +kernel
theorem d_Sn_takeTailed_69 : decode b_Sn_takeTailed 69 = .ok (.aload_n 0, 1) := by decide +kernel
theorem d_Sn_takeTailed_70 : decode b_Sn_takeTailed 70 = .ok (.aload_n 1, 1) := by decide +kernel
theorem d_Sn_takeTailed_71 : decode b_Sn_takeTailed 71 = .ok (.iload 4, 2) := by decide +kernel
theorem d_Sn_takeTailed_73 : decode b_Sn_takeTailed 73 = .ok (.iconst 1, 1) := by decide +kernel
theorem d_Sn_takeTailed_74 : decode b_Sn_takeTailed 74 = .ok (.iadd, 1) := by decide +kernel
theorem d_Sn_takeTailed_75 : decode b_Sn_takeTailed 75 = .ok (.aload_n 1, 1) := by decide +kernel
theorem d_Sn_takeTailed_76 : decode b_Sn_takeTailed 76 = .ok (.invokevirtual 27, 3) := by decide +kernel
theorem d_Sn_takeTailed_79 : decode b_Sn_takeTailed 79 = .ok (.bipush 8, 2) := by decide +kernel
theorem d_Sn_takeTailed_81 : decode b_Sn_takeTailed 81 = .ok (.iconst 3, 1) := by decide +kernel
theorem d_Sn_takeTailed_82 : decode b_Sn_takeTailed 82 = .ok (.invokevirtual 30, 3) := by decide +kernel
theorem d_Sn_takeTailed_85 : decode b_Sn_takeTailed 85 = .ok (.pop, 1) := by decide +kernel
theorem d_Sn_takeTailed_86 : decode b_Sn_takeTailed 86 = .ok (.return_, 1) := by decide +kernel
abbrev b_Sn_takeEntry : ByteArray := prog_5_method_4_code
abbrev y_Sn_takeEntry : MethodName := ⟨"LongNames$ShortName", "takeEntry", "(LLongNames$Slots;I)V"⟩
abbrev w_Sn_takeEntry : List Cond := .code y_Sn_takeEntry b_Sn_takeEntry 4 none :: BIG
theorem d_Sn_takeEntry_0 : decode b_Sn_takeEntry 0 = .ok (.iconst 0, 1) := by decide +kernel
theorem d_Sn_takeEntry_1 : decode b_Sn_takeEntry 1 = .ok (.istore_n 3, 1) := by decide +kernel
theorem d_Sn_takeEntry_2 : decode b_Sn_takeEntry 2 = .ok (.iload_n 3, 1) := by decide +kernel
theorem d_Sn_takeEntry_3 : decode b_Sn_takeEntry 3 = .ok (.bipush 11, 2) := by decide +kernel
theorem d_Sn_takeEntry_5 : decode b_Sn_takeEntry 5 = .ok (.if_icmp .ge 20, 3) := by decide +kernel
theorem d_Sn_takeEntry_8 : decode b_Sn_takeEntry 8 = .ok (.aload_n 0, 1) := by decide +kernel
theorem d_Sn_takeEntry_9 : decode b_Sn_takeEntry 9 = .ok (.iload_n 3, 1) := by decide +kernel
theorem d_Sn_takeEntry_10 : decode b_Sn_takeEntry 10 = .ok (.aload_n 1, 1) := by decide +kernel
theorem d_Sn_takeEntry_11 : decode b_Sn_takeEntry 11 = .ok (.iload_n 2, 1) := by decide +kernel
theorem d_Sn_takeEntry_12 : decode b_Sn_takeEntry 12 = .ok (.iload_n 3, 1) := by decide +kernel
theorem d_Sn_takeEntry_13 : decode b_Sn_takeEntry 13 = .ok (.invokevirtual 46, 3) := by decide +kernel
theorem d_Sn_takeEntry_16 : decode b_Sn_takeEntry 16 = .ok (.invokevirtual 38, 3) := by decide +kernel
theorem d_Sn_takeEntry_19 : decode b_Sn_takeEntry 19 = .ok (.iinc 3 1, 3) := by decide +kernel
theorem d_Sn_takeEntry_22 : decode b_Sn_takeEntry 22 = .ok (.goto (-20), 3) := by decide +kernel
theorem d_Sn_takeEntry_25 : decode b_Sn_takeEntry 25 = .ok (.return_, 1) := by decide +kernel
abbrev b_Sn_storeEntry : ByteArray := prog_5_method_5_code
abbrev y_Sn_storeEntry : MethodName := ⟨"LongNames$ShortName", "storeEntry", "(LLongNames$Slots;I)V"⟩
abbrev w_Sn_storeEntry : List Cond := .code y_Sn_storeEntry b_Sn_storeEntry 4 none :: BIG
theorem d_Sn_storeEntry_0 : decode b_Sn_storeEntry 0 = .ok (.iconst 0, 1) := by decide +kernel
theorem d_Sn_storeEntry_1 : decode b_Sn_storeEntry 1 = .ok (.istore_n 3, 1) := by decide +kernel
theorem d_Sn_storeEntry_2 : decode b_Sn_storeEntry 2 = .ok (.iload_n 3, 1) := by decide +kernel
theorem d_Sn_storeEntry_3 : decode b_Sn_storeEntry 3 = .ok (.bipush 32, 2) := by decide +kernel
theorem d_Sn_storeEntry_5 : decode b_Sn_storeEntry 5 = .ok (.if_icmp .ge 31, 3) := by decide +kernel
theorem d_Sn_storeEntry_8 : decode b_Sn_storeEntry 8 = .ok (.aload_n 1, 1) := by decide +kernel
theorem d_Sn_storeEntry_9 : decode b_Sn_storeEntry 9 = .ok (.iload_n 2, 1) := by decide +kernel
theorem d_Sn_storeEntry_10 : decode b_Sn_storeEntry 10 = .ok (.iload_n 3, 1) := by decide +kernel
theorem d_Sn_storeEntry_11 : decode b_Sn_storeEntry 11 = .ok (.iload_n 3, 1) := by decide +kernel
theorem d_Sn_storeEntry_12 : decode b_Sn_storeEntry 12 = .ok (.bipush 11, 2) := by decide +kernel
theorem d_Sn_storeEntry_14 : decode b_Sn_storeEntry 14 = .ok (.if_icmp .ge 11, 3) := by decide +kernel
theorem d_Sn_storeEntry_17 : decode b_Sn_storeEntry 17 = .ok (.aload_n 0, 1) := by decide +kernel
theorem d_Sn_storeEntry_18 : decode b_Sn_storeEntry 18 = .ok (.iload_n 3, 1) := by decide +kernel
theorem d_Sn_storeEntry_19 : decode b_Sn_storeEntry 19 = .ok (.invokevirtual 52, 3) := by decide +kernel
theorem d_Sn_storeEntry_22 : decode b_Sn_storeEntry 22 = .ok (.goto 4, 3) := by decide +kernel
theorem d_Sn_storeEntry_25 : decode b_Sn_storeEntry 25 = .ok (.iconst 0, 1) := by decide +kernel
theorem d_Sn_storeEntry_26 : decode b_Sn_storeEntry 26 = .ok (.invokevirtual 54, 3) := by decide +kernel
theorem d_Sn_storeEntry_29 : decode b_Sn_storeEntry 29 = .ok (.pop, 1) := by decide +kernel
theorem d_Sn_storeEntry_30 : decode b_Sn_storeEntry 30 = .ok (.iinc 3 1, 3) := by decide +kernel
theorem d_Sn_storeEntry_33 : decode b_Sn_storeEntry 33 = .ok (.goto (-31), 3) := by decide +kernel
theorem d_Sn_storeEntry_36 : decode b_Sn_storeEntry 36 = .ok (.return_, 1) := by decide +kernel
abbrev b_Sn_isValid : ByteArray := prog_5_method_6_code
abbrev y_Sn_isValid : MethodName := ⟨"LongNames$ShortName", "isValid", "()Z"⟩
abbrev w_Sn_isValid : List Cond := .code y_Sn_isValid b_Sn_isValid 1 (some .boolean) :: BIG
theorem d_Sn_isValid_0 : decode b_Sn_isValid 0 = .ok (.aload_n 0, 1) := by decide +kernel
theorem d_Sn_isValid_1 : decode b_Sn_isValid 1 = .ok (.iconst 0, 1) := by decide +kernel
theorem d_Sn_isValid_2 : decode b_Sn_isValid 2 = .ok (.invokevirtual 52, 3) := by decide +kernel
theorem d_Sn_isValid_5 : decode b_Sn_isValid 5 = .ok (.bipush 32, 2) := by decide +kernel
theorem d_Sn_isValid_7 : decode b_Sn_isValid 7 = .ok (.if_icmp .eq 28, 3) := by decide +kernel
theorem d_Sn_isValid_10 : decode b_Sn_isValid 10 = .ok (.aload_n 0, 1) := by decide +kernel
theorem d_Sn_isValid_11 : decode b_Sn_isValid 11 = .ok (.iconst 0, 1) := by decide +kernel
theorem d_Sn_isValid_12 : decode b_Sn_isValid 12 = .ok (.bipush 8, 2) := by decide +kernel
theorem d_Sn_isValid_14 : decode b_Sn_isValid 14 = .ok (.invokevirtual 58, 3) := by decide +kernel
theorem d_Sn_isValid_17 : decode b_Sn_isValid 17 = .ok (.ifCond .eq 18, 3) := by decide +kernel
theorem d_Sn_isValid_20 : decode b_Sn_isValid 20 = .ok (.aload_n 0, 1) := by decide +kernel
theorem d_Sn_isValid_21 : decode b_Sn_isValid 21 = .ok (.bipush 8, 2) := by decide +kernel
theorem d_Sn_isValid_23 : decode b_Sn_isValid 23 = .ok (.bipush 11, 2) := by decide +kernel
theorem d_Sn_isValid_25 : decode b_Sn_isValid 25 = .ok (.invokevirtual 58, 3) := by decide +kernel
theorem d_Sn_isValid_28 : decode b_Sn_isValid 28 = .ok (.ifCond .eq 7, 3) := by decide +kernel
theorem d_Sn_isValid_31 : decode b_Sn_isValid 31 = .ok (.iconst 1, 1) := by decide +kernel
theorem d_Sn_isValid_32 : decode b_Sn_isValid 32 = .ok (.goto 4, 3) := by decide +kernel
theorem d_Sn_isValid_35 : decode b_Sn_isValid 35 = .ok (.iconst 0, 1) := by decide +kernel
theorem d_Sn_isValid_36 : decode b_Sn_isValid 36 = .ok (.ireturn, 1) := by decide +kernel
abbrev b_Sn_showIn : ByteArray := prog_5_method_7_code
abbrev y_Sn_showIn : MethodName := ⟨"LongNames$ShortName", "showIn", "(LLongNames$Row;)V"⟩
abbrev w_Sn_showIn : List Cond := .code y_Sn_showIn b_Sn_showIn 2 none :: BIG
theorem d_Sn_showIn_0 : decode b_Sn_showIn 0 = .ok (.aload_n 0, 1) := by decide +kernel
theorem d_Sn_showIn_1 : decode b_Sn_showIn 1 = .ok (.aload_n 1, 1) := by decide +kernel
theorem d_Sn_showIn_2 : decode b_Sn_showIn 2 = .ok (.iconst 0, 1) := by decide +kernel
theorem d_Sn_showIn_3 : decode b_Sn_showIn 3 = .ok (.bipush 8, 2) := by decide +kernel
theorem d_Sn_showIn_5 : decode b_Sn_showIn 5 = .ok (.invokevirtual 62, 3) := by decide +kernel
theorem d_Sn_showIn_8 : decode b_Sn_showIn 8 = .ok (.aload_n 0, 1) := by decide +kernel
theorem d_Sn_showIn_9 : decode b_Sn_showIn 9 = .ok (.bipush 8, 2) := by decide +kernel
theorem d_Sn_showIn_11 : decode b_Sn_showIn 11 = .ok (.invokevirtual 52, 3) := by decide +kernel
theorem d_Sn_showIn_14 : decode b_Sn_showIn 14 = .ok (.bipush 32, 2) := by decide +kernel
theorem d_Sn_showIn_16 : decode b_Sn_showIn 16 = .ok (.if_icmp .eq 19, 3) := by decide +kernel
theorem d_Sn_showIn_19 : decode b_Sn_showIn 19 = .ok (.aload_n 1, 1) := by decide +kernel
theorem d_Sn_showIn_20 : decode b_Sn_showIn 20 = .ok (.bipush 46, 2) := by decide +kernel
theorem d_Sn_showIn_22 : decode b_Sn_showIn 22 = .ok (.invokevirtual 66, 3) := by decide +kernel
theorem d_Sn_showIn_25 : decode b_Sn_showIn 25 = .ok (.pop, 1) := by decide +kernel
theorem d_Sn_showIn_26 : decode b_Sn_showIn 26 = .ok (.aload_n 0, 1) := by decide +kernel
theorem d_Sn_showIn_27 : decode b_Sn_showIn 27 = .ok (.aload_n 1, 1) := by decide +kernel
theorem d_Sn_showIn_28 : decode b_Sn_showIn 28 = .ok (.bipush 8, 2) := by decide +kernel
theorem d_Sn_showIn_30 : decode b_Sn_showIn 30 = .ok (.bipush 11, 2) := by decide +kernel
theorem d_Sn_showIn_32 : decode b_Sn_showIn 32 = .ok (.invokevirtual 62, 3) := by decide +kernel
theorem d_Sn_showIn_35 : decode b_Sn_showIn 35 = .ok (.return_, 1) := by decide +kernel
abbrev b_Sn_showBytes : ByteArray := prog_5_method_8_code
abbrev y_Sn_showBytes : MethodName := ⟨"LongNames$ShortName", "showBytes", "(LLongNames$Row;II)V"⟩
abbrev w_Sn_showBytes : List Cond := .code y_Sn_showBytes b_Sn_showBytes 5 none :: BIG
theorem d_Sn_showBytes_0 : decode b_Sn_showBytes 0 = .ok (.iload_n 2, 1) := by decide +kernel
theorem d_Sn_showBytes_1 : decode b_Sn_showBytes 1 = .ok (.istore 4, 2) := by decide +kernel
theorem d_Sn_showBytes_3 : decode b_Sn_showBytes 3 = .ok (.iload 4, 2) := by decide +kernel
theorem d_Sn_showBytes_5 : decode b_Sn_showBytes 5 = .ok (.iload_n 3, 1) := by decide +kernel
theorem d_Sn_showBytes_6 : decode b_Sn_showBytes 6 = .ok (.if_icmp .ge 31, 3) := by decide +kernel
theorem d_Sn_showBytes_9 : decode b_Sn_showBytes 9 = .ok (.aload_n 0, 1) := by decide +kernel
theorem d_Sn_showBytes_10 : decode b_Sn_showBytes 10 = .ok (.iload 4, 2) := by decide +kernel
theorem d_Sn_showBytes_12 : decode b_Sn_showBytes 12 = .ok (.invokevirtual 52, 3) := by decide +kernel
theorem d_Sn_showBytes_15 : decode b_Sn_showBytes 15 = .ok (.bipush 32, 2) := by decide +kernel
theorem d_Sn_showBytes_17 : decode b_Sn_showBytes 17 = .ok (.if_icmp .eq 20, 3) := by decide +kernel
theorem d_Sn_showBytes_20 : decode b_Sn_showBytes 20 = .ok (.aload_n 1, 1) := by decide +kernel
theorem d_Sn_showBytes_21 : decode b_Sn_showBytes 21 = .ok (.aload_n 0, 1) := by decide +kernel
theorem d_Sn_showBytes_22 : decode b_Sn_showBytes 22 = .ok (.iload 4, 2) := by decide +kernel
theorem d_Sn_showBytes_24 : decode b_Sn_showBytes 24 = .ok (.invokevirtual 52, 3) := by decide +kernel
theorem d_Sn_showBytes_27 : decode b_Sn_showBytes 27 = .ok (.invokevirtual 66, 3) := by decide +kernel
theorem d_Sn_showBytes_30 : decode b_Sn_showBytes 30 = .ok (.pop, 1) := by decide +kernel
theorem d_Sn_showBytes_31 : decode b_Sn_showBytes 31 = .ok (.iinc 4 1, 3) := by decide +kernel
theorem d_Sn_showBytes_34 : decode b_Sn_showBytes 34 = .ok (.goto (-31), 3) := by decide +kernel
theorem d_Sn_showBytes_37 : decode b_Sn_showBytes 37 = .ok (.return_, 1) := by decide +kernel
abbrev b_Sn_blanksOnlyEnd : ByteArray := prog_5_method_9_code
abbrev y_Sn_blanksOnlyEnd : MethodName := ⟨"LongNames$ShortName", "blanksOnlyEnd", "(II)Z"⟩
abbrev w_Sn_blanksOnlyEnd : List Cond := .code y_Sn_blanksOnlyEnd b_Sn_blanksOnlyEnd 5 (some .boolean) :: BIG
theorem d_Sn_blanksOnlyEnd_0 : decode b_Sn_blanksOnlyEnd 0 = .ok (.iconst 0, 1) := by decide +kernel
theorem d_Sn_blanksOnlyEnd_1 : decode b_Sn_blanksOnlyEnd 1 = .ok (.istore_n 3, 1) := by decide +kernel
theorem d_Sn_blanksOnlyEnd_2 : decode b_Sn_blanksOnlyEnd 2 = .ok (.iload_n 1, 1) := by decide +kernel
theorem d_Sn_blanksOnlyEnd_3 : decode b_Sn_blanksOnlyEnd 3 = .ok (.istore 4, 2) := by decide +kernel
theorem d_Sn_blanksOnlyEnd_5 : decode b_Sn_blanksOnlyEnd 5 = .ok (.iload 4, 2) := by decide +kernel
theorem d_Sn_blanksOnlyEnd_7 : decode b_Sn_blanksOnlyEnd 7 = .ok (.iload_n 2, 1) := by decide +kernel
theorem d_Sn_blanksOnlyEnd_8 : decode b_Sn_blanksOnlyEnd 8 = .ok (.if_icmp .ge 43, 3) := by decide +kernel
theorem d_Sn_blanksOnlyEnd_11 : decode b_Sn_blanksOnlyEnd 11 = .ok (.aload_n 0, 1) := by decide +kernel
theorem d_Sn_blanksOnlyEnd_12 : decode b_Sn_blanksOnlyEnd 12 = .ok (.iload 4, 2) := by decide +kernel
theorem d_Sn_blanksOnlyEnd_14 : decode b_Sn_blanksOnlyEnd 14 = .ok (.invokevirtual 52, 3) := by decide +kernel
theorem d_Sn_blanksOnlyEnd_17 : decode b_Sn_blanksOnlyEnd 17 = .ok (.bipush 32, 2) := by decide +kernel
theorem d_Sn_blanksOnlyEnd_19 : decode b_Sn_blanksOnlyEnd 19 = .ok (.if_icmp .ne 8, 3) := by decide +kernel
theorem d_Sn_blanksOnlyEnd_22 : decode b_Sn_blanksOnlyEnd 22 = .ok (.iconst 1, 1) := by decide +kernel
theorem d_Sn_blanksOnlyEnd_23 : decode b_Sn_blanksOnlyEnd 23 = .ok (.istore_n 3, 1) := by decide +kernel
theorem d_Sn_blanksOnlyEnd_24 : decode b_Sn_blanksOnlyEnd 24 = .ok (.goto 21, 3) := by decide +kernel
theorem d_Sn_blanksOnlyEnd_27 : decode b_Sn_blanksOnlyEnd 27 = .ok (.iload_n 3, 1) := by decide +kernel
theorem d_Sn_blanksOnlyEnd_28 : decode b_Sn_blanksOnlyEnd 28 = .ok (.ifCond .ne 15, 3) := by decide +kernel
theorem d_Sn_blanksOnlyEnd_31 : decode b_Sn_blanksOnlyEnd 31 = .ok (.aload_n 0, 1) := by decide +kernel
theorem d_Sn_blanksOnlyEnd_32 : decode b_Sn_blanksOnlyEnd 32 = .ok (.iload 4, 2) := by decide +kernel
theorem d_Sn_blanksOnlyEnd_34 : decode b_Sn_blanksOnlyEnd 34 = .ok (.invokevirtual 52, 3) := by decide +kernel
theorem d_Sn_blanksOnlyEnd_37 : decode b_Sn_blanksOnlyEnd 37 = .ok (.invokestatic 70, 3) := by decide +kernel
theorem d_Sn_blanksOnlyEnd_40 : decode b_Sn_blanksOnlyEnd 40 = .ok (.ifCond .ne 5, 3) := by decide +kernel
theorem d_Sn_blanksOnlyEnd_43 : decode b_Sn_blanksOnlyEnd 43 = .ok (.iconst 0, 1) := by decide +kernel
theorem d_Sn_blanksOnlyEnd_44 : decode b_Sn_blanksOnlyEnd 44 = .ok (.ireturn, 1) := by decide +kernel
theorem d_Sn_blanksOnlyEnd_45 : decode b_Sn_blanksOnlyEnd 45 = .ok (.iinc 4 1, 3) := by decide +kernel
theorem d_Sn_blanksOnlyEnd_48 : decode b_Sn_blanksOnlyEnd 48 = .ok (.goto (-43), 3) := by decide +kernel
theorem d_Sn_blanksOnlyEnd_51 : decode b_Sn_blanksOnlyEnd 51 = .ok (.iconst 1, 1) := by decide +kernel
theorem d_Sn_blanksOnlyEnd_52 : decode b_Sn_blanksOnlyEnd 52 = .ok (.ireturn, 1) := by decide +kernel
abbrev b_Sn_shorten : ByteArray := prog_5_method_10_code
abbrev y_Sn_shorten : MethodName := ⟨"LongNames$ShortName", "shorten", "(LLongNames$Row;IIII)I"⟩
abbrev w_Sn_shorten : List Cond := .code y_Sn_shorten b_Sn_shorten 9 (some .int) :: BIG
theorem d_Sn_shorten_0 : decode b_Sn_shorten 0 = .ok (.iconst 0, 1) := by decide +kernel
theorem d_Sn_shorten_1 : decode b_Sn_shorten 1 = .ok (.istore 6, 2) := by decide +kernel
theorem d_Sn_shorten_3 : decode b_Sn_shorten 3 = .ok (.iload_n 2, 1) := by decide +kernel
theorem d_Sn_shorten_4 : decode b_Sn_shorten 4 = .ok (.istore 7, 2) := by decide +kernel
theorem d_Sn_shorten_6 : decode b_Sn_shorten 6 = .ok (.iload 7, 2) := by decide +kernel
theorem d_Sn_shorten_8 : decode b_Sn_shorten 8 = .ok (.iload_n 3, 1) := by decide +kernel
theorem d_Sn_shorten_9 : decode b_Sn_shorten 9 = .ok (.if_icmp .ge 55, 3) := by decide +kernel
theorem d_Sn_shorten_12 : decode b_Sn_shorten 12 = .ok (.iload 6, 2) := by decide +kernel
theorem d_Sn_shorten_14 : decode b_Sn_shorten 14 = .ok (.iload 5, 2) := by decide +kernel
theorem d_Sn_shorten_16 : decode b_Sn_shorten 16 = .ok (.if_icmp .ge 48, 3) := by decide +kernel
theorem d_Sn_shorten_19 : decode b_Sn_shorten 19 = .ok (.aload_n 1, 1) := by decide +kernel
theorem d_Sn_shorten_20 : decode b_Sn_shorten 20 = .ok (.iload 7, 2) := by decide +kernel
theorem d_Sn_shorten_22 : decode b_Sn_shorten 22 = .ok (.invokevirtual 75, 3) := by decide +kernel
theorem d_Sn_shorten_25 : decode b_Sn_shorten 25 = .ok (.istore 8, 2) := by decide +kernel
theorem d_Sn_shorten_27 : decode b_Sn_shorten 27 = .ok (.iload 8, 2) := by decide +kernel
theorem d_Sn_shorten_29 : decode b_Sn_shorten 29 = .ok (.bipush 32, 2) := by decide +kernel
theorem d_Sn_shorten_31 : decode b_Sn_shorten 31 = .ok (.if_icmp .eq 27, 3) := by decide +kernel
theorem d_Sn_shorten_34 : decode b_Sn_shorten 34 = .ok (.iload 8, 2) := by decide +kernel
theorem d_Sn_shorten_36 : decode b_Sn_shorten 36 = .ok (.bipush 46, 2) := by decide +kernel
theorem d_Sn_shorten_38 : decode b_Sn_shorten 38 = .ok (.if_icmp .eq 20, 3) := by decide +kernel
theorem d_Sn_shorten_41 : decode b_Sn_shorten 41 = .ok (.aload_n 0, 1) := by decide +kernel
theorem d_Sn_shorten_42 : decode b_Sn_shorten 42 = .ok (.iload 4, 2) := by decide +kernel
theorem d_Sn_shorten_44 : decode b_Sn_shorten 44 = .ok (.iload 6, 2) := by decide +kernel
theorem d_Sn_shorten_46 : decode b_Sn_shorten 46 = .ok (.iadd, 1) := by decide +kernel
theorem d_Sn_shorten_47 : decode b_Sn_shorten 47 = .ok (.iload 8, 2) := by decide +kernel
theorem d_Sn_shorten_49 : decode b_Sn_shorten 49 = .ok (.invokestatic 76, 3) := by decide +kernel
theorem d_Sn_shorten_52 : decode b_Sn_shorten 52 = .ok (.invokevirtual 38, 3) := by decide +kernel
theorem d_Sn_shorten_55 : decode b_Sn_shorten 55 = .ok (.iinc 6 1, 3) := by decide +kernel
theorem d_Sn_shorten_58 : decode b_Sn_shorten 58 = .ok (.iinc 7 1, 3) := by decide +kernel
theorem d_Sn_shorten_61 : decode b_Sn_shorten 61 = .ok (.goto (-55), 3) := by decide +kernel
theorem d_Sn_shorten_64 : decode b_Sn_shorten 64 = .ok (.iload 6, 2) := by decide +kernel
theorem d_Sn_shorten_66 : decode b_Sn_shorten 66 = .ok (.ireturn, 1) := by decide +kernel
abbrev b_Sn_setNumber : ByteArray := prog_5_method_11_code
abbrev y_Sn_setNumber : MethodName := ⟨"LongNames$ShortName", "setNumber", "(III)V"⟩
abbrev w_Sn_setNumber : List Cond := .code y_Sn_setNumber b_Sn_setNumber 6 none :: BIG
theorem d_Sn_setNumber_0 : decode b_Sn_setNumber 0 = .ok (.iload_n 3, 1) := by decide +kernel
theorem d_Sn_setNumber_1 : decode b_Sn_setNumber 1 = .ok (.istore 4, 2) := by decide +kernel
theorem d_Sn_setNumber_3 : decode b_Sn_setNumber 3 = .ok (.iload_n 2, 1) := by decide +kernel
theorem d_Sn_setNumber_4 : decode b_Sn_setNumber 4 = .ok (.iconst 1, 1) := by decide +kernel
theorem d_Sn_setNumber_5 : decode b_Sn_setNumber 5 = .ok (.isub, 1) := by decide +kernel
theorem d_Sn_setNumber_6 : decode b_Sn_setNumber 6 = .ok (.istore 5, 2) := by decide +kernel
theorem d_Sn_setNumber_8 : decode b_Sn_setNumber 8 = .ok (.iload 5, 2) := by decide +kernel
theorem d_Sn_setNumber_10 : decode b_Sn_setNumber 10 = .ok (.ifCond .lt 32, 3) := by decide +kernel
theorem d_Sn_setNumber_13 : decode b_Sn_setNumber 13 = .ok (.aload_n 0, 1) := by decide +kernel
theorem d_Sn_setNumber_14 : decode b_Sn_setNumber 14 = .ok (.iload_n 1, 1) := by decide +kernel
theorem d_Sn_setNumber_15 : decode b_Sn_setNumber 15 = .ok (.iload 5, 2) := by decide +kernel
theorem d_Sn_setNumber_17 : decode b_Sn_setNumber 17 = .ok (.iadd, 1) := by decide +kernel
theorem d_Sn_setNumber_18 : decode b_Sn_setNumber 18 = .ok (.bipush 48, 2) := by decide +kernel
theorem d_Sn_setNumber_20 : decode b_Sn_setNumber 20 = .ok (.iload 4, 2) := by decide +kernel
theorem d_Sn_setNumber_22 : decode b_Sn_setNumber 22 = .ok (.bipush 10, 2) := by decide +kernel
theorem d_Sn_setNumber_24 : decode b_Sn_setNumber 24 = .ok (.irem, 1) := by decide +kernel
theorem d_Sn_setNumber_25 : decode b_Sn_setNumber 25 = .ok (.iadd, 1) := by decide +kernel
theorem d_Sn_setNumber_26 : decode b_Sn_setNumber 26 = .ok (.invokevirtual 38, 3) := by decide +kernel
theorem d_Sn_setNumber_29 : decode b_Sn_setNumber 29 = .ok (.iload 4, 2) := by decide +kernel
theorem d_Sn_setNumber_31 : decode b_Sn_setNumber 31 = .ok (.bipush 10, 2) := by decide +kernel
theorem d_Sn_setNumber_33 : decode b_Sn_setNumber 33 = .ok (.idiv, 1) := by decide +kernel
theorem d_Sn_setNumber_34 : decode b_Sn_setNumber 34 = .ok (.istore 4, 2) := by decide +kernel
theorem d_Sn_setNumber_36 : decode b_Sn_setNumber 36 = .ok (.iinc 5 (-1), 3) := by decide +kernel
theorem d_Sn_setNumber_39 : decode b_Sn_setNumber 39 = .ok (.goto (-31), 3) := by decide +kernel
theorem d_Sn_setNumber_42 : decode b_Sn_setNumber 42 = .ok (.return_, 1) := by decide +kernel
abbrev b_Sn_digitsOf : ByteArray := prog_5_method_12_code
abbrev y_Sn_digitsOf : MethodName := ⟨"LongNames$ShortName", "digitsOf", "(I)I"⟩
abbrev w_Sn_digitsOf : List Cond := .code y_Sn_digitsOf b_Sn_digitsOf 1 (some .int) :: BIG
theorem d_Sn_digitsOf_0 : decode b_Sn_digitsOf 0 = .ok (.iload_n 0, 1) := by decide +kernel
theorem d_Sn_digitsOf_1 : decode b_Sn_digitsOf 1 = .ok (.bipush 100, 2) := by decide +kernel
theorem d_Sn_digitsOf_3 : decode b_Sn_digitsOf 3 = .ok (.if_icmp .ge 15, 3) := by decide +kernel
theorem d_Sn_digitsOf_6 : decode b_Sn_digitsOf 6 = .ok (.iload_n 0, 1) := by decide +kernel
theorem d_Sn_digitsOf_7 : decode b_Sn_digitsOf 7 = .ok (.bipush 10, 2) := by decide +kernel
theorem d_Sn_digitsOf_9 : decode b_Sn_digitsOf 9 = .ok (.if_icmp .ge 7, 3) := by decide +kernel
theorem d_Sn_digitsOf_12 : decode b_Sn_digitsOf 12 = .ok (.iconst 1, 1) := by decide +kernel
theorem d_Sn_digitsOf_13 : decode b_Sn_digitsOf 13 = .ok (.goto 4, 3) := by decide +kernel
theorem d_Sn_digitsOf_16 : decode b_Sn_digitsOf 16 = .ok (.iconst 2, 1) := by decide +kernel
theorem d_Sn_digitsOf_17 : decode b_Sn_digitsOf 17 = .ok (.ireturn, 1) := by decide +kernel
theorem d_Sn_digitsOf_18 : decode b_Sn_digitsOf 18 = .ok (.iload_n 0, 1) := by decide +kernel
theorem d_Sn_digitsOf_19 : decode b_Sn_digitsOf 19 = .ok (.sipush 1000, 3) := by decide +kernel
theorem d_Sn_digitsOf_22 : decode b_Sn_digitsOf 22 = .ok (.if_icmp .ge 7, 3) := by decide +kernel
theorem d_Sn_digitsOf_25 : decode b_Sn_digitsOf 25 = .ok (.iconst 3, 1) := by decide +kernel
theorem d_Sn_digitsOf_26 : decode b_Sn_digitsOf 26 = .ok (.goto 4, 3) := by decide +kernel
theorem d_Sn_digitsOf_29 : decode b_Sn_digitsOf 29 = .ok (.iconst 4, 1) := by decide +kernel
theorem d_Sn_digitsOf_30 : decode b_Sn_digitsOf 30 = .ok (.ireturn, 1) := by decide +kernel
abbrev b_Sn_set : ByteArray := prog_5_method_13_code
abbrev y_Sn_set : MethodName := ⟨"LongNames$ShortName", "set", "(II)V"⟩
abbrev w_Sn_set : List Cond := .code y_Sn_set b_Sn_set 3 none :: BIG
theorem d_Sn_set_0 : decode b_Sn_set 0 = .ok (.iload_n 1, 1) := by decide +kernel
theorem d_Sn_set_1 : decode b_Sn_set 1 = .ok (.ifCond .lt 16, 3) := by decide +kernel
theorem d_Sn_set_4 : decode b_Sn_set 4 = .ok (.iload_n 1, 1) := by decide +kernel
theorem d_Sn_set_5 : decode b_Sn_set 5 = .ok (.bipush 11, 2) := by decide +kernel
theorem d_Sn_set_7 : decode b_Sn_set 7 = .ok (.if_icmp .ge 10, 3) := by decide +kernel
theorem d_Sn_set_10 : decode b_Sn_set 10 = .ok (.aload_n 0, 1) := by decide +kernel
theorem d_Sn_set_11 : decode b_Sn_set 11 = .ok (.getfield 11, 3) := by decide +kernel
theorem d_Sn_set_14 : decode b_Sn_set 14 = .ok (.iload_n 1, 1) := by decide +kernel
theorem d_Sn_set_15 : decode b_Sn_set 15 = .ok (.iload_n 2, 1) := by decide +kernel
theorem d_Sn_set_16 : decode b_Sn_set 16 = .ok (.iastore, 1) := by decide +kernel
theorem d_Sn_set_17 : decode b_Sn_set 17 = .ok (.return_, 1) := by decide +kernel
abbrev b_Sn_get : ByteArray := prog_5_method_14_code
abbrev y_Sn_get : MethodName := ⟨"LongNames$ShortName", "get", "(I)I"⟩
abbrev w_Sn_get : List Cond := .code y_Sn_get b_Sn_get 2 (some .int) :: BIG
theorem d_Sn_get_0 : decode b_Sn_get 0 = .ok (.iload_n 1, 1) := by decide +kernel
theorem d_Sn_get_1 : decode b_Sn_get 1 = .ok (.ifCond .lt 18, 3) := by decide +kernel
theorem d_Sn_get_4 : decode b_Sn_get 4 = .ok (.iload_n 1, 1) := by decide +kernel
theorem d_Sn_get_5 : decode b_Sn_get 5 = .ok (.bipush 11, 2) := by decide +kernel
theorem d_Sn_get_7 : decode b_Sn_get 7 = .ok (.if_icmp .ge 12, 3) := by decide +kernel
theorem d_Sn_get_10 : decode b_Sn_get 10 = .ok (.aload_n 0, 1) := by decide +kernel
theorem d_Sn_get_11 : decode b_Sn_get 11 = .ok (.getfield 11, 3) := by decide +kernel
theorem d_Sn_get_14 : decode b_Sn_get 14 = .ok (.iload_n 1, 1) := by decide +kernel
theorem d_Sn_get_15 : decode b_Sn_get 15 = .ok (.iaload, 1) := by decide +kernel
theorem d_Sn_get_16 : decode b_Sn_get 16 = .ok (.goto 4, 3) := by decide +kernel
theorem d_Sn_get_19 : decode b_Sn_get 19 = .ok (.iconst (-1), 1) := by decide +kernel
theorem d_Sn_get_20 : decode b_Sn_get 20 = .ok (.ireturn, 1) := by decide +kernel
abbrev b_Pt_init : ByteArray := prog_3_method_1_code
abbrev y_Pt_init : MethodName := ⟨"LongNames$Part", "<init>", "()V"⟩
abbrev w_Pt_init : List Cond := .code y_Pt_init b_Pt_init 1 none :: BIG
theorem d_Pt_init_0 : decode b_Pt_init 0 = .ok (.aload_n 0, 1) := by decide +kernel
theorem d_Pt_init_1 : decode b_Pt_init 1 = .ok (.invokespecial 3, 3) := by decide +kernel
theorem d_Pt_init_4 : decode b_Pt_init 4 = .ok (.aload_n 0, 1) := by decide +kernel
theorem d_Pt_init_5 : decode b_Pt_init 5 = .ok (.bipush 32, 2) := by decide +kernel
theorem d_Pt_init_7 : decode b_Pt_init 7 = .ok (.newarray .int, 2) := by decide +kernel
theorem d_Pt_init_9 : decode b_Pt_init 9 = .ok (.putfield 11, 3) := by decide +kernel
theorem d_Pt_init_12 : decode b_Pt_init 12 = .ok (.return_, 1) := by decide +kernel
abbrev b_Pt_build : ByteArray := prog_3_method_2_code
abbrev y_Pt_build : MethodName := ⟨"LongNames$Part", "build", "(LLongNames$Row;II)V"⟩
abbrev w_Pt_build : List Cond := .code y_Pt_build b_Pt_build 6 none :: BIG
theorem d_Pt_build_0 : decode b_Pt_build 0 = .ok (.aload_n 0, 1) := by decide +kernel
theorem d_Pt_build_1 : decode b_Pt_build 1 = .ok (.getfield 11, 3) := by decide +kernel
theorem d_Pt_build_4 : decode b_Pt_build 4 = .ok (.iconst 0, 1) := by decide +kernel
theorem d_Pt_build_5 : decode b_Pt_build 5 = .ok (.invokestatic 17, 3) := by decide +kernel
theorem d_Pt_build_8 : decode b_Pt_build 8 = .ok (.aload_n 0, 1) := by decide +kernel
theorem d_Pt_build_9 : decode b_Pt_build 9 = .ok (.iconst 0, 1) := by decide +kernel
theorem d_Pt_build_10 : decode b_Pt_build 10 = .ok (.iload_n 2, 1) := by decide +kernel
theorem d_Pt_build_11 : decode b_Pt_build 11 = .ok (.aload_n 1, 1) := by decide +kernel
theorem d_Pt_build_12 : decode b_Pt_build 12 = .ok (.invokevirtual 23, 3) := by decide +kernel
theorem d_Pt_build_15 : decode b_Pt_build 15 = .ok (.if_icmp .ne 10, 3) := by decide +kernel
theorem d_Pt_build_18 : decode b_Pt_build 18 = .ok (.iload_n 2, 1) := by decide +kernel
theorem d_Pt_build_19 : decode b_Pt_build 19 = .ok (.bipush 64, 2) := by decide +kernel
theorem d_Pt_build_21 : decode b_Pt_build 21 = .ok (.iadd, 1) := by decide +kernel
theorem d_Pt_build_22 : decode b_Pt_build 22 = .ok (.goto 4, 3) := by decide +kernel
theorem d_Pt_build_25 : decode b_Pt_build 25 = .ok (.iload_n 2, 1) := by decide +kernel
theorem d_Pt_build_26 : decode b_Pt_build 26 = .ok (.invokevirtual 29, 3) := by decide +kernel
theorem d_Pt_build_29 : decode b_Pt_build 29 = .ok (.aload_n 0, 1) := by decide +kernel
theorem d_Pt_build_30 : decode b_Pt_build 30 = .ok (.bipush 11, 2) := by decide +kernel
theorem d_Pt_build_32 : decode b_Pt_build 32 = .ok (.bipush 15, 2) := by decide +kernel
theorem d_Pt_build_34 : decode b_Pt_build 34 = .ok (.invokevirtual 29, 3) := by decide +kernel
theorem d_Pt_build_37 : decode b_Pt_build 37 = .ok (.aload_n 0, 1) := by decide +kernel
theorem d_Pt_build_38 : decode b_Pt_build 38 = .ok (.bipush 13, 2) := by decide +kernel
theorem d_Pt_build_40 : decode b_Pt_build 40 = .ok (.iload_n 3, 1) := by decide +kernel
theorem d_Pt_build_41 : decode b_Pt_build 41 = .ok (.invokevirtual 29, 3) := by decide +kernel
theorem d_Pt_build_44 : decode b_Pt_build 44 = .ok (.iconst 0, 1) := by decide +kernel
theorem d_Pt_build_45 : decode b_Pt_build 45 = .ok (.istore 4, 2) := by decide +kernel
theorem d_Pt_build_47 : decode b_Pt_build 47 = .ok (.iload 4, 2) := by decide +kernel
theorem d_Pt_build_49 : decode b_Pt_build 49 = .ok (.bipush 13, 2) := by decide +kernel
theorem d_Pt_build_51 : decode b_Pt_build 51 = .ok (.if_icmp .ge 55, 3) := by decide +kernel
theorem d_Pt_build_54 : decode b_Pt_build 54 = .ok (.aload_n 1, 1) := by decide +kernel
theorem d_Pt_build_55 : decode b_Pt_build 55 = .ok (.bipush 13, 2) := by decide +kernel
theorem d_Pt_build_57 : decode b_Pt_build 57 = .ok (.iload_n 2, 1) := by decide +kernel
theorem d_Pt_build_58 : decode b_Pt_build 58 = .ok (.iconst 1, 1) := by decide +kernel
theorem d_Pt_build_59 : decode b_Pt_build 59 = .ok (.isub, 1) := by decide +kernel
theorem d_Pt_build_60 : decode b_Pt_build 60 = .ok (.imul, 1) := by decide +kernel
theorem d_Pt_build_61 : decode b_Pt_build 61 = .ok (.iload 4, 2) := by decide +kernel
theorem d_Pt_build_63 : decode b_Pt_build 63 = .ok (.iadd, 1) := by decide +kernel
theorem d_Pt_build_64 : decode b_Pt_build 64 = .ok (.invokestatic 33, 3) := by decide +kernel
theorem d_Pt_build_67 : decode b_Pt_build 67 = .ok (.istore 5, 2) := by decide +kernel
theorem d_Pt_build_69 : decode b_Pt_build 69 = .ok (.aload_n 0, 1) := by decide +kernel
theorem d_Pt_build_70 : decode b_Pt_build 70 = .ok (.iload 4, 2) := by decide +kernel
theorem d_Pt_build_72 : decode b_Pt_build 72 = .ok (.invokestatic 37, 3) := by decide +kernel
theorem d_Pt_build_75 : decode b_Pt_build 75 = .ok (.iload 5, 2) := by decide +kernel
theorem d_Pt_build_77 : decode b_Pt_build 77 = .ok (.sipush 255, 3) := by decide +kernel
theorem d_Pt_build_80 : decode b_Pt_build 80 = .ok (.iand, 1) := by decide +kernel
theorem d_Pt_build_81 : decode b_Pt_build 81 = .ok (.invokevirtual 29, 3) := by decide +kernel
theorem d_Pt_build_84 : decode b_Pt_build 84 = .ok (.aload_n 0, 1) := by decide +kernel
theorem d_Pt_build_85 : decode b_Pt_build 85 = .ok (.iload 4, 2) := by decide +kernel
theorem d_Pt_build_87 : decode b_Pt_build 87 = .ok (.invokestatic 37, 3) := by decide +kernel
theorem d_Pt_build_90 : decode b_Pt_build 90 = .ok (.iconst 1, 1) := by decide +kernel
theorem d_Pt_build_91 : decode b_Pt_build 91 = .ok (.iadd, 1) := by decide +kernel
theorem d_Pt_build_92 : decode b_Pt_build 92 = .ok (.iload 5, 2) := by decide +kernel
theorem d_Pt_build_94 : decode b_Pt_build 94 = .ok (.bipush 8, 2) := by decide +kernel
theorem d_Pt_build_96 : decode b_Pt_build 96 = .ok (.ishr, 1) := by decide +kernel
theorem d_Pt_build_97 : decode b_Pt_build 97 = .ok (.invokevirtual 29, 3) := by decide +kernel
theorem d_Pt_build_100 : decode b_Pt_build 100 = .ok (.iinc 4 1, 3) := by decide +kernel
theorem d_Pt_build_103 : decode b_Pt_build 103 = .ok (.goto (-56), 3) := by decide +kernel
theorem d_Pt_build_106 : decode b_Pt_build 106 = .ok (.return_, 1) := by decide +kernel
abbrev b_Pt_storeIn : ByteArray := prog_3_method_3_code
abbrev y_Pt_storeIn : MethodName := ⟨"LongNames$Part", "storeIn", "(LLongNames$Slots;I)V"⟩
abbrev w_Pt_storeIn : List Cond := .code y_Pt_storeIn b_Pt_storeIn 4 none :: BIG
theorem d_Pt_storeIn_0 : decode b_Pt_storeIn 0 = .ok (.iconst 0, 1) := by decide +kernel
theorem d_Pt_storeIn_1 : decode b_Pt_storeIn 1 = .ok (.istore_n 3, 1) := by decide +kernel
theorem d_Pt_storeIn_2 : decode b_Pt_storeIn 2 = .ok (.iload_n 3, 1) := by decide +kernel
theorem d_Pt_storeIn_3 : decode b_Pt_storeIn 3 = .ok (.bipush 32, 2) := by decide +kernel
theorem d_Pt_storeIn_5 : decode b_Pt_storeIn 5 = .ok (.if_icmp .ge 21, 3) := by decide +kernel
theorem d_Pt_storeIn_8 : decode b_Pt_storeIn 8 = .ok (.aload_n 1, 1) := by decide +kernel
theorem d_Pt_storeIn_9 : decode b_Pt_storeIn 9 = .ok (.iload_n 2, 1) := by decide +kernel
theorem d_Pt_storeIn_10 : decode b_Pt_storeIn 10 = .ok (.iload_n 3, 1) := by decide +kernel
theorem d_Pt_storeIn_11 : decode b_Pt_storeIn 11 = .ok (.aload_n 0, 1) := by decide +kernel
theorem d_Pt_storeIn_12 : decode b_Pt_storeIn 12 = .ok (.iload_n 3, 1) := by decide +kernel
theorem d_Pt_storeIn_13 : decode b_Pt_storeIn 13 = .ok (.invokevirtual 41, 3) := by decide +kernel
theorem d_Pt_storeIn_16 : decode b_Pt_storeIn 16 = .ok (.invokevirtual 44, 3) := by decide +kernel
theorem d_Pt_storeIn_19 : decode b_Pt_storeIn 19 = .ok (.pop, 1) := by decide +kernel
theorem d_Pt_storeIn_20 : decode b_Pt_storeIn 20 = .ok (.iinc 3 1, 3) := by decide +kernel
theorem d_Pt_storeIn_23 : decode b_Pt_storeIn 23 = .ok (.goto (-21), 3) := by decide +kernel
theorem d_Pt_storeIn_26 : decode b_Pt_storeIn 26 = .ok (.return_, 1) := by decide +kernel
abbrev b_Pt_isIn : ByteArray := prog_3_method_4_code
abbrev y_Pt_isIn : MethodName := ⟨"LongNames$Part", "isIn", "(LLongNames$Slots;I)Z"⟩
abbrev w_Pt_isIn : List Cond := .code y_Pt_isIn b_Pt_isIn 4 (some .boolean) :: BIG
theorem d_Pt_isIn_0 : decode b_Pt_isIn 0 = .ok (.iconst 0, 1) := by decide +kernel
theorem d_Pt_isIn_1 : decode b_Pt_isIn 1 = .ok (.istore_n 3, 1) := by decide +kernel
theorem d_Pt_isIn_2 : decode b_Pt_isIn 2 = .ok (.iload_n 3, 1) := by decide +kernel
theorem d_Pt_isIn_3 : decode b_Pt_isIn 3 = .ok (.bipush 32, 2) := by decide +kernel
theorem d_Pt_isIn_5 : decode b_Pt_isIn 5 = .ok (.if_icmp .ge 25, 3) := by decide +kernel
theorem d_Pt_isIn_8 : decode b_Pt_isIn 8 = .ok (.aload_n 1, 1) := by decide +kernel
theorem d_Pt_isIn_9 : decode b_Pt_isIn 9 = .ok (.iload_n 2, 1) := by decide +kernel
theorem d_Pt_isIn_10 : decode b_Pt_isIn 10 = .ok (.iload_n 3, 1) := by decide +kernel
theorem d_Pt_isIn_11 : decode b_Pt_isIn 11 = .ok (.invokevirtual 48, 3) := by decide +kernel
theorem d_Pt_isIn_14 : decode b_Pt_isIn 14 = .ok (.aload_n 0, 1) := by decide +kernel
theorem d_Pt_isIn_15 : decode b_Pt_isIn 15 = .ok (.iload_n 3, 1) := by decide +kernel
theorem d_Pt_isIn_16 : decode b_Pt_isIn 16 = .ok (.invokevirtual 41, 3) := by decide +kernel
theorem d_Pt_isIn_19 : decode b_Pt_isIn 19 = .ok (.if_icmp .eq 5, 3) := by decide +kernel
theorem d_Pt_isIn_22 : decode b_Pt_isIn 22 = .ok (.iconst 0, 1) := by decide +kernel
theorem d_Pt_isIn_23 : decode b_Pt_isIn 23 = .ok (.ireturn, 1) := by decide +kernel
theorem d_Pt_isIn_24 : decode b_Pt_isIn 24 = .ok (.iinc 3 1, 3) := by decide +kernel
theorem d_Pt_isIn_27 : decode b_Pt_isIn 27 = .ok (.goto (-25), 3) := by decide +kernel
theorem d_Pt_isIn_30 : decode b_Pt_isIn 30 = .ok (.iconst 1, 1) := by decide +kernel
theorem d_Pt_isIn_31 : decode b_Pt_isIn 31 = .ok (.ireturn, 1) := by decide +kernel
abbrev b_Pt_unitIn : ByteArray := prog_3_method_5_code
abbrev y_Pt_unitIn : MethodName := ⟨"LongNames$Part", "unitIn", "(LLongNames$Slots;II)I"⟩
abbrev w_Pt_unitIn : List Cond := .code y_Pt_unitIn b_Pt_unitIn 4 (some .int) :: BIG
theorem d_Pt_unitIn_0 : decode b_Pt_unitIn 0 = .ok (.iload_n 2, 1) := by decide +kernel
theorem d_Pt_unitIn_1 : decode b_Pt_unitIn 1 = .ok (.invokestatic 37, 3) := by decide +kernel
theorem d_Pt_unitIn_4 : decode b_Pt_unitIn 4 = .ok (.istore_n 3, 1) := by decide +kernel
theorem d_Pt_unitIn_5 : decode b_Pt_unitIn 5 = .ok (.aload_n 0, 1) := by decide +kernel
theorem d_Pt_unitIn_6 : decode b_Pt_unitIn 6 = .ok (.iload_n 1, 1) := by decide +kernel
theorem d_Pt_unitIn_7 : decode b_Pt_unitIn 7 = .ok (.iload_n 3, 1) := by decide +kernel
theorem d_Pt_unitIn_8 : decode b_Pt_unitIn 8 = .ok (.invokevirtual 48, 3) := by decide +kernel
theorem d_Pt_unitIn_11 : decode b_Pt_unitIn 11 = .ok (.sipush 256, 3) := by decide +kernel
theorem d_Pt_unitIn_14 : decode b_Pt_unitIn 14 = .ok (.aload_n 0, 1) := by decide +kernel
theorem d_Pt_unitIn_15 : decode b_Pt_unitIn 15 = .ok (.iload_n 1, 1) := by decide +kernel
theorem d_Pt_unitIn_16 : decode b_Pt_unitIn 16 = .ok (.iload_n 3, 1) := by decide +kernel
theorem d_Pt_unitIn_17 : decode b_Pt_unitIn 17 = .ok (.iconst 1, 1) := by decide +kernel
theorem d_Pt_unitIn_18 : decode b_Pt_unitIn 18 = .ok (.iadd, 1) := by decide +kernel
theorem d_Pt_unitIn_19 : decode b_Pt_unitIn 19 = .ok (.invokevirtual 48, 3) := by decide +kernel
theorem d_Pt_unitIn_22 : decode b_Pt_unitIn 22 = .ok (.imul, 1) := by decide +kernel
theorem d_Pt_unitIn_23 : decode b_Pt_unitIn 23 = .ok (.iadd, 1) := by decide +kernel
theorem d_Pt_unitIn_24 : decode b_Pt_unitIn 24 = .ok (.ireturn, 1) := by decide +kernel
abbrev b_Pt_unitOrFill : ByteArray := prog_3_method_6_code
abbrev y_Pt_unitOrFill : MethodName := ⟨"LongNames$Part", "unitOrFill", "(LLongNames$Row;I)I"⟩
abbrev w_Pt_unitOrFill : List Cond := .code y_Pt_unitOrFill b_Pt_unitOrFill 2 (some .int) :: BIG
theorem d_Pt_unitOrFill_0 : decode b_Pt_unitOrFill 0 = .ok (.iload_n 1, 1) := by decide +kernel
theorem d_Pt_unitOrFill_1 : decode b_Pt_unitOrFill 1 = .ok (.aload_n 0, 1) := by decide +kernel
theorem d_Pt_unitOrFill_2 : decode b_Pt_unitOrFill 2 = .ok (.invokevirtual 51, 3) := by decide +kernel
theorem d_Pt_unitOrFill_5 : decode b_Pt_unitOrFill 5 = .ok (.if_icmp .ge 9, 3) := by decide +kernel
theorem d_Pt_unitOrFill_8 : decode b_Pt_unitOrFill 8 = .ok (.aload_n 0, 1) := by decide +kernel
theorem d_Pt_unitOrFill_9 : decode b_Pt_unitOrFill 9 = .ok (.iload_n 1, 1) := by decide +kernel
theorem d_Pt_unitOrFill_10 : decode b_Pt_unitOrFill 10 = .ok (.invokevirtual 54, 3) := by decide +kernel
theorem d_Pt_unitOrFill_13 : decode b_Pt_unitOrFill 13 = .ok (.ireturn, 1) := by decide +kernel
theorem d_Pt_unitOrFill_14 : decode b_Pt_unitOrFill 14 = .ok (.iload_n 1, 1) := by decide +kernel
theorem d_Pt_unitOrFill_15 : decode b_Pt_unitOrFill 15 = .ok (.aload_n 0, 1) := by decide +kernel
theorem d_Pt_unitOrFill_16 : decode b_Pt_unitOrFill 16 = .ok (.invokevirtual 51, 3) := by decide +kernel
theorem d_Pt_unitOrFill_19 : decode b_Pt_unitOrFill 19 = .ok (.if_icmp .ne 7, 3) := by decide +kernel
theorem d_Pt_unitOrFill_22 : decode b_Pt_unitOrFill 22 = .ok (.iconst 0, 1) := by decide +kernel
theorem d_Pt_unitOrFill_23 : decode b_Pt_unitOrFill 23 = .ok (.goto 5, 3) := by decide +kernel
theorem d_Pt_unitOrFill_26 : decode b_Pt_unitOrFill 26 = .ok (.ldc 55, 2) := by decide +kernel
theorem d_Pt_unitOrFill_28 : decode b_Pt_unitOrFill 28 = .ok (.ireturn, 1) := by decide +kernel
abbrev b_Pt_placeOf : ByteArray := prog_3_method_7_code
abbrev y_Pt_placeOf : MethodName := ⟨"LongNames$Part", "placeOf", "(I)I"⟩
abbrev w_Pt_placeOf : List Cond := .code y_Pt_placeOf b_Pt_placeOf 1 (some .int) :: BIG
theorem d_Pt_placeOf_0 : decode b_Pt_placeOf 0 = .ok (.iload_n 0, 1) := by decide +kernel
theorem d_Pt_placeOf_1 : decode b_Pt_placeOf 1 = .ok (.ifCond .lt 19, 3) := by decide +kernel
theorem d_Pt_placeOf_4 : decode b_Pt_placeOf 4 = .ok (.iload_n 0, 1) := by decide +kernel
theorem d_Pt_placeOf_5 : decode b_Pt_placeOf 5 = .ok (.getstatic 56, 3) := by decide +kernel
theorem d_Pt_placeOf_8 : decode b_Pt_placeOf 8 = .ok (.arraylength, 1) := by decide +kernel
theorem d_Pt_placeOf_9 : decode b_Pt_placeOf 9 = .ok (.if_icmp .ge 11, 3) := by decide +kernel
theorem d_Pt_placeOf_12 : decode b_Pt_placeOf 12 = .ok (.getstatic 56, 3) := by decide +kernel
theorem d_Pt_placeOf_15 : decode b_Pt_placeOf 15 = .ok (.iload_n 0, 1) := by decide +kernel
theorem d_Pt_placeOf_16 : decode b_Pt_placeOf 16 = .ok (.iaload, 1) := by decide +kernel
theorem d_Pt_placeOf_17 : decode b_Pt_placeOf 17 = .ok (.goto 4, 3) := by decide +kernel
theorem d_Pt_placeOf_20 : decode b_Pt_placeOf 20 = .ok (.iconst (-1), 1) := by decide +kernel
theorem d_Pt_placeOf_21 : decode b_Pt_placeOf 21 = .ok (.ireturn, 1) := by decide +kernel
abbrev b_Pt_set : ByteArray := prog_3_method_8_code
abbrev y_Pt_set : MethodName := ⟨"LongNames$Part", "set", "(II)V"⟩
abbrev w_Pt_set : List Cond := .code y_Pt_set b_Pt_set 3 none :: BIG
theorem d_Pt_set_0 : decode b_Pt_set 0 = .ok (.iload_n 1, 1) := by decide +kernel
theorem d_Pt_set_1 : decode b_Pt_set 1 = .ok (.ifCond .lt 16, 3) := by decide +kernel
theorem d_Pt_set_4 : decode b_Pt_set 4 = .ok (.iload_n 1, 1) := by decide +kernel
theorem d_Pt_set_5 : decode b_Pt_set 5 = .ok (.bipush 32, 2) := by decide +kernel
theorem d_Pt_set_7 : decode b_Pt_set 7 = .ok (.if_icmp .ge 10, 3) := by decide +kernel
theorem d_Pt_set_10 : decode b_Pt_set 10 = .ok (.aload_n 0, 1) := by decide +kernel
theorem d_Pt_set_11 : decode b_Pt_set 11 = .ok (.getfield 11, 3) := by decide +kernel
theorem d_Pt_set_14 : decode b_Pt_set 14 = .ok (.iload_n 1, 1) := by decide +kernel
theorem d_Pt_set_15 : decode b_Pt_set 15 = .ok (.iload_n 2, 1) := by decide +kernel
theorem d_Pt_set_16 : decode b_Pt_set 16 = .ok (.iastore, 1) := by decide +kernel
theorem d_Pt_set_17 : decode b_Pt_set 17 = .ok (.return_, 1) := by decide +kernel
abbrev b_Pt_get : ByteArray := prog_3_method_9_code
abbrev y_Pt_get : MethodName := ⟨"LongNames$Part", "get", "(I)I"⟩
abbrev w_Pt_get : List Cond := .code y_Pt_get b_Pt_get 2 (some .int) :: BIG
theorem d_Pt_get_0 : decode b_Pt_get 0 = .ok (.iload_n 1, 1) := by decide +kernel
theorem d_Pt_get_1 : decode b_Pt_get 1 = .ok (.ifCond .lt 18, 3) := by decide +kernel
theorem d_Pt_get_4 : decode b_Pt_get 4 = .ok (.iload_n 1, 1) := by decide +kernel
theorem d_Pt_get_5 : decode b_Pt_get 5 = .ok (.bipush 32, 2) := by decide +kernel
theorem d_Pt_get_7 : decode b_Pt_get 7 = .ok (.if_icmp .ge 12, 3) := by decide +kernel
theorem d_Pt_get_10 : decode b_Pt_get 10 = .ok (.aload_n 0, 1) := by decide +kernel
theorem d_Pt_get_11 : decode b_Pt_get 11 = .ok (.getfield 11, 3) := by decide +kernel
theorem d_Pt_get_14 : decode b_Pt_get 14 = .ok (.iload_n 1, 1) := by decide +kernel
theorem d_Pt_get_15 : decode b_Pt_get 15 = .ok (.iaload, 1) := by decide +kernel
theorem d_Pt_get_16 : decode b_Pt_get 16 = .ok (.goto 4, 3) := by decide +kernel
theorem d_Pt_get_19 : decode b_Pt_get 19 = .ok (.iconst (-1), 1) := by decide +kernel
theorem d_Pt_get_20 : decode b_Pt_get 20 = .ok (.ireturn, 1) := by decide +kernel
abbrev b_Sl_init : ByteArray := prog_6_method_1_code
abbrev y_Sl_init : MethodName := ⟨"LongNames$Slots", "<init>", "()V"⟩
abbrev w_Sl_init : List Cond := .code y_Sl_init b_Sl_init 1 none :: BIG
theorem d_Sl_init_0 : decode b_Sl_init 0 = .ok (.aload_n 0, 1) := by decide +kernel
theorem d_Sl_init_1 : decode b_Sl_init 1 = .ok (.invokespecial 3, 3) := by decide +kernel
theorem d_Sl_init_4 : decode b_Sl_init 4 = .ok (.aload_n 0, 1) := by decide +kernel
theorem d_Sl_init_5 : decode b_Sl_init 5 = .ok (.sipush 1024, 3) := by decide +kernel
theorem d_Sl_init_8 : decode b_Sl_init 8 = .ok (.newarray .int, 2) := by decide +kernel
theorem d_Sl_init_10 : decode b_Sl_init 10 = .ok (.putfield 11, 3) := by decide +kernel
theorem d_Sl_init_13 : decode b_Sl_init 13 = .ok (.return_, 1) := by decide +kernel
abbrev b_Sl_isSlot : ByteArray := prog_6_method_2_code
abbrev y_Sl_isSlot : MethodName := ⟨"LongNames$Slots", "isSlot", "(I)Z"⟩
abbrev w_Sl_isSlot : List Cond := .code y_Sl_isSlot b_Sl_isSlot 1 (some .boolean) :: BIG
theorem d_Sl_isSlot_0 : decode b_Sl_isSlot 0 = .ok (.iload_n 0, 1) := by decide +kernel
theorem d_Sl_isSlot_1 : decode b_Sl_isSlot 1 = .ok (.ifCond .lt 13, 3) := by decide +kernel
theorem d_Sl_isSlot_4 : decode b_Sl_isSlot 4 = .ok (.iload_n 0, 1) := by decide +kernel
theorem d_Sl_isSlot_5 : decode b_Sl_isSlot 5 = .ok (.bipush 32, 2) := by decide +kernel
theorem d_Sl_isSlot_7 : decode b_Sl_isSlot 7 = .ok (.if_icmp .ge 7, 3) := by decide +kernel
theorem d_Sl_isSlot_10 : decode b_Sl_isSlot 10 = .ok (.iconst 1, 1) := by decide +kernel
theorem d_Sl_isSlot_11 : decode b_Sl_isSlot 11 = .ok (.goto 4, 3) := by decide +kernel
theorem d_Sl_isSlot_14 : decode b_Sl_isSlot 14 = .ok (.iconst 0, 1) := by decide +kernel
theorem d_Sl_isSlot_15 : decode b_Sl_isSlot 15 = .ok (.ireturn, 1) := by decide +kernel
abbrev b_Sl_put : ByteArray := prog_6_method_3_code
abbrev y_Sl_put : MethodName := ⟨"LongNames$Slots", "put", "(III)Z"⟩
abbrev w_Sl_put : List Cond := .code y_Sl_put b_Sl_put 4 (some .boolean) :: BIG
theorem d_Sl_put_0 : decode b_Sl_put 0 = .ok (.iload_n 1, 1) := by decide +kernel
theorem d_Sl_put_1 : decode b_Sl_put 1 = .ok (.iload_n 2, 1) := by decide +kernel
theorem d_Sl_put_2 : decode b_Sl_put 2 = .ok (.invokestatic 15, 3) := by decide +kernel
theorem d_Sl_put_5 : decode b_Sl_put 5 = .ok (.ifCond .ne 5, 3) := by decide +kernel
theorem d_Sl_put_8 : decode b_Sl_put 8 = .ok (.iconst 0, 1) := by decide +kernel
theorem d_Sl_put_9 : decode b_Sl_put 9 = .ok (.ireturn, 1) := by decide +kernel
theorem d_Sl_put_10 : decode b_Sl_put 10 = .ok (.aload_n 0, 1) := by decide +kernel
theorem d_Sl_put_11 : decode b_Sl_put 11 = .ok (.getfield 11, 3) := by decide +kernel
theorem d_Sl_put_14 : decode b_Sl_put 14 = .ok (.iload_n 1, 1) := by decide +kernel
theorem d_Sl_put_15 : decode b_Sl_put 15 = .ok (.bipush 32, 2) := by decide +kernel
theorem d_Sl_put_17 : decode b_Sl_put 17 = .ok (.imul, 1) := by decide +kernel
theorem d_Sl_put_18 : decode b_Sl_put 18 = .ok (.iload_n 2, 1) := by decide +kernel
theorem d_Sl_put_19 : decode b_Sl_put 19 = .ok (.iadd, 1) := by decide +kernel
theorem d_Sl_put_20 : decode b_Sl_put 20 = .ok (.iload_n 3, 1) := by decide +kernel
theorem d_Sl_put_21 : decode b_Sl_put 21 = .ok (.sipush 255, 3) := by decide +kernel
theorem d_Sl_put_24 : decode b_Sl_put 24 = .ok (.iand, 1) := by decide +kernel
theorem d_Sl_put_25 : decode b_Sl_put 25 = .ok (.iastore, 1) := by decide +kernel
theorem d_Sl_put_26 : decode b_Sl_put 26 = .ok (.iconst 1, 1) := by decide +kernel
theorem d_Sl_put_27 : decode b_Sl_put 27 = .ok (.ireturn, 1) := by decide +kernel
abbrev b_Sl_get : ByteArray := prog_6_method_4_code
abbrev y_Sl_get : MethodName := ⟨"LongNames$Slots", "get", "(II)I"⟩
abbrev w_Sl_get : List Cond := .code y_Sl_get b_Sl_get 3 (some .int) :: BIG
theorem d_Sl_get_0 : decode b_Sl_get 0 = .ok (.iload_n 1, 1) := by decide +kernel
theorem d_Sl_get_1 : decode b_Sl_get 1 = .ok (.iload_n 2, 1) := by decide +kernel
theorem d_Sl_get_2 : decode b_Sl_get 2 = .ok (.invokestatic 15, 3) := by decide +kernel
theorem d_Sl_get_5 : decode b_Sl_get 5 = .ok (.ifCond .eq 17, 3) := by decide +kernel
theorem d_Sl_get_8 : decode b_Sl_get 8 = .ok (.aload_n 0, 1) := by decide +kernel
theorem d_Sl_get_9 : decode b_Sl_get 9 = .ok (.getfield 11, 3) := by decide +kernel
theorem d_Sl_get_12 : decode b_Sl_get 12 = .ok (.iload_n 1, 1) := by decide +kernel
theorem d_Sl_get_13 : decode b_Sl_get 13 = .ok (.bipush 32, 2) := by decide +kernel
theorem d_Sl_get_15 : decode b_Sl_get 15 = .ok (.imul, 1) := by decide +kernel
theorem d_Sl_get_16 : decode b_Sl_get 16 = .ok (.iload_n 2, 1) := by decide +kernel
theorem d_Sl_get_17 : decode b_Sl_get 17 = .ok (.iadd, 1) := by decide +kernel
theorem d_Sl_get_18 : decode b_Sl_get 18 = .ok (.iaload, 1) := by decide +kernel
theorem d_Sl_get_19 : decode b_Sl_get 19 = .ok (.goto 4, 3) := by decide +kernel
theorem d_Sl_get_22 : decode b_Sl_get 22 = .ok (.iconst (-1), 1) := by decide +kernel
theorem d_Sl_get_23 : decode b_Sl_get 23 = .ok (.ireturn, 1) := by decide +kernel
abbrev b_Sl_entrySum : ByteArray := prog_6_method_5_code
abbrev y_Sl_entrySum : MethodName := ⟨"LongNames$Slots", "entrySum", "(I)I"⟩
abbrev w_Sl_entrySum : List Cond := .code y_Sl_entrySum b_Sl_entrySum 5 (some .int) :: BIG
theorem d_Sl_entrySum_0 : decode b_Sl_entrySum 0 = .ok (.iconst 0, 1) := by decide +kernel
theorem d_Sl_entrySum_1 : decode b_Sl_entrySum 1 = .ok (.istore_n 2, 1) := by decide +kernel
theorem d_Sl_entrySum_2 : decode b_Sl_entrySum 2 = .ok (.iconst 0, 1) := by decide +kernel
theorem d_Sl_entrySum_3 : decode b_Sl_entrySum 3 = .ok (.istore_n 3, 1) := by decide +kernel
theorem d_Sl_entrySum_4 : decode b_Sl_entrySum 4 = .ok (.iload_n 3, 1) := by decide +kernel
theorem d_Sl_entrySum_5 : decode b_Sl_entrySum 5 = .ok (.bipush 11, 2) := by decide +kernel
theorem d_Sl_entrySum_7 : decode b_Sl_entrySum 7 = .ok (.if_icmp .ge 36, 3) := by decide +kernel
theorem d_Sl_entrySum_10 : decode b_Sl_entrySum 10 = .ok (.iload_n 2, 1) := by decide +kernel
theorem d_Sl_entrySum_11 : decode b_Sl_entrySum 11 = .ok (.iconst 1, 1) := by decide +kernel
theorem d_Sl_entrySum_12 : decode b_Sl_entrySum 12 = .ok (.iand, 1) := by decide +kernel
theorem d_Sl_entrySum_13 : decode b_Sl_entrySum 13 = .ok (.sipush 128, 3) := by decide +kernel
theorem d_Sl_entrySum_16 : decode b_Sl_entrySum 16 = .ok (.imul, 1) := by decide +kernel
theorem d_Sl_entrySum_17 : decode b_Sl_entrySum 17 = .ok (.iload_n 2, 1) := by decide +kernel
theorem d_Sl_entrySum_18 : decode b_Sl_entrySum 18 = .ok (.iconst 1, 1) := by decide +kernel
theorem d_Sl_entrySum_19 : decode b_Sl_entrySum 19 = .ok (.ishr, 1) := by decide +kernel
theorem d_Sl_entrySum_20 : decode b_Sl_entrySum 20 = .ok (.iadd, 1) := by decide +kernel
theorem d_Sl_entrySum_21 : decode b_Sl_entrySum 21 = .ok (.istore 4, 2) := by decide +kernel
theorem d_Sl_entrySum_23 : decode b_Sl_entrySum 23 = .ok (.iload 4, 2) := by decide +kernel
theorem d_Sl_entrySum_25 : decode b_Sl_entrySum 25 = .ok (.aload_n 0, 1) := by decide +kernel
theorem d_Sl_entrySum_26 : decode b_Sl_entrySum 26 = .ok (.iload_n 1, 1) := by decide +kernel
theorem d_Sl_entrySum_27 : decode b_Sl_entrySum 27 = .ok (.iload_n 3, 1) := by decide +kernel
theorem d_Sl_entrySum_28 : decode b_Sl_entrySum 28 = .ok (.invokevirtual 21, 3) := by decide +kernel
theorem d_Sl_entrySum_31 : decode b_Sl_entrySum 31 = .ok (.iadd, 1) := by decide +kernel
theorem d_Sl_entrySum_32 : decode b_Sl_entrySum 32 = .ok (.sipush 255, 3) := by decide +kernel
theorem d_Sl_entrySum_35 : decode b_Sl_entrySum 35 = .ok (.iand, 1) := by decide +kernel
theorem d_Sl_entrySum_36 : decode b_Sl_entrySum 36 = .ok (.istore_n 2, 1) := by decide +kernel
theorem d_Sl_entrySum_37 : decode b_Sl_entrySum 37 = .ok (.iinc 3 1, 3) := by decide +kernel
theorem d_Sl_entrySum_40 : decode b_Sl_entrySum 40 = .ok (.goto (-36), 3) := by decide +kernel
theorem d_Sl_entrySum_43 : decode b_Sl_entrySum 43 = .ok (.iload_n 2, 1) := by decide +kernel
theorem d_Sl_entrySum_44 : decode b_Sl_entrySum 44 = .ok (.ireturn, 1) := by decide +kernel
abbrev b_Sl_hasByte : ByteArray := prog_6_method_6_code
abbrev y_Sl_hasByte : MethodName := ⟨"LongNames$Slots", "hasByte", "(II)Z"⟩
abbrev w_Sl_hasByte : List Cond := .code y_Sl_hasByte b_Sl_hasByte 2 (some .boolean) :: BIG
theorem d_Sl_hasByte_0 : decode b_Sl_hasByte 0 = .ok (.iload_n 0, 1) := by decide +kernel
theorem d_Sl_hasByte_1 : decode b_Sl_hasByte 1 = .ok (.invokestatic 25, 3) := by decide +kernel
theorem d_Sl_hasByte_4 : decode b_Sl_hasByte 4 = .ok (.ifCond .eq 17, 3) := by decide +kernel
theorem d_Sl_hasByte_7 : decode b_Sl_hasByte 7 = .ok (.iload_n 1, 1) := by decide +kernel
theorem d_Sl_hasByte_8 : decode b_Sl_hasByte 8 = .ok (.ifCond .lt 13, 3) := by decide +kernel
theorem d_Sl_hasByte_11 : decode b_Sl_hasByte 11 = .ok (.iload_n 1, 1) := by decide +kernel
theorem d_Sl_hasByte_12 : decode b_Sl_hasByte 12 = .ok (.bipush 32, 2) := by decide +kernel
theorem d_Sl_hasByte_14 : decode b_Sl_hasByte 14 = .ok (.if_icmp .ge 7, 3) := by decide +kernel
theorem d_Sl_hasByte_17 : decode b_Sl_hasByte 17 = .ok (.iconst 1, 1) := by decide +kernel
theorem d_Sl_hasByte_18 : decode b_Sl_hasByte 18 = .ok (.goto 4, 3) := by decide +kernel
theorem d_Sl_hasByte_21 : decode b_Sl_hasByte 21 = .ok (.iconst 0, 1) := by decide +kernel
theorem d_Sl_hasByte_22 : decode b_Sl_hasByte 22 = .ok (.ireturn, 1) := by decide +kernel
abbrev b_Un_mayStandInName : ByteArray := prog_7_method_2_code
abbrev y_Un_mayStandInName : MethodName := ⟨"LongNames$Units", "mayStandInName", "(I)Z"⟩
abbrev w_Un_mayStandInName : List Cond := .code y_Un_mayStandInName b_Un_mayStandInName 1 (some .boolean) :: BIG
theorem d_Un_mayStandInName_0 : decode b_Un_mayStandInName 0 = .ok (.iload_n 0, 1) := by decide +kernel
theorem d_Un_mayStandInName_1 : decode b_Un_mayStandInName 1 = .ok (.bipush 32, 2) := by decide +kernel
theorem d_Un_mayStandInName_3 : decode b_Un_mayStandInName 3 = .ok (.if_icmp .lt 21, 3) := by decide +kernel
theorem d_Un_mayStandInName_6 : decode b_Un_mayStandInName 6 = .ok (.iload_n 0, 1) := by decide +kernel
theorem d_Un_mayStandInName_7 : decode b_Un_mayStandInName 7 = .ok (.ldc 7, 2) := by decide +kernel
theorem d_Un_mayStandInName_9 : decode b_Un_mayStandInName 9 = .ok (.if_icmp .gt 15, 3) := by decide +kernel
theorem d_Un_mayStandInName_12 : decode b_Un_mayStandInName 12 = .ok (.iload_n 0, 1) := by decide +kernel
theorem d_Un_mayStandInName_13 : decode b_Un_mayStandInName 13 = .ok (.ldc 8, 2) := by decide +kernel
theorem d_Un_mayStandInName_15 : decode b_Un_mayStandInName 15 = .ok (.if_icmp .lt 11, 3) := by decide +kernel
theorem d_Un_mayStandInName_18 : decode b_Un_mayStandInName 18 = .ok (.iload_n 0, 1) := by decide +kernel
theorem d_Un_mayStandInName_19 : decode b_Un_mayStandInName 19 = .ok (.ldc 9, 2) := by decide +kernel
theorem d_Un_mayStandInName_21 : decode b_Un_mayStandInName 21 = .ok (.if_icmp .gt 5, 3) := by decide +kernel
theorem d_Un_mayStandInName_24 : decode b_Un_mayStandInName 24 = .ok (.iconst 0, 1) := by decide +kernel
theorem d_Un_mayStandInName_25 : decode b_Un_mayStandInName 25 = .ok (.ireturn, 1) := by decide +kernel
theorem d_Un_mayStandInName_26 : decode b_Un_mayStandInName 26 = .ok (.iload_n 0, 1) := by decide +kernel
theorem d_Un_mayStandInName_27 : decode b_Un_mayStandInName 27 = .ok (.lookupswitch 91 #[(34, 89), (42, 89), (47, 89), (58, 89), (60, 89), (62, 89), (63, 89), (92, 89), (124, 89), (127, 89)], 89) := by decide +kernel
theorem d_Un_mayStandInName_116 : decode b_Un_mayStandInName 116 = .ok (.iconst 0, 1) := by decide +kernel
theorem d_Un_mayStandInName_117 : decode b_Un_mayStandInName 117 = .ok (.ireturn, 1) := by decide +kernel
theorem d_Un_mayStandInName_118 : decode b_Un_mayStandInName 118 = .ok (.iconst 1, 1) := by decide +kernel
theorem d_Un_mayStandInName_119 : decode b_Un_mayStandInName 119 = .ok (.ireturn, 1) := by decide +kernel
abbrev b_Un_mayStandInShortName : ByteArray := prog_7_method_3_code
abbrev y_Un_mayStandInShortName : MethodName := ⟨"LongNames$Units", "mayStandInShortName", "(I)Z"⟩
abbrev w_Un_mayStandInShortName : List Cond := .code y_Un_mayStandInShortName b_Un_mayStandInShortName 1 (some .boolean) :: BIG
theorem d_Un_mayStandInShortName_0 : decode b_Un_mayStandInShortName 0 = .ok (.iload_n 0, 1) := by decide +kernel
theorem d_Un_mayStandInShortName_1 : decode b_Un_mayStandInShortName 1 = .ok (.bipush 65, 2) := by decide +kernel
theorem d_Un_mayStandInShortName_3 : decode b_Un_mayStandInShortName 3 = .ok (.if_icmp .lt 9, 3) := by decide +kernel
theorem d_Un_mayStandInShortName_6 : decode b_Un_mayStandInShortName 6 = .ok (.iload_n 0, 1) := by decide +kernel
theorem d_Un_mayStandInShortName_7 : decode b_Un_mayStandInShortName 7 = .ok (.bipush 90, 2) := by decide +kernel
theorem d_Un_mayStandInShortName_9 : decode b_Un_mayStandInShortName 9 = .ok (.if_icmp .le 15, 3) := by decide +kernel
theorem d_Un_mayStandInShortName_12 : decode b_Un_mayStandInShortName 12 = .ok (.iload_n 0, 1) := by decide +kernel
theorem d_Un_mayStandInShortName_13 : decode b_Un_mayStandInShortName 13 = .ok (.bipush 48, 2) := by decide +kernel
theorem d_Un_mayStandInShortName_15 : decode b_Un_mayStandInShortName 15 = .ok (.if_icmp .lt 11, 3) := by decide +kernel
theorem d_Un_mayStandInShortName_18 : decode b_Un_mayStandInShortName 18 = .ok (.iload_n 0, 1) := by decide +kernel
theorem d_Un_mayStandInShortName_19 : decode b_Un_mayStandInShortName 19 = .ok (.bipush 57, 2) := by decide +kernel
theorem d_Un_mayStandInShortName_21 : decode b_Un_mayStandInShortName 21 = .ok (.if_icmp .gt 5, 3) := by decide +kernel
theorem d_Un_mayStandInShortName_24 : decode b_Un_mayStandInShortName 24 = .ok (.iconst 1, 1) := by decide +kernel
theorem d_Un_mayStandInShortName_25 : decode b_Un_mayStandInShortName 25 = .ok (.ireturn, 1) := by decide +kernel
theorem d_Un_mayStandInShortName_26 : decode b_Un_mayStandInShortName 26 = .ok (.iload_n 0, 1) := by decide +kernel
theorem d_Un_mayStandInShortName_27 : decode b_Un_mayStandInShortName 27 = .ok (.lookupswitch 139 #[(33, 137), (35, 137), (36, 137), (37, 137), (38, 137), (39, 137), (40, 137), (41, 137), (45, 137), (64, 137), (94, 137), (95, 137), (96, 137), (123, 137), (125, 137), (126, 137)], 137) := by decide +kernel
theorem d_Un_mayStandInShortName_164 : decode b_Un_mayStandInShortName 164 = .ok (.iconst 1, 1) := by decide +kernel
theorem d_Un_mayStandInShortName_165 : decode b_Un_mayStandInShortName 165 = .ok (.ireturn, 1) := by decide +kernel
theorem d_Un_mayStandInShortName_166 : decode b_Un_mayStandInShortName 166 = .ok (.iconst 0, 1) := by decide +kernel
theorem d_Un_mayStandInShortName_167 : decode b_Un_mayStandInShortName 167 = .ok (.ireturn, 1) := by decide +kernel
abbrev b_Un_capital : ByteArray := prog_7_method_4_code
abbrev y_Un_capital : MethodName := ⟨"LongNames$Units", "capital", "(I)I"⟩
abbrev w_Un_capital : List Cond := .code y_Un_capital b_Un_capital 1 (some .int) :: BIG
theorem d_Un_capital_0 : decode b_Un_capital 0 = .ok (.iload_n 0, 1) := by decide +kernel
theorem d_Un_capital_1 : decode b_Un_capital 1 = .ok (.bipush 97, 2) := by decide +kernel
theorem d_Un_capital_3 : decode b_Un_capital 3 = .ok (.if_icmp .lt 19, 3) := by decide +kernel
theorem d_Un_capital_6 : decode b_Un_capital 6 = .ok (.iload_n 0, 1) := by decide +kernel
theorem d_Un_capital_7 : decode b_Un_capital 7 = .ok (.bipush 122, 2) := by decide +kernel
theorem d_Un_capital_9 : decode b_Un_capital 9 = .ok (.if_icmp .gt 13, 3) := by decide +kernel
theorem d_Un_capital_12 : decode b_Un_capital 12 = .ok (.iload_n 0, 1) := by decide +kernel
theorem d_Un_capital_13 : decode b_Un_capital 13 = .ok (.bipush 97, 2) := by decide +kernel
theorem d_Un_capital_15 : decode b_Un_capital 15 = .ok (.isub, 1) := by decide +kernel
theorem d_Un_capital_16 : decode b_Un_capital 16 = .ok (.bipush 65, 2) := by decide +kernel
theorem d_Un_capital_18 : decode b_Un_capital 18 = .ok (.iadd, 1) := by decide +kernel
theorem d_Un_capital_19 : decode b_Un_capital 19 = .ok (.goto 4, 3) := by decide +kernel
theorem d_Un_capital_22 : decode b_Un_capital 22 = .ok (.iload_n 0, 1) := by decide +kernel
theorem d_Un_capital_23 : decode b_Un_capital 23 = .ok (.ireturn, 1) := by decide +kernel
abbrev b_Un_shortened : ByteArray := prog_7_method_5_code
abbrev y_Un_shortened : MethodName := ⟨"LongNames$Units", "shortened", "(I)I"⟩
abbrev w_Un_shortened : List Cond := .code y_Un_shortened b_Un_shortened 2 (some .int) :: BIG
theorem d_Un_shortened_0 : decode b_Un_shortened 0 = .ok (.iload_n 0, 1) := by decide +kernel
theorem d_Un_shortened_1 : decode b_Un_shortened 1 = .ok (.invokestatic 10, 3) := by decide +kernel
theorem d_Un_shortened_4 : decode b_Un_shortened 4 = .ok (.istore_n 1, 1) := by decide +kernel
theorem d_Un_shortened_5 : decode b_Un_shortened 5 = .ok (.iload_n 1, 1) := by decide +kernel
theorem d_Un_shortened_6 : decode b_Un_shortened 6 = .ok (.invokestatic 16, 3) := by decide +kernel
theorem d_Un_shortened_9 : decode b_Un_shortened 9 = .ok (.ifCond .eq 7, 3) := by decide +kernel
theorem d_Un_shortened_12 : decode b_Un_shortened 12 = .ok (.iload_n 1, 1) := by decide +kernel
theorem d_Un_shortened_13 : decode b_Un_shortened 13 = .ok (.goto 5, 3) := by decide +kernel
theorem d_Un_shortened_16 : decode b_Un_shortened 16 = .ok (.bipush 95, 2) := by decide +kernel
theorem d_Un_shortened_18 : decode b_Un_shortened 18 = .ok (.ireturn, 1) := by decide +kernel
abbrev b_Un_encodedWidth : ByteArray := prog_7_method_6_code
abbrev y_Un_encodedWidth : MethodName := ⟨"LongNames$Units", "encodedWidth", "(I)I"⟩
abbrev w_Un_encodedWidth : List Cond := .code y_Un_encodedWidth b_Un_encodedWidth 1 (some .int) :: BIG
theorem d_Un_encodedWidth_0 : decode b_Un_encodedWidth 0 = .ok (.iload_n 0, 1) := by decide +kernel
theorem d_Un_encodedWidth_1 : decode b_Un_encodedWidth 1 = .ok (.sipush 128, 3) := by decide +kernel
theorem d_Un_encodedWidth_4 : decode b_Un_encodedWidth 4 = .ok (.if_icmp .ge 5, 3) := by decide +kernel
theorem d_Un_encodedWidth_7 : decode b_Un_encodedWidth 7 = .ok (.iconst 1, 1) := by decide +kernel
theorem d_Un_encodedWidth_8 : decode b_Un_encodedWidth 8 = .ok (.ireturn, 1) := by decide +kernel
theorem d_Un_encodedWidth_9 : decode b_Un_encodedWidth 9 = .ok (.iload_n 0, 1) := by decide +kernel
theorem d_Un_encodedWidth_10 : decode b_Un_encodedWidth 10 = .ok (.sipush 2048, 3) := by decide +kernel
theorem d_Un_encodedWidth_13 : decode b_Un_encodedWidth 13 = .ok (.if_icmp .ge 7, 3) := by decide +kernel
theorem d_Un_encodedWidth_16 : decode b_Un_encodedWidth 16 = .ok (.iconst 2, 1) := by decide +kernel
theorem d_Un_encodedWidth_17 : decode b_Un_encodedWidth 17 = .ok (.goto 4, 3) := by decide +kernel
theorem d_Un_encodedWidth_20 : decode b_Un_encodedWidth 20 = .ok (.iconst 3, 1) := by decide +kernel
theorem d_Un_encodedWidth_21 : decode b_Un_encodedWidth 21 = .ok (.ireturn, 1) := by decide +kernel
abbrev b_Un_encodedByte : ByteArray := prog_7_method_7_code
abbrev y_Un_encodedByte : MethodName := ⟨"LongNames$Units", "encodedByte", "(II)I"⟩
abbrev w_Un_encodedByte : List Cond := .code y_Un_encodedByte b_Un_encodedByte 4 (some .int) :: BIG
theorem d_Un_encodedByte_0 : decode b_Un_encodedByte 0 = .ok (.iload_n 0, 1) := by decide +kernel
theorem d_Un_encodedByte_1 : decode b_Un_encodedByte 1 = .ok (.invokestatic 20, 3) := by decide +kernel
theorem d_Un_encodedByte_4 : decode b_Un_encodedByte 4 = .ok (.istore_n 2, 1) := by decide +kernel
theorem d_Un_encodedByte_5 : decode b_Un_encodedByte 5 = .ok (.iload_n 2, 1) := by decide +kernel
theorem d_Un_encodedByte_6 : decode b_Un_encodedByte 6 = .ok (.iconst 1, 1) := by decide +kernel
theorem d_Un_encodedByte_7 : decode b_Un_encodedByte 7 = .ok (.if_icmp .ne 5, 3) := by decide +kernel
theorem d_Un_encodedByte_10 : decode b_Un_encodedByte 10 = .ok (.iload_n 0, 1) := by decide +kernel
theorem d_Un_encodedByte_11 : decode b_Un_encodedByte 11 = .ok (.ireturn, 1) := by decide +kernel
theorem d_Un_encodedByte_12 : decode b_Un_encodedByte 12 = .ok (.iload_n 0, 1) := by decide +kernel
theorem d_Un_encodedByte_13 : decode b_Un_encodedByte 13 = .ok (.bipush 6, 2) := by decide +kernel
theorem d_Un_encodedByte_15 : decode b_Un_encodedByte 15 = .ok (.iload_n 2, 1) := by decide +kernel
theorem d_Un_encodedByte_16 : decode b_Un_encodedByte 16 = .ok (.iconst 1, 1) := by decide +kernel
theorem d_Un_encodedByte_17 : decode b_Un_encodedByte 17 = .ok (.isub, 1) := by decide +kernel
theorem d_Un_encodedByte_18 : decode b_Un_encodedByte 18 = .ok (.iload_n 1, 1) := by decide +kernel
theorem d_Un_encodedByte_19 : decode b_Un_encodedByte 19 = .ok (.isub, 1) := by decide +kernel
theorem d_Un_encodedByte_20 : decode b_Un_encodedByte 20 = .ok (.imul, 1) := by decide +kernel
theorem d_Un_encodedByte_21 : decode b_Un_encodedByte 21 = .ok (.ishr, 1) := by decide +kernel
theorem d_Un_encodedByte_22 : decode b_Un_encodedByte 22 = .ok (.istore_n 3, 1) := by decide +kernel
theorem d_Un_encodedByte_23 : decode b_Un_encodedByte 23 = .ok (.iload_n 1, 1) := by decide +kernel
theorem d_Un_encodedByte_24 : decode b_Un_encodedByte 24 = .ok (.ifCond .le 12, 3) := by decide +kernel
theorem d_Un_encodedByte_27 : decode b_Un_encodedByte 27 = .ok (.sipush 128, 3) := by decide +kernel
theorem d_Un_encodedByte_30 : decode b_Un_encodedByte 30 = .ok (.iload_n 3, 1) := by decide +kernel
theorem d_Un_encodedByte_31 : decode b_Un_encodedByte 31 = .ok (.bipush 63, 2) := by decide +kernel
theorem d_Un_encodedByte_33 : decode b_Un_encodedByte 33 = .ok (.iand, 1) := by decide +kernel
theorem d_Un_encodedByte_34 : decode b_Un_encodedByte 34 = .ok (.iadd, 1) := by decide +kernel
theorem d_Un_encodedByte_35 : decode b_Un_encodedByte 35 = .ok (.ireturn, 1) := by decide +kernel
theorem d_Un_encodedByte_36 : decode b_Un_encodedByte 36 = .ok (.iload_n 2, 1) := by decide +kernel
theorem d_Un_encodedByte_37 : decode b_Un_encodedByte 37 = .ok (.iconst 2, 1) := by decide +kernel
theorem d_Un_encodedByte_38 : decode b_Un_encodedByte 38 = .ok (.if_icmp .ne 9, 3) := by decide +kernel
theorem d_Un_encodedByte_41 : decode b_Un_encodedByte 41 = .ok (.sipush 192, 3) := by decide +kernel
theorem d_Un_encodedByte_44 : decode b_Un_encodedByte 44 = .ok (.goto 6, 3) := by decide +kernel
theorem d_Un_encodedByte_47 : decode b_Un_encodedByte 47 = .ok (.sipush 224, 3) := by decide +kernel
theorem d_Un_encodedByte_50 : decode b_Un_encodedByte 50 = .ok (.iload_n 3, 1) := by decide +kernel
theorem d_Un_encodedByte_51 : decode b_Un_encodedByte 51 = .ok (.iadd, 1) := by decide +kernel
theorem d_Un_encodedByte_52 : decode b_Un_encodedByte 52 = .ok (.ireturn, 1) := by decide +kernel
abbrev b_Dy_isDay : ByteArray := prog_2_method_2_code
abbrev y_Dy_isDay : MethodName := ⟨"LongNames$Days", "isDay", "(I)Z"⟩
abbrev w_Dy_isDay : List Cond := .code y_Dy_isDay b_Dy_isDay 2 (some .boolean) :: BIG
theorem d_Dy_isDay_0 : decode b_Dy_isDay 0 = .ok (.iload_n 0, 1) := by decide +kernel
theorem d_Dy_isDay_1 : decode b_Dy_isDay 1 = .ok (.ifCond .lt 9, 3) := by decide +kernel
theorem d_Dy_isDay_4 : decode b_Dy_isDay 4 = .ok (.iload_n 0, 1) := by decide +kernel
theorem d_Dy_isDay_5 : decode b_Dy_isDay 5 = .ok (.ldc 9, 2) := by decide +kernel
theorem d_Dy_isDay_7 : decode b_Dy_isDay 7 = .ok (.if_icmp .le 5, 3) := by decide +kernel
theorem d_Dy_isDay_10 : decode b_Dy_isDay 10 = .ok (.iconst 0, 1) := by decide +kernel
theorem d_Dy_isDay_11 : decode b_Dy_isDay 11 = .ok (.ireturn, 1) := by decide +kernel
theorem d_Dy_isDay_12 : decode b_Dy_isDay 12 = .ok (.iload_n 0, 1) := by decide +kernel
theorem d_Dy_isDay_13 : decode b_Dy_isDay 13 = .ok (.invokestatic 10, 3) := by decide +kernel
theorem d_Dy_isDay_16 : decode b_Dy_isDay 16 = .ok (.istore_n 1, 1) := by decide +kernel
theorem d_Dy_isDay_17 : decode b_Dy_isDay 17 = .ok (.iload_n 1, 1) := by decide +kernel
theorem d_Dy_isDay_18 : decode b_Dy_isDay 18 = .ok (.iconst 1, 1) := by decide +kernel
theorem d_Dy_isDay_19 : decode b_Dy_isDay 19 = .ok (.if_icmp .lt 22, 3) := by decide +kernel
theorem d_Dy_isDay_22 : decode b_Dy_isDay 22 = .ok (.iload_n 1, 1) := by decide +kernel
theorem d_Dy_isDay_23 : decode b_Dy_isDay 23 = .ok (.iload_n 0, 1) := by decide +kernel
theorem d_Dy_isDay_24 : decode b_Dy_isDay 24 = .ok (.invokestatic 16, 3) := by decide +kernel
theorem d_Dy_isDay_27 : decode b_Dy_isDay 27 = .ok (.iload_n 0, 1) := by decide +kernel
theorem d_Dy_isDay_28 : decode b_Dy_isDay 28 = .ok (.invokestatic 19, 3) := by decide +kernel
theorem d_Dy_isDay_31 : decode b_Dy_isDay 31 = .ok (.invokestatic 22, 3) := by decide +kernel
theorem d_Dy_isDay_34 : decode b_Dy_isDay 34 = .ok (.if_icmp .gt 7, 3) := by decide +kernel
theorem d_Dy_isDay_37 : decode b_Dy_isDay 37 = .ok (.iconst 1, 1) := by decide +kernel
theorem d_Dy_isDay_38 : decode b_Dy_isDay 38 = .ok (.goto 4, 3) := by decide +kernel
theorem d_Dy_isDay_41 : decode b_Dy_isDay 41 = .ok (.iconst 0, 1) := by decide +kernel
theorem d_Dy_isDay_42 : decode b_Dy_isDay 42 = .ok (.ireturn, 1) := by decide +kernel
abbrev b_Dy_isTime : ByteArray := prog_2_method_3_code
abbrev y_Dy_isTime : MethodName := ⟨"LongNames$Days", "isTime", "(I)Z"⟩
abbrev w_Dy_isTime : List Cond := .code y_Dy_isTime b_Dy_isTime 1 (some .boolean) :: BIG
theorem d_Dy_isTime_0 : decode b_Dy_isTime 0 = .ok (.iload_n 0, 1) := by decide +kernel
theorem d_Dy_isTime_1 : decode b_Dy_isTime 1 = .ok (.ifCond .lt 9, 3) := by decide +kernel
theorem d_Dy_isTime_4 : decode b_Dy_isTime 4 = .ok (.iload_n 0, 1) := by decide +kernel
theorem d_Dy_isTime_5 : decode b_Dy_isTime 5 = .ok (.ldc 9, 2) := by decide +kernel
theorem d_Dy_isTime_7 : decode b_Dy_isTime 7 = .ok (.if_icmp .le 5, 3) := by decide +kernel
theorem d_Dy_isTime_10 : decode b_Dy_isTime 10 = .ok (.iconst 0, 1) := by decide +kernel
theorem d_Dy_isTime_11 : decode b_Dy_isTime 11 = .ok (.ireturn, 1) := by decide +kernel
theorem d_Dy_isTime_12 : decode b_Dy_isTime 12 = .ok (.iload_n 0, 1) := by decide +kernel
theorem d_Dy_isTime_13 : decode b_Dy_isTime 13 = .ok (.invokestatic 26, 3) := by decide +kernel
theorem d_Dy_isTime_16 : decode b_Dy_isTime 16 = .ok (.bipush 24, 2) := by decide +kernel
theorem d_Dy_isTime_18 : decode b_Dy_isTime 18 = .ok (.if_icmp .ge 25, 3) := by decide +kernel
theorem d_Dy_isTime_21 : decode b_Dy_isTime 21 = .ok (.iload_n 0, 1) := by decide +kernel
theorem d_Dy_isTime_22 : decode b_Dy_isTime 22 = .ok (.invokestatic 29, 3) := by decide +kernel
theorem d_Dy_isTime_25 : decode b_Dy_isTime 25 = .ok (.bipush 60, 2) := by decide +kernel
theorem d_Dy_isTime_27 : decode b_Dy_isTime 27 = .ok (.if_icmp .ge 16, 3) := by decide +kernel
theorem d_Dy_isTime_30 : decode b_Dy_isTime 30 = .ok (.iload_n 0, 1) := by decide +kernel
theorem d_Dy_isTime_31 : decode b_Dy_isTime 31 = .ok (.invokestatic 32, 3) := by decide +kernel
theorem d_Dy_isTime_34 : decode b_Dy_isTime 34 = .ok (.bipush 30, 2) := by decide +kernel
theorem d_Dy_isTime_36 : decode b_Dy_isTime 36 = .ok (.if_icmp .ge 7, 3) := by decide +kernel
theorem d_Dy_isTime_39 : decode b_Dy_isTime 39 = .ok (.iconst 1, 1) := by decide +kernel
theorem d_Dy_isTime_40 : decode b_Dy_isTime 40 = .ok (.goto 4, 3) := by decide +kernel
theorem d_Dy_isTime_43 : decode b_Dy_isTime 43 = .ok (.iconst 0, 1) := by decide +kernel
theorem d_Dy_isTime_44 : decode b_Dy_isTime 44 = .ok (.ireturn, 1) := by decide +kernel
abbrev b_Dy_secondsBeforeDay : ByteArray := prog_2_method_4_code
abbrev y_Dy_secondsBeforeDay : MethodName := ⟨"LongNames$Days", "secondsBeforeDay", "(I)J"⟩
abbrev w_Dy_secondsBeforeDay : List Cond := .code y_Dy_secondsBeforeDay b_Dy_secondsBeforeDay 6 (some .long) :: BIG
theorem d_Dy_secondsBeforeDay_0 : decode b_Dy_secondsBeforeDay 0 = .ok (.iload_n 0, 1) := by decide +kernel
theorem d_Dy_secondsBeforeDay_1 : decode b_Dy_secondsBeforeDay 1 = .ok (.invokestatic 16, 3) := by decide +kernel
theorem d_Dy_secondsBeforeDay_4 : decode b_Dy_secondsBeforeDay 4 = .ok (.istore_n 1, 1) := by decide +kernel
theorem d_Dy_secondsBeforeDay_5 : decode b_Dy_secondsBeforeDay 5 = .ok (.iload_n 0, 1) := by decide +kernel
theorem d_Dy_secondsBeforeDay_6 : decode b_Dy_secondsBeforeDay 6 = .ok (.invokestatic 10, 3) := by decide +kernel
theorem d_Dy_secondsBeforeDay_9 : decode b_Dy_secondsBeforeDay 9 = .ok (.iconst 1, 1) := by decide +kernel
theorem d_Dy_secondsBeforeDay_10 : decode b_Dy_secondsBeforeDay 10 = .ok (.isub, 1) := by decide +kernel
theorem d_Dy_secondsBeforeDay_11 : decode b_Dy_secondsBeforeDay 11 = .ok (.i2l, 1) := by decide +kernel
theorem d_Dy_secondsBeforeDay_12 : decode b_Dy_secondsBeforeDay 12 = .ok (.lstore_n 2, 1) := by decide +kernel
theorem d_Dy_secondsBeforeDay_13 : decode b_Dy_secondsBeforeDay 13 = .ok (.sipush 1970, 3) := by decide +kernel
theorem d_Dy_secondsBeforeDay_16 : decode b_Dy_secondsBeforeDay 16 = .ok (.istore 4, 2) := by decide +kernel
theorem d_Dy_secondsBeforeDay_18 : decode b_Dy_secondsBeforeDay 18 = .ok (.iload 4, 2) := by decide +kernel
theorem d_Dy_secondsBeforeDay_20 : decode b_Dy_secondsBeforeDay 20 = .ok (.iload_n 1, 1) := by decide +kernel
theorem d_Dy_secondsBeforeDay_21 : decode b_Dy_secondsBeforeDay 21 = .ok (.if_icmp .ge 29, 3) := by decide +kernel
theorem d_Dy_secondsBeforeDay_24 : decode b_Dy_secondsBeforeDay 24 = .ok (.lload_n 2, 1) := by decide +kernel
theorem d_Dy_secondsBeforeDay_25 : decode b_Dy_secondsBeforeDay 25 = .ok (.iload 4, 2) := by decide +kernel
theorem d_Dy_secondsBeforeDay_27 : decode b_Dy_secondsBeforeDay 27 = .ok (.invokestatic 35, 3) := by decide +kernel
theorem d_Dy_secondsBeforeDay_30 : decode b_Dy_secondsBeforeDay 30 = .ok (.ifCond .eq 9, 3) := by decide +kernel
theorem d_Dy_secondsBeforeDay_33 : decode b_Dy_secondsBeforeDay 33 = .ok (.ldc2_w 39, 3) := by decide +kernel
theorem d_Dy_secondsBeforeDay_36 : decode b_Dy_secondsBeforeDay 36 = .ok (.goto 6, 3) := by decide +kernel
theorem d_Dy_secondsBeforeDay_39 : decode b_Dy_secondsBeforeDay 39 = .ok (.ldc2_w 41, 3) := by decide +kernel
theorem d_Dy_secondsBeforeDay_42 : decode b_Dy_secondsBeforeDay 42 = .ok (.ladd, 1) := by decide +kernel
theorem d_Dy_secondsBeforeDay_43 : decode b_Dy_secondsBeforeDay 43 = .ok (.lstore_n 2, 1) := by decide +kernel
theorem d_Dy_secondsBeforeDay_44 : decode b_Dy_secondsBeforeDay 44 = .ok (.iinc 4 1, 3) := by decide +kernel
theorem d_Dy_secondsBeforeDay_47 : decode b_Dy_secondsBeforeDay 47 = .ok (.goto (-29), 3) := by decide +kernel
theorem d_Dy_secondsBeforeDay_50 : decode b_Dy_secondsBeforeDay 50 = .ok (.iload_n 0, 1) := by decide +kernel
theorem d_Dy_secondsBeforeDay_51 : decode b_Dy_secondsBeforeDay 51 = .ok (.invokestatic 19, 3) := by decide +kernel
theorem d_Dy_secondsBeforeDay_54 : decode b_Dy_secondsBeforeDay 54 = .ok (.istore 4, 2) := by decide +kernel
theorem d_Dy_secondsBeforeDay_56 : decode b_Dy_secondsBeforeDay 56 = .ok (.iconst 1, 1) := by decide +kernel
theorem d_Dy_secondsBeforeDay_57 : decode b_Dy_secondsBeforeDay 57 = .ok (.istore 5, 2) := by decide +kernel
theorem d_Dy_secondsBeforeDay_59 : decode b_Dy_secondsBeforeDay 59 = .ok (.iload 5, 2) := by decide +kernel
theorem d_Dy_secondsBeforeDay_61 : decode b_Dy_secondsBeforeDay 61 = .ok (.iload 4, 2) := by decide +kernel
theorem d_Dy_secondsBeforeDay_63 : decode b_Dy_secondsBeforeDay 63 = .ok (.if_icmp .ge 19, 3) := by decide +kernel
theorem d_Dy_secondsBeforeDay_66 : decode b_Dy_secondsBeforeDay 66 = .ok (.lload_n 2, 1) := by decide +kernel
theorem d_Dy_secondsBeforeDay_67 : decode b_Dy_secondsBeforeDay 67 = .ok (.iload_n 1, 1) := by decide +kernel
theorem d_Dy_secondsBeforeDay_68 : decode b_Dy_secondsBeforeDay 68 = .ok (.iload 5, 2) := by decide +kernel
theorem d_Dy_secondsBeforeDay_70 : decode b_Dy_secondsBeforeDay 70 = .ok (.invokestatic 22, 3) := by decide +kernel
theorem d_Dy_secondsBeforeDay_73 : decode b_Dy_secondsBeforeDay 73 = .ok (.i2l, 1) := by decide +kernel
theorem d_Dy_secondsBeforeDay_74 : decode b_Dy_secondsBeforeDay 74 = .ok (.ladd, 1) := by decide +kernel
theorem d_Dy_secondsBeforeDay_75 : decode b_Dy_secondsBeforeDay 75 = .ok (.lstore_n 2, 1) := by decide +kernel
theorem d_Dy_secondsBeforeDay_76 : decode b_Dy_secondsBeforeDay 76 = .ok (.iinc 5 1, 3) := by decide +kernel
theorem d_Dy_secondsBeforeDay_79 : decode b_Dy_secondsBeforeDay 79 = .ok (.goto (-20), 3) := by decide +kernel
theorem d_Dy_secondsBeforeDay_82 : decode b_Dy_secondsBeforeDay 82 = .ok (.lload_n 2, 1) := by decide +kernel
theorem d_Dy_secondsBeforeDay_83 : decode b_Dy_secondsBeforeDay 83 = .ok (.ldc2_w 43, 3) := by decide +kernel
theorem d_Dy_secondsBeforeDay_86 : decode b_Dy_secondsBeforeDay 86 = .ok (.lmul, 1) := by decide +kernel
theorem d_Dy_secondsBeforeDay_87 : decode b_Dy_secondsBeforeDay 87 = .ok (.lreturn, 1) := by decide +kernel
abbrev b_Dy_secondsOfTime : ByteArray := prog_2_method_5_code
abbrev y_Dy_secondsOfTime : MethodName := ⟨"LongNames$Days", "secondsOfTime", "(I)J"⟩
abbrev w_Dy_secondsOfTime : List Cond := .code y_Dy_secondsOfTime b_Dy_secondsOfTime 1 (some .long) :: BIG
theorem d_Dy_secondsOfTime_0 : decode b_Dy_secondsOfTime 0 = .ok (.ldc2_w 45, 3) := by decide +kernel
theorem d_Dy_secondsOfTime_3 : decode b_Dy_secondsOfTime 3 = .ok (.iload_n 0, 1) := by decide +kernel
theorem d_Dy_secondsOfTime_4 : decode b_Dy_secondsOfTime 4 = .ok (.invokestatic 26, 3) := by decide +kernel
theorem d_Dy_secondsOfTime_7 : decode b_Dy_secondsOfTime 7 = .ok (.i2l, 1) := by decide +kernel
theorem d_Dy_secondsOfTime_8 : decode b_Dy_secondsOfTime 8 = .ok (.lmul, 1) := by decide +kernel
theorem d_Dy_secondsOfTime_9 : decode b_Dy_secondsOfTime 9 = .ok (.ldc2_w 47, 3) := by decide +kernel
theorem d_Dy_secondsOfTime_12 : decode b_Dy_secondsOfTime 12 = .ok (.iload_n 0, 1) := by decide +kernel
theorem d_Dy_secondsOfTime_13 : decode b_Dy_secondsOfTime 13 = .ok (.invokestatic 29, 3) := by decide +kernel
theorem d_Dy_secondsOfTime_16 : decode b_Dy_secondsOfTime 16 = .ok (.i2l, 1) := by decide +kernel
theorem d_Dy_secondsOfTime_17 : decode b_Dy_secondsOfTime 17 = .ok (.lmul, 1) := by decide +kernel
theorem d_Dy_secondsOfTime_18 : decode b_Dy_secondsOfTime 18 = .ok (.ladd, 1) := by decide +kernel
theorem d_Dy_secondsOfTime_19 : decode b_Dy_secondsOfTime 19 = .ok (.ldc2_w 49, 3) := by decide +kernel
theorem d_Dy_secondsOfTime_22 : decode b_Dy_secondsOfTime 22 = .ok (.iload_n 0, 1) := by decide +kernel
theorem d_Dy_secondsOfTime_23 : decode b_Dy_secondsOfTime 23 = .ok (.invokestatic 32, 3) := by decide +kernel
theorem d_Dy_secondsOfTime_26 : decode b_Dy_secondsOfTime 26 = .ok (.i2l, 1) := by decide +kernel
theorem d_Dy_secondsOfTime_27 : decode b_Dy_secondsOfTime 27 = .ok (.lmul, 1) := by decide +kernel
theorem d_Dy_secondsOfTime_28 : decode b_Dy_secondsOfTime 28 = .ok (.ladd, 1) := by decide +kernel
theorem d_Dy_secondsOfTime_29 : decode b_Dy_secondsOfTime 29 = .ok (.lreturn, 1) := by decide +kernel
abbrev b_Dy_monthLength : ByteArray := prog_2_method_6_code
abbrev y_Dy_monthLength : MethodName := ⟨"LongNames$Days", "monthLength", "(II)I"⟩
abbrev w_Dy_monthLength : List Cond := .code y_Dy_monthLength b_Dy_monthLength 2 (some .int) :: BIG
theorem d_Dy_monthLength_0 : decode b_Dy_monthLength 0 = .ok (.iload_n 1, 1) := by decide +kernel
theorem d_Dy_monthLength_1 : decode b_Dy_monthLength 1 = .ok (.iconst 1, 1) := by decide +kernel
theorem d_Dy_monthLength_2 : decode b_Dy_monthLength 2 = .ok (.if_icmp .lt 9, 3) := by decide +kernel
theorem d_Dy_monthLength_5 : decode b_Dy_monthLength 5 = .ok (.iload_n 1, 1) := by decide +kernel
theorem d_Dy_monthLength_6 : decode b_Dy_monthLength 6 = .ok (.bipush 12, 2) := by decide +kernel
theorem d_Dy_monthLength_8 : decode b_Dy_monthLength 8 = .ok (.if_icmp .le 5, 3) := by decide +kernel
theorem d_Dy_monthLength_11 : decode b_Dy_monthLength 11 = .ok (.iconst 0, 1) := by decide +kernel
theorem d_Dy_monthLength_12 : decode b_Dy_monthLength 12 = .ok (.ireturn, 1) := by decide +kernel
theorem d_Dy_monthLength_13 : decode b_Dy_monthLength 13 = .ok (.iload_n 1, 1) := by decide +kernel
theorem d_Dy_monthLength_14 : decode b_Dy_monthLength 14 = .ok (.iconst 2, 1) := by decide +kernel
theorem d_Dy_monthLength_15 : decode b_Dy_monthLength 15 = .ok (.if_icmp .ne 15, 3) := by decide +kernel
theorem d_Dy_monthLength_18 : decode b_Dy_monthLength 18 = .ok (.iload_n 0, 1) := by decide +kernel
theorem d_Dy_monthLength_19 : decode b_Dy_monthLength 19 = .ok (.invokestatic 35, 3) := by decide +kernel
theorem d_Dy_monthLength_22 : decode b_Dy_monthLength 22 = .ok (.ifCond .eq 8, 3) := by decide +kernel
theorem d_Dy_monthLength_25 : decode b_Dy_monthLength 25 = .ok (.bipush 29, 2) := by decide +kernel
theorem d_Dy_monthLength_27 : decode b_Dy_monthLength 27 = .ok (.goto 10, 3) := by decide +kernel
theorem d_Dy_monthLength_30 : decode b_Dy_monthLength 30 = .ok (.getstatic 51, 3) := by decide +kernel
theorem d_Dy_monthLength_33 : decode b_Dy_monthLength 33 = .ok (.iload_n 1, 1) := by decide +kernel
theorem d_Dy_monthLength_34 : decode b_Dy_monthLength 34 = .ok (.iconst 1, 1) := by decide +kernel
theorem d_Dy_monthLength_35 : decode b_Dy_monthLength 35 = .ok (.isub, 1) := by decide +kernel
theorem d_Dy_monthLength_36 : decode b_Dy_monthLength 36 = .ok (.iaload, 1) := by decide +kernel
theorem d_Dy_monthLength_37 : decode b_Dy_monthLength 37 = .ok (.ireturn, 1) := by decide +kernel
abbrev b_Dy_isLeap : ByteArray := prog_2_method_7_code
abbrev y_Dy_isLeap : MethodName := ⟨"LongNames$Days", "isLeap", "(I)Z"⟩
abbrev w_Dy_isLeap : List Cond := .code y_Dy_isLeap b_Dy_isLeap 1 (some .boolean) :: BIG
theorem d_Dy_isLeap_0 : decode b_Dy_isLeap 0 = .ok (.iload_n 0, 1) := by decide +kernel
theorem d_Dy_isLeap_1 : decode b_Dy_isLeap 1 = .ok (.iconst 4, 1) := by decide +kernel
theorem d_Dy_isLeap_2 : decode b_Dy_isLeap 2 = .ok (.irem, 1) := by decide +kernel
theorem d_Dy_isLeap_3 : decode b_Dy_isLeap 3 = .ok (.ifCond .ne 22, 3) := by decide +kernel
theorem d_Dy_isLeap_6 : decode b_Dy_isLeap 6 = .ok (.iload_n 0, 1) := by decide +kernel
theorem d_Dy_isLeap_7 : decode b_Dy_isLeap 7 = .ok (.bipush 100, 2) := by decide +kernel
theorem d_Dy_isLeap_9 : decode b_Dy_isLeap 9 = .ok (.irem, 1) := by decide +kernel
theorem d_Dy_isLeap_10 : decode b_Dy_isLeap 10 = .ok (.ifCond .ne 11, 3) := by decide +kernel
theorem d_Dy_isLeap_13 : decode b_Dy_isLeap 13 = .ok (.iload_n 0, 1) := by decide +kernel
theorem d_Dy_isLeap_14 : decode b_Dy_isLeap 14 = .ok (.sipush 400, 3) := by decide +kernel
theorem d_Dy_isLeap_17 : decode b_Dy_isLeap 17 = .ok (.irem, 1) := by decide +kernel
theorem d_Dy_isLeap_18 : decode b_Dy_isLeap 18 = .ok (.ifCond .ne 7, 3) := by decide +kernel
theorem d_Dy_isLeap_21 : decode b_Dy_isLeap 21 = .ok (.iconst 1, 1) := by decide +kernel
theorem d_Dy_isLeap_22 : decode b_Dy_isLeap 22 = .ok (.goto 4, 3) := by decide +kernel
theorem d_Dy_isLeap_25 : decode b_Dy_isLeap 25 = .ok (.iconst 0, 1) := by decide +kernel
theorem d_Dy_isLeap_26 : decode b_Dy_isLeap 26 = .ok (.ireturn, 1) := by decide +kernel
abbrev b_Dy_yearOf : ByteArray := prog_2_method_8_code
abbrev y_Dy_yearOf : MethodName := ⟨"LongNames$Days", "yearOf", "(I)I"⟩
abbrev w_Dy_yearOf : List Cond := .code y_Dy_yearOf b_Dy_yearOf 1 (some .int) :: BIG
theorem d_Dy_yearOf_0 : decode b_Dy_yearOf 0 = .ok (.sipush 1980, 3) := by decide +kernel
theorem d_Dy_yearOf_3 : decode b_Dy_yearOf 3 = .ok (.iload_n 0, 1) := by decide +kernel
theorem d_Dy_yearOf_4 : decode b_Dy_yearOf 4 = .ok (.sipush 512, 3) := by decide +kernel
theorem d_Dy_yearOf_7 : decode b_Dy_yearOf 7 = .ok (.idiv, 1) := by decide +kernel
theorem d_Dy_yearOf_8 : decode b_Dy_yearOf 8 = .ok (.iadd, 1) := by decide +kernel
theorem d_Dy_yearOf_9 : decode b_Dy_yearOf 9 = .ok (.ireturn, 1) := by decide +kernel
abbrev b_Dy_monthOf : ByteArray := prog_2_method_9_code
abbrev y_Dy_monthOf : MethodName := ⟨"LongNames$Days", "monthOf", "(I)I"⟩
abbrev w_Dy_monthOf : List Cond := .code y_Dy_monthOf b_Dy_monthOf 1 (some .int) :: BIG
theorem d_Dy_monthOf_0 : decode b_Dy_monthOf 0 = .ok (.iload_n 0, 1) := by decide +kernel
theorem d_Dy_monthOf_1 : decode b_Dy_monthOf 1 = .ok (.bipush 32, 2) := by decide +kernel
theorem d_Dy_monthOf_3 : decode b_Dy_monthOf 3 = .ok (.idiv, 1) := by decide +kernel
theorem d_Dy_monthOf_4 : decode b_Dy_monthOf 4 = .ok (.bipush 16, 2) := by decide +kernel
theorem d_Dy_monthOf_6 : decode b_Dy_monthOf 6 = .ok (.irem, 1) := by decide +kernel
theorem d_Dy_monthOf_7 : decode b_Dy_monthOf 7 = .ok (.ireturn, 1) := by decide +kernel
abbrev b_Dy_dayOf : ByteArray := prog_2_method_10_code
abbrev y_Dy_dayOf : MethodName := ⟨"LongNames$Days", "dayOf", "(I)I"⟩
abbrev w_Dy_dayOf : List Cond := .code y_Dy_dayOf b_Dy_dayOf 1 (some .int) :: BIG
theorem d_Dy_dayOf_0 : decode b_Dy_dayOf 0 = .ok (.iload_n 0, 1) := by decide +kernel
theorem d_Dy_dayOf_1 : decode b_Dy_dayOf 1 = .ok (.bipush 32, 2) := by decide +kernel
theorem d_Dy_dayOf_3 : decode b_Dy_dayOf 3 = .ok (.irem, 1) := by decide +kernel
theorem d_Dy_dayOf_4 : decode b_Dy_dayOf 4 = .ok (.ireturn, 1) := by decide +kernel
abbrev b_Dy_hourOf : ByteArray := prog_2_method_11_code
abbrev y_Dy_hourOf : MethodName := ⟨"LongNames$Days", "hourOf", "(I)I"⟩
abbrev w_Dy_hourOf : List Cond := .code y_Dy_hourOf b_Dy_hourOf 1 (some .int) :: BIG
theorem d_Dy_hourOf_0 : decode b_Dy_hourOf 0 = .ok (.iload_n 0, 1) := by decide +kernel
theorem d_Dy_hourOf_1 : decode b_Dy_hourOf 1 = .ok (.sipush 2048, 3) := by decide +kernel
theorem d_Dy_hourOf_4 : decode b_Dy_hourOf 4 = .ok (.idiv, 1) := by decide +kernel
theorem d_Dy_hourOf_5 : decode b_Dy_hourOf 5 = .ok (.ireturn, 1) := by decide +kernel
abbrev b_Dy_minuteOf : ByteArray := prog_2_method_12_code
abbrev y_Dy_minuteOf : MethodName := ⟨"LongNames$Days", "minuteOf", "(I)I"⟩
abbrev w_Dy_minuteOf : List Cond := .code y_Dy_minuteOf b_Dy_minuteOf 1 (some .int) :: BIG
theorem d_Dy_minuteOf_0 : decode b_Dy_minuteOf 0 = .ok (.iload_n 0, 1) := by decide +kernel
theorem d_Dy_minuteOf_1 : decode b_Dy_minuteOf 1 = .ok (.bipush 32, 2) := by decide +kernel
theorem d_Dy_minuteOf_3 : decode b_Dy_minuteOf 3 = .ok (.idiv, 1) := by decide +kernel
theorem d_Dy_minuteOf_4 : decode b_Dy_minuteOf 4 = .ok (.bipush 64, 2) := by decide +kernel
theorem d_Dy_minuteOf_6 : decode b_Dy_minuteOf 6 = .ok (.irem, 1) := by decide +kernel
theorem d_Dy_minuteOf_7 : decode b_Dy_minuteOf 7 = .ok (.ireturn, 1) := by decide +kernel
abbrev b_Dy_halfOf : ByteArray := prog_2_method_13_code
abbrev y_Dy_halfOf : MethodName := ⟨"LongNames$Days", "halfOf", "(I)I"⟩
abbrev w_Dy_halfOf : List Cond := .code y_Dy_halfOf b_Dy_halfOf 1 (some .int) :: BIG
theorem d_Dy_halfOf_0 : decode b_Dy_halfOf 0 = .ok (.iload_n 0, 1) := by decide +kernel
theorem d_Dy_halfOf_1 : decode b_Dy_halfOf 1 = .ok (.bipush 32, 2) := by decide +kernel
theorem d_Dy_halfOf_3 : decode b_Dy_halfOf 3 = .ok (.irem, 1) := by decide +kernel
theorem d_Dy_halfOf_4 : decode b_Dy_halfOf 4 = .ok (.ireturn, 1) := by decide +kernel
abbrev b_Ar_fill : ByteArray := prog_17_method_103_code
abbrev y_Ar_fill : MethodName := ⟨"java/util/Arrays", "fill", "([II)V"⟩
abbrev w_Ar_fill : List Cond := .code y_Ar_fill b_Ar_fill 4 none :: BIG
theorem d_Ar_fill_0 : decode b_Ar_fill 0 = .ok (.iconst 0, 1) := by decide +kernel
theorem d_Ar_fill_1 : decode b_Ar_fill 1 = .ok (.istore_n 2, 1) := by decide +kernel
theorem d_Ar_fill_2 : decode b_Ar_fill 2 = .ok (.aload_n 0, 1) := by decide +kernel
theorem d_Ar_fill_3 : decode b_Ar_fill 3 = .ok (.arraylength, 1) := by decide +kernel
theorem d_Ar_fill_4 : decode b_Ar_fill 4 = .ok (.istore_n 3, 1) := by decide +kernel
theorem d_Ar_fill_5 : decode b_Ar_fill 5 = .ok (.iload_n 2, 1) := by decide +kernel
theorem d_Ar_fill_6 : decode b_Ar_fill 6 = .ok (.iload_n 3, 1) := by decide +kernel
theorem d_Ar_fill_7 : decode b_Ar_fill 7 = .ok (.if_icmp .ge 13, 3) := by decide +kernel
theorem d_Ar_fill_10 : decode b_Ar_fill 10 = .ok (.aload_n 0, 1) := by decide +kernel
theorem d_Ar_fill_11 : decode b_Ar_fill 11 = .ok (.iload_n 2, 1) := by decide +kernel
theorem d_Ar_fill_12 : decode b_Ar_fill 12 = .ok (.iload_n 1, 1) := by decide +kernel
theorem d_Ar_fill_13 : decode b_Ar_fill 13 = .ok (.iastore, 1) := by decide +kernel
theorem d_Ar_fill_14 : decode b_Ar_fill 14 = .ok (.iinc 2 1, 3) := by decide +kernel
theorem d_Ar_fill_17 : decode b_Ar_fill 17 = .ok (.goto (-12), 3) := by decide +kernel
theorem d_Ar_fill_20 : decode b_Ar_fill 20 = .ok (.return_, 1) := by decide +kernel
