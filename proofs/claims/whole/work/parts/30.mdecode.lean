abbrev b_Mo_init : ByteArray := prog_9_method_1_code
abbrev y_Mo_init : MethodName := ⟨"LongNamesModel", "<init>", "()V"⟩
abbrev w_Mo_init : List Cond := .code y_Mo_init b_Mo_init 1 none :: BIG
theorem d_Mo_init_0 : decode b_Mo_init 0 = .ok (.aload_n 0, 1) := by decide +kernel
theorem d_Mo_init_1 : decode b_Mo_init 1 = .ok (.invokespecial 1, 3) := by decide +kernel
theorem d_Mo_init_4 : decode b_Mo_init 4 = .ok (.aload_n 0, 1) := by decide +kernel
theorem d_Mo_init_5 : decode b_Mo_init 5 = .ok (.sipush 510, 3) := by decide +kernel
theorem d_Mo_init_8 : decode b_Mo_init 8 = .ok (.newarray .int, 2) := by decide +kernel
theorem d_Mo_init_10 : decode b_Mo_init 10 = .ok (.putfield 7, 3) := by decide +kernel
theorem d_Mo_init_13 : decode b_Mo_init 13 = .ok (.aload_n 0, 1) := by decide +kernel
theorem d_Mo_init_14 : decode b_Mo_init 14 = .ok (.iconst 2, 1) := by decide +kernel
theorem d_Mo_init_15 : decode b_Mo_init 15 = .ok (.newarray .int, 2) := by decide +kernel
theorem d_Mo_init_17 : decode b_Mo_init 17 = .ok (.putfield 13, 3) := by decide +kernel
theorem d_Mo_init_20 : decode b_Mo_init 20 = .ok (.aload_n 0, 1) := by decide +kernel
theorem d_Mo_init_21 : decode b_Mo_init 21 = .ok (.sipush 1024, 3) := by decide +kernel
theorem d_Mo_init_24 : decode b_Mo_init 24 = .ok (.newarray .int, 2) := by decide +kernel
theorem d_Mo_init_26 : decode b_Mo_init 26 = .ok (.putfield 16, 3) := by decide +kernel
theorem d_Mo_init_29 : decode b_Mo_init 29 = .ok (.aload_n 0, 1) := by decide +kernel
theorem d_Mo_init_30 : decode b_Mo_init 30 = .ok (.bipush 11, 2) := by decide +kernel
theorem d_Mo_init_32 : decode b_Mo_init 32 = .ok (.newarray .int, 2) := by decide +kernel
theorem d_Mo_init_34 : decode b_Mo_init 34 = .ok (.putfield 19, 3) := by decide +kernel
theorem d_Mo_init_37 : decode b_Mo_init 37 = .ok (.return_, 1) := by decide +kernel
abbrev b_Mo_thrown : ByteArray := prog_9_method_2_code
abbrev y_Mo_thrown : MethodName := ⟨"LongNamesModel", "thrown", "()I"⟩
abbrev w_Mo_thrown : List Cond := .code y_Mo_thrown b_Mo_thrown 1 (some .int) :: BIG
theorem d_Mo_thrown_0 : decode b_Mo_thrown 0 = .ok (.aload_n 0, 1) := by decide +kernel
theorem d_Mo_thrown_1 : decode b_Mo_thrown 1 = .ok (.getfield 22, 3) := by decide +kernel
theorem d_Mo_thrown_4 : decode b_Mo_thrown 4 = .ok (.ireturn, 1) := by decide +kernel
abbrev b_Mo_isRow : ByteArray := prog_9_method_3_code
abbrev y_Mo_isRow : MethodName := ⟨"LongNamesModel", "isRow", "(I)Z"⟩
abbrev w_Mo_isRow : List Cond := .code y_Mo_isRow b_Mo_isRow 1 (some .boolean) :: BIG
theorem d_Mo_isRow_0 : decode b_Mo_isRow 0 = .ok (.iload_n 0, 1) := by decide +kernel
theorem d_Mo_isRow_1 : decode b_Mo_isRow 1 = .ok (.ifCond .eq 8, 3) := by decide +kernel
theorem d_Mo_isRow_4 : decode b_Mo_isRow 4 = .ok (.iload_n 0, 1) := by decide +kernel
theorem d_Mo_isRow_5 : decode b_Mo_isRow 5 = .ok (.iconst 1, 1) := by decide +kernel
theorem d_Mo_isRow_6 : decode b_Mo_isRow 6 = .ok (.if_icmp .ne 7, 3) := by decide +kernel
theorem d_Mo_isRow_9 : decode b_Mo_isRow 9 = .ok (.iconst 1, 1) := by decide +kernel
theorem d_Mo_isRow_10 : decode b_Mo_isRow 10 = .ok (.goto 4, 3) := by decide +kernel
theorem d_Mo_isRow_13 : decode b_Mo_isRow 13 = .ok (.iconst 0, 1) := by decide +kernel
theorem d_Mo_isRow_14 : decode b_Mo_isRow 14 = .ok (.ireturn, 1) := by decide +kernel
abbrev b_Mo_at : ByteArray := prog_9_method_4_code
abbrev y_Mo_at : MethodName := ⟨"LongNamesModel", "at", "(II)I"⟩
abbrev w_Mo_at : List Cond := .code y_Mo_at b_Mo_at 3 (some .int) :: BIG
theorem d_Mo_at_0 : decode b_Mo_at 0 = .ok (.aload_n 0, 1) := by decide +kernel
theorem d_Mo_at_1 : decode b_Mo_at 1 = .ok (.getfield 7, 3) := by decide +kernel
theorem d_Mo_at_4 : decode b_Mo_at 4 = .ok (.sipush 255, 3) := by decide +kernel
theorem d_Mo_at_7 : decode b_Mo_at 7 = .ok (.iload_n 1, 1) := by decide +kernel
theorem d_Mo_at_8 : decode b_Mo_at 8 = .ok (.imul, 1) := by decide +kernel
theorem d_Mo_at_9 : decode b_Mo_at 9 = .ok (.iload_n 2, 1) := by decide +kernel
theorem d_Mo_at_10 : decode b_Mo_at 10 = .ok (.iadd, 1) := by decide +kernel
theorem d_Mo_at_11 : decode b_Mo_at 11 = .ok (.iaload, 1) := by decide +kernel
theorem d_Mo_at_12 : decode b_Mo_at 12 = .ok (.ireturn, 1) := by decide +kernel
abbrev b_Mo_unit : ByteArray := prog_9_method_5_code
abbrev y_Mo_unit : MethodName := ⟨"LongNamesModel", "unit", "(II)Z"⟩
abbrev w_Mo_unit : List Cond := .code y_Mo_unit b_Mo_unit 3 (some .boolean) :: BIG
theorem d_Mo_unit_0 : decode b_Mo_unit 0 = .ok (.aload_n 0, 1) := by decide +kernel
theorem d_Mo_unit_1 : decode b_Mo_unit 1 = .ok (.iconst 0, 1) := by decide +kernel
theorem d_Mo_unit_2 : decode b_Mo_unit 2 = .ok (.putfield 22, 3) := by decide +kernel
theorem d_Mo_unit_5 : decode b_Mo_unit 5 = .ok (.iload_n 1, 1) := by decide +kernel
theorem d_Mo_unit_6 : decode b_Mo_unit 6 = .ok (.invokestatic 26, 3) := by decide +kernel
theorem d_Mo_unit_9 : decode b_Mo_unit 9 = .ok (.ifCond .eq 25, 3) := by decide +kernel
theorem d_Mo_unit_12 : decode b_Mo_unit 12 = .ok (.iload_n 2, 1) := by decide +kernel
theorem d_Mo_unit_13 : decode b_Mo_unit 13 = .ok (.ifCond .lt 21, 3) := by decide +kernel
theorem d_Mo_unit_16 : decode b_Mo_unit 16 = .ok (.iload_n 2, 1) := by decide +kernel
theorem d_Mo_unit_17 : decode b_Mo_unit 17 = .ok (.ldc 30, 2) := by decide +kernel
theorem d_Mo_unit_19 : decode b_Mo_unit 19 = .ok (.if_icmp .gt 15, 3) := by decide +kernel
theorem d_Mo_unit_22 : decode b_Mo_unit 22 = .ok (.aload_n 0, 1) := by decide +kernel
theorem d_Mo_unit_23 : decode b_Mo_unit 23 = .ok (.getfield 13, 3) := by decide +kernel
theorem d_Mo_unit_26 : decode b_Mo_unit 26 = .ok (.iload_n 1, 1) := by decide +kernel
theorem d_Mo_unit_27 : decode b_Mo_unit 27 = .ok (.iaload, 1) := by decide +kernel
theorem d_Mo_unit_28 : decode b_Mo_unit 28 = .ok (.sipush 255, 3) := by decide +kernel
theorem d_Mo_unit_31 : decode b_Mo_unit 31 = .ok (.if_icmp .ne 5, 3) := by decide +kernel
theorem d_Mo_unit_34 : decode b_Mo_unit 34 = .ok (.iconst 0, 1) := by decide +kernel
theorem d_Mo_unit_35 : decode b_Mo_unit 35 = .ok (.ireturn, 1) := by decide +kernel
theorem d_Mo_unit_36 : decode b_Mo_unit 36 = .ok (.aload_n 0, 1) := by decide +kernel
theorem d_Mo_unit_37 : decode b_Mo_unit 37 = .ok (.getfield 7, 3) := by decide +kernel
theorem d_Mo_unit_40 : decode b_Mo_unit 40 = .ok (.sipush 255, 3) := by decide +kernel
theorem d_Mo_unit_43 : decode b_Mo_unit 43 = .ok (.iload_n 1, 1) := by decide +kernel
theorem d_Mo_unit_44 : decode b_Mo_unit 44 = .ok (.imul, 1) := by decide +kernel
theorem d_Mo_unit_45 : decode b_Mo_unit 45 = .ok (.aload_n 0, 1) := by decide +kernel
theorem d_Mo_unit_46 : decode b_Mo_unit 46 = .ok (.getfield 13, 3) := by decide +kernel
theorem d_Mo_unit_49 : decode b_Mo_unit 49 = .ok (.iload_n 1, 1) := by decide +kernel
theorem d_Mo_unit_50 : decode b_Mo_unit 50 = .ok (.iaload, 1) := by decide +kernel
theorem d_Mo_unit_51 : decode b_Mo_unit 51 = .ok (.iadd, 1) := by decide +kernel
theorem d_Mo_unit_52 : decode b_Mo_unit 52 = .ok (.iload_n 2, 1) := by decide +kernel
theorem d_Mo_unit_53 : decode b_Mo_unit 53 = .ok (.iastore, 1) := by decide +kernel
theorem d_Mo_unit_54 : decode b_Mo_unit 54 = .ok (.aload_n 0, 1) := by decide +kernel
theorem d_Mo_unit_55 : decode b_Mo_unit 55 = .ok (.getfield 13, 3) := by decide +kernel
theorem d_Mo_unit_58 : decode b_Mo_unit 58 = .ok (.iload_n 1, 1) := by decide +kernel
theorem d_Mo_unit_59 : decode b_Mo_unit 59 = .ok (.dup2, 1) := by decide +kernel
theorem d_Mo_unit_60 : decode b_Mo_unit 60 = .ok (.iaload, 1) := by decide +kernel
theorem d_Mo_unit_61 : decode b_Mo_unit 61 = .ok (.iconst 1, 1) := by decide +kernel
theorem d_Mo_unit_62 : decode b_Mo_unit 62 = .ok (.iadd, 1) := by decide +kernel
theorem d_Mo_unit_63 : decode b_Mo_unit 63 = .ok (.iastore, 1) := by decide +kernel
theorem d_Mo_unit_64 : decode b_Mo_unit 64 = .ok (.iconst 1, 1) := by decide +kernel
theorem d_Mo_unit_65 : decode b_Mo_unit 65 = .ok (.ireturn, 1) := by decide +kernel
abbrev b_Mo_clear : ByteArray := prog_9_method_6_code
abbrev y_Mo_clear : MethodName := ⟨"LongNamesModel", "clear", "(I)I"⟩
abbrev w_Mo_clear : List Cond := .code y_Mo_clear b_Mo_clear 3 (some .int) :: BIG
theorem d_Mo_clear_0 : decode b_Mo_clear 0 = .ok (.aload_n 0, 1) := by decide +kernel
theorem d_Mo_clear_1 : decode b_Mo_clear 1 = .ok (.iconst 0, 1) := by decide +kernel
theorem d_Mo_clear_2 : decode b_Mo_clear 2 = .ok (.putfield 22, 3) := by decide +kernel
theorem d_Mo_clear_5 : decode b_Mo_clear 5 = .ok (.iload_n 1, 1) := by decide +kernel
theorem d_Mo_clear_6 : decode b_Mo_clear 6 = .ok (.invokestatic 26, 3) := by decide +kernel
theorem d_Mo_clear_9 : decode b_Mo_clear 9 = .ok (.ifCond .ne 5, 3) := by decide +kernel
theorem d_Mo_clear_12 : decode b_Mo_clear 12 = .ok (.iconst (-1), 1) := by decide +kernel
theorem d_Mo_clear_13 : decode b_Mo_clear 13 = .ok (.ireturn, 1) := by decide +kernel
theorem d_Mo_clear_14 : decode b_Mo_clear 14 = .ok (.aload_n 0, 1) := by decide +kernel
theorem d_Mo_clear_15 : decode b_Mo_clear 15 = .ok (.getfield 13, 3) := by decide +kernel
theorem d_Mo_clear_18 : decode b_Mo_clear 18 = .ok (.iload_n 1, 1) := by decide +kernel
theorem d_Mo_clear_19 : decode b_Mo_clear 19 = .ok (.iaload, 1) := by decide +kernel
theorem d_Mo_clear_20 : decode b_Mo_clear 20 = .ok (.istore_n 2, 1) := by decide +kernel
theorem d_Mo_clear_21 : decode b_Mo_clear 21 = .ok (.aload_n 0, 1) := by decide +kernel
theorem d_Mo_clear_22 : decode b_Mo_clear 22 = .ok (.getfield 13, 3) := by decide +kernel
theorem d_Mo_clear_25 : decode b_Mo_clear 25 = .ok (.iload_n 1, 1) := by decide +kernel
theorem d_Mo_clear_26 : decode b_Mo_clear 26 = .ok (.iconst 0, 1) := by decide +kernel
theorem d_Mo_clear_27 : decode b_Mo_clear 27 = .ok (.iastore, 1) := by decide +kernel
theorem d_Mo_clear_28 : decode b_Mo_clear 28 = .ok (.iload_n 2, 1) := by decide +kernel
theorem d_Mo_clear_29 : decode b_Mo_clear 29 = .ok (.ireturn, 1) := by decide +kernel
abbrev b_Mo_partsOf : ByteArray := prog_9_method_7_code
abbrev y_Mo_partsOf : MethodName := ⟨"LongNamesModel", "partsOf", "(I)I"⟩
abbrev w_Mo_partsOf : List Cond := .code y_Mo_partsOf b_Mo_partsOf 1 (some .int) :: BIG
theorem d_Mo_partsOf_0 : decode b_Mo_partsOf 0 = .ok (.iload_n 0, 1) := by decide +kernel
theorem d_Mo_partsOf_1 : decode b_Mo_partsOf 1 = .ok (.bipush 12, 2) := by decide +kernel
theorem d_Mo_partsOf_3 : decode b_Mo_partsOf 3 = .ok (.iadd, 1) := by decide +kernel
theorem d_Mo_partsOf_4 : decode b_Mo_partsOf 4 = .ok (.bipush 13, 2) := by decide +kernel
theorem d_Mo_partsOf_6 : decode b_Mo_partsOf 6 = .ok (.idiv, 1) := by decide +kernel
theorem d_Mo_partsOf_7 : decode b_Mo_partsOf 7 = .ok (.ireturn, 1) := by decide +kernel
abbrev b_Mo_width : ByteArray := prog_9_method_8_code
abbrev y_Mo_width : MethodName := ⟨"LongNamesModel", "width", "(I)I"⟩
abbrev w_Mo_width : List Cond := .code y_Mo_width b_Mo_width 1 (some .int) :: BIG
theorem d_Mo_width_0 : decode b_Mo_width 0 = .ok (.iload_n 0, 1) := by decide +kernel
theorem d_Mo_width_1 : decode b_Mo_width 1 = .ok (.sipush 128, 3) := by decide +kernel
theorem d_Mo_width_4 : decode b_Mo_width 4 = .ok (.if_icmp .ge 7, 3) := by decide +kernel
theorem d_Mo_width_7 : decode b_Mo_width 7 = .ok (.iconst 1, 1) := by decide +kernel
theorem d_Mo_width_8 : decode b_Mo_width 8 = .ok (.goto 15, 3) := by decide +kernel
theorem d_Mo_width_11 : decode b_Mo_width 11 = .ok (.iload_n 0, 1) := by decide +kernel
theorem d_Mo_width_12 : decode b_Mo_width 12 = .ok (.sipush 2048, 3) := by decide +kernel
theorem d_Mo_width_15 : decode b_Mo_width 15 = .ok (.if_icmp .ge 7, 3) := by decide +kernel
theorem d_Mo_width_18 : decode b_Mo_width 18 = .ok (.iconst 2, 1) := by decide +kernel
theorem d_Mo_width_19 : decode b_Mo_width 19 = .ok (.goto 4, 3) := by decide +kernel
theorem d_Mo_width_22 : decode b_Mo_width 22 = .ok (.iconst 3, 1) := by decide +kernel
theorem d_Mo_width_23 : decode b_Mo_width 23 = .ok (.ireturn, 1) := by decide +kernel
abbrev b_Mo_barred : ByteArray := prog_9_method_9_code
abbrev y_Mo_barred : MethodName := ⟨"LongNamesModel", "barred", "(I)Z"⟩
abbrev w_Mo_barred : List Cond := .code y_Mo_barred b_Mo_barred 1 (some .boolean) :: BIG
theorem d_Mo_barred_0 : decode b_Mo_barred 0 = .ok (.iload_n 0, 1) := by decide +kernel
theorem d_Mo_barred_1 : decode b_Mo_barred 1 = .ok (.bipush 32, 2) := by decide +kernel
theorem d_Mo_barred_3 : decode b_Mo_barred 3 = .ok (.if_icmp .lt 27, 3) := by decide +kernel
theorem d_Mo_barred_6 : decode b_Mo_barred 6 = .ok (.iload_n 0, 1) := by decide +kernel
theorem d_Mo_barred_7 : decode b_Mo_barred 7 = .ok (.bipush 127, 2) := by decide +kernel
theorem d_Mo_barred_9 : decode b_Mo_barred 9 = .ok (.if_icmp .eq 21, 3) := by decide +kernel
theorem d_Mo_barred_12 : decode b_Mo_barred 12 = .ok (.iload_n 0, 1) := by decide +kernel
theorem d_Mo_barred_13 : decode b_Mo_barred 13 = .ok (.ldc 31, 2) := by decide +kernel
theorem d_Mo_barred_15 : decode b_Mo_barred 15 = .ok (.if_icmp .gt 15, 3) := by decide +kernel
theorem d_Mo_barred_18 : decode b_Mo_barred 18 = .ok (.iload_n 0, 1) := by decide +kernel
theorem d_Mo_barred_19 : decode b_Mo_barred 19 = .ok (.ldc 32, 2) := by decide +kernel
theorem d_Mo_barred_21 : decode b_Mo_barred 21 = .ok (.if_icmp .lt 11, 3) := by decide +kernel
theorem d_Mo_barred_24 : decode b_Mo_barred 24 = .ok (.iload_n 0, 1) := by decide +kernel
theorem d_Mo_barred_25 : decode b_Mo_barred 25 = .ok (.ldc 33, 2) := by decide +kernel
theorem d_Mo_barred_27 : decode b_Mo_barred 27 = .ok (.if_icmp .gt 5, 3) := by decide +kernel
theorem d_Mo_barred_30 : decode b_Mo_barred 30 = .ok (.iconst 1, 1) := by decide +kernel
theorem d_Mo_barred_31 : decode b_Mo_barred 31 = .ok (.ireturn, 1) := by decide +kernel
theorem d_Mo_barred_32 : decode b_Mo_barred 32 = .ok (.iload_n 0, 1) := by decide +kernel
theorem d_Mo_barred_33 : decode b_Mo_barred 33 = .ok (.bipush 34, 2) := by decide +kernel
theorem d_Mo_barred_35 : decode b_Mo_barred 35 = .ok (.if_icmp .eq 51, 3) := by decide +kernel
theorem d_Mo_barred_38 : decode b_Mo_barred 38 = .ok (.iload_n 0, 1) := by decide +kernel
theorem d_Mo_barred_39 : decode b_Mo_barred 39 = .ok (.bipush 42, 2) := by decide +kernel
theorem d_Mo_barred_41 : decode b_Mo_barred 41 = .ok (.if_icmp .eq 45, 3) := by decide +kernel
theorem d_Mo_barred_44 : decode b_Mo_barred 44 = .ok (.iload_n 0, 1) := by decide +kernel
theorem d_Mo_barred_45 : decode b_Mo_barred 45 = .ok (.bipush 47, 2) := by decide +kernel
theorem d_Mo_barred_47 : decode b_Mo_barred 47 = .ok (.if_icmp .eq 39, 3) := by decide +kernel
theorem d_Mo_barred_50 : decode b_Mo_barred 50 = .ok (.iload_n 0, 1) := by decide +kernel
theorem d_Mo_barred_51 : decode b_Mo_barred 51 = .ok (.bipush 58, 2) := by decide +kernel
theorem d_Mo_barred_53 : decode b_Mo_barred 53 = .ok (.if_icmp .eq 33, 3) := by decide +kernel
theorem d_Mo_barred_56 : decode b_Mo_barred 56 = .ok (.iload_n 0, 1) := by decide +kernel
theorem d_Mo_barred_57 : decode b_Mo_barred 57 = .ok (.bipush 60, 2) := by decide +kernel
theorem d_Mo_barred_59 : decode b_Mo_barred 59 = .ok (.if_icmp .eq 27, 3) := by decide +kernel
theorem d_Mo_barred_62 : decode b_Mo_barred 62 = .ok (.iload_n 0, 1) := by decide +kernel
theorem d_Mo_barred_63 : decode b_Mo_barred 63 = .ok (.bipush 62, 2) := by decide +kernel
theorem d_Mo_barred_65 : decode b_Mo_barred 65 = .ok (.if_icmp .eq 21, 3) := by decide +kernel
theorem d_Mo_barred_68 : decode b_Mo_barred 68 = .ok (.iload_n 0, 1) := by decide +kernel
theorem d_Mo_barred_69 : decode b_Mo_barred 69 = .ok (.bipush 63, 2) := by decide +kernel
theorem d_Mo_barred_71 : decode b_Mo_barred 71 = .ok (.if_icmp .eq 15, 3) := by decide +kernel
theorem d_Mo_barred_74 : decode b_Mo_barred 74 = .ok (.iload_n 0, 1) := by decide +kernel
theorem d_Mo_barred_75 : decode b_Mo_barred 75 = .ok (.bipush 92, 2) := by decide +kernel
theorem d_Mo_barred_77 : decode b_Mo_barred 77 = .ok (.if_icmp .eq 9, 3) := by decide +kernel
theorem d_Mo_barred_80 : decode b_Mo_barred 80 = .ok (.iload_n 0, 1) := by decide +kernel
theorem d_Mo_barred_81 : decode b_Mo_barred 81 = .ok (.bipush 124, 2) := by decide +kernel
theorem d_Mo_barred_83 : decode b_Mo_barred 83 = .ok (.if_icmp .ne 7, 3) := by decide +kernel
theorem d_Mo_barred_86 : decode b_Mo_barred 86 = .ok (.iconst 1, 1) := by decide +kernel
theorem d_Mo_barred_87 : decode b_Mo_barred 87 = .ok (.goto 4, 3) := by decide +kernel
theorem d_Mo_barred_90 : decode b_Mo_barred 90 = .ok (.iconst 0, 1) := by decide +kernel
theorem d_Mo_barred_91 : decode b_Mo_barred 91 = .ok (.ireturn, 1) := by decide +kernel
abbrev b_Mo_isName : ByteArray := prog_9_method_10_code
abbrev y_Mo_isName : MethodName := ⟨"LongNamesModel", "isName", "(I)Z"⟩
abbrev w_Mo_isName : List Cond := .code y_Mo_isName b_Mo_isName 4 (some .boolean) :: BIG
theorem d_Mo_isName_0 : decode b_Mo_isName 0 = .ok (.aload_n 0, 1) := by decide +kernel
theorem d_Mo_isName_1 : decode b_Mo_isName 1 = .ok (.getfield 13, 3) := by decide +kernel
theorem d_Mo_isName_4 : decode b_Mo_isName 4 = .ok (.iload_n 1, 1) := by decide +kernel
theorem d_Mo_isName_5 : decode b_Mo_isName 5 = .ok (.iaload, 1) := by decide +kernel
theorem d_Mo_isName_6 : decode b_Mo_isName 6 = .ok (.istore_n 2, 1) := by decide +kernel
theorem d_Mo_isName_7 : decode b_Mo_isName 7 = .ok (.iload_n 2, 1) := by decide +kernel
theorem d_Mo_isName_8 : decode b_Mo_isName 8 = .ok (.ifCond .eq 29, 3) := by decide +kernel
theorem d_Mo_isName_11 : decode b_Mo_isName 11 = .ok (.aload_n 0, 1) := by decide +kernel
theorem d_Mo_isName_12 : decode b_Mo_isName 12 = .ok (.iload_n 1, 1) := by decide +kernel
theorem d_Mo_isName_13 : decode b_Mo_isName 13 = .ok (.iload_n 2, 1) := by decide +kernel
theorem d_Mo_isName_14 : decode b_Mo_isName 14 = .ok (.iconst 1, 1) := by decide +kernel
theorem d_Mo_isName_15 : decode b_Mo_isName 15 = .ok (.isub, 1) := by decide +kernel
theorem d_Mo_isName_16 : decode b_Mo_isName 16 = .ok (.invokevirtual 34, 3) := by decide +kernel
theorem d_Mo_isName_19 : decode b_Mo_isName 19 = .ok (.bipush 32, 2) := by decide +kernel
theorem d_Mo_isName_21 : decode b_Mo_isName 21 = .ok (.if_icmp .eq 16, 3) := by decide +kernel
theorem d_Mo_isName_24 : decode b_Mo_isName 24 = .ok (.aload_n 0, 1) := by decide +kernel
theorem d_Mo_isName_25 : decode b_Mo_isName 25 = .ok (.iload_n 1, 1) := by decide +kernel
theorem d_Mo_isName_26 : decode b_Mo_isName 26 = .ok (.iload_n 2, 1) := by decide +kernel
theorem d_Mo_isName_27 : decode b_Mo_isName 27 = .ok (.iconst 1, 1) := by decide +kernel
theorem d_Mo_isName_28 : decode b_Mo_isName 28 = .ok (.isub, 1) := by decide +kernel
theorem d_Mo_isName_29 : decode b_Mo_isName 29 = .ok (.invokevirtual 34, 3) := by decide +kernel
theorem d_Mo_isName_32 : decode b_Mo_isName 32 = .ok (.bipush 46, 2) := by decide +kernel
theorem d_Mo_isName_34 : decode b_Mo_isName 34 = .ok (.if_icmp .ne 5, 3) := by decide +kernel
theorem d_Mo_isName_37 : decode b_Mo_isName 37 = .ok (.iconst 0, 1) := by decide +kernel
theorem d_Mo_isName_38 : decode b_Mo_isName 38 = .ok (.ireturn, 1) := by decide +kernel
theorem d_Mo_isName_39 : decode b_Mo_isName 39 = .ok (.iconst 0, 1) := by decide +kernel
theorem d_Mo_isName_40 : decode b_Mo_isName 40 = .ok (.istore_n 3, 1) := by decide +kernel
theorem d_Mo_isName_41 : decode b_Mo_isName 41 = .ok (.iload_n 3, 1) := by decide +kernel
theorem d_Mo_isName_42 : decode b_Mo_isName 42 = .ok (.iload_n 2, 1) := by decide +kernel
theorem d_Mo_isName_43 : decode b_Mo_isName 43 = .ok (.if_icmp .ge 23, 3) := by decide +kernel
theorem d_Mo_isName_46 : decode b_Mo_isName 46 = .ok (.aload_n 0, 1) := by decide +kernel
theorem d_Mo_isName_47 : decode b_Mo_isName 47 = .ok (.iload_n 1, 1) := by decide +kernel
theorem d_Mo_isName_48 : decode b_Mo_isName 48 = .ok (.iload_n 3, 1) := by decide +kernel
theorem d_Mo_isName_49 : decode b_Mo_isName 49 = .ok (.invokevirtual 34, 3) := by decide +kernel
theorem d_Mo_isName_52 : decode b_Mo_isName 52 = .ok (.invokestatic 38, 3) := by decide +kernel
theorem d_Mo_isName_55 : decode b_Mo_isName 55 = .ok (.ifCond .eq 5, 3) := by decide +kernel
theorem d_Mo_isName_58 : decode b_Mo_isName 58 = .ok (.iconst 0, 1) := by decide +kernel
theorem d_Mo_isName_59 : decode b_Mo_isName 59 = .ok (.ireturn, 1) := by decide +kernel
theorem d_Mo_isName_60 : decode b_Mo_isName 60 = .ok (.iinc 3 1, 3) := by decide +kernel
theorem d_Mo_isName_63 : decode b_Mo_isName 63 = .ok (.goto (-22), 3) := by decide +kernel
theorem d_Mo_isName_66 : decode b_Mo_isName 66 = .ok (.iconst 1, 1) := by decide +kernel
theorem d_Mo_isName_67 : decode b_Mo_isName 67 = .ok (.ireturn, 1) := by decide +kernel
abbrev b_Mo_isSign : ByteArray := prog_9_method_11_code
abbrev y_Mo_isSign : MethodName := ⟨"LongNamesModel", "isSign", "(I)Z"⟩
abbrev w_Mo_isSign : List Cond := .code y_Mo_isSign b_Mo_isSign 1 (some .boolean) :: BIG
theorem d_Mo_isSign_0 : decode b_Mo_isSign 0 = .ok (.iload_n 0, 1) := by decide +kernel
theorem d_Mo_isSign_1 : decode b_Mo_isSign 1 = .ok (.bipush 64, 2) := by decide +kernel
theorem d_Mo_isSign_3 : decode b_Mo_isSign 3 = .ok (.if_icmp .lt 9, 3) := by decide +kernel
theorem d_Mo_isSign_6 : decode b_Mo_isSign 6 = .ok (.iload_n 0, 1) := by decide +kernel
theorem d_Mo_isSign_7 : decode b_Mo_isSign 7 = .ok (.bipush 90, 2) := by decide +kernel
theorem d_Mo_isSign_9 : decode b_Mo_isSign 9 = .ok (.if_icmp .le 27, 3) := by decide +kernel
theorem d_Mo_isSign_12 : decode b_Mo_isSign 12 = .ok (.iload_n 0, 1) := by decide +kernel
theorem d_Mo_isSign_13 : decode b_Mo_isSign 13 = .ok (.bipush 48, 2) := by decide +kernel
theorem d_Mo_isSign_15 : decode b_Mo_isSign 15 = .ok (.if_icmp .lt 9, 3) := by decide +kernel
theorem d_Mo_isSign_18 : decode b_Mo_isSign 18 = .ok (.iload_n 0, 1) := by decide +kernel
theorem d_Mo_isSign_19 : decode b_Mo_isSign 19 = .ok (.bipush 57, 2) := by decide +kernel
theorem d_Mo_isSign_21 : decode b_Mo_isSign 21 = .ok (.if_icmp .le 15, 3) := by decide +kernel
theorem d_Mo_isSign_24 : decode b_Mo_isSign 24 = .ok (.iload_n 0, 1) := by decide +kernel
theorem d_Mo_isSign_25 : decode b_Mo_isSign 25 = .ok (.bipush 35, 2) := by decide +kernel
theorem d_Mo_isSign_27 : decode b_Mo_isSign 27 = .ok (.if_icmp .lt 11, 3) := by decide +kernel
theorem d_Mo_isSign_30 : decode b_Mo_isSign 30 = .ok (.iload_n 0, 1) := by decide +kernel
theorem d_Mo_isSign_31 : decode b_Mo_isSign 31 = .ok (.bipush 41, 2) := by decide +kernel
theorem d_Mo_isSign_33 : decode b_Mo_isSign 33 = .ok (.if_icmp .gt 5, 3) := by decide +kernel
theorem d_Mo_isSign_36 : decode b_Mo_isSign 36 = .ok (.iconst 1, 1) := by decide +kernel
theorem d_Mo_isSign_37 : decode b_Mo_isSign 37 = .ok (.ireturn, 1) := by decide +kernel
theorem d_Mo_isSign_38 : decode b_Mo_isSign 38 = .ok (.iload_n 0, 1) := by decide +kernel
theorem d_Mo_isSign_39 : decode b_Mo_isSign 39 = .ok (.bipush 33, 2) := by decide +kernel
theorem d_Mo_isSign_41 : decode b_Mo_isSign 41 = .ok (.if_icmp .eq 39, 3) := by decide +kernel
theorem d_Mo_isSign_44 : decode b_Mo_isSign 44 = .ok (.iload_n 0, 1) := by decide +kernel
theorem d_Mo_isSign_45 : decode b_Mo_isSign 45 = .ok (.bipush 45, 2) := by decide +kernel
theorem d_Mo_isSign_47 : decode b_Mo_isSign 47 = .ok (.if_icmp .eq 33, 3) := by decide +kernel
theorem d_Mo_isSign_50 : decode b_Mo_isSign 50 = .ok (.iload_n 0, 1) := by decide +kernel
theorem d_Mo_isSign_51 : decode b_Mo_isSign 51 = .ok (.bipush 94, 2) := by decide +kernel
theorem d_Mo_isSign_53 : decode b_Mo_isSign 53 = .ok (.if_icmp .lt 9, 3) := by decide +kernel
theorem d_Mo_isSign_56 : decode b_Mo_isSign 56 = .ok (.iload_n 0, 1) := by decide +kernel
theorem d_Mo_isSign_57 : decode b_Mo_isSign 57 = .ok (.bipush 96, 2) := by decide +kernel
theorem d_Mo_isSign_59 : decode b_Mo_isSign 59 = .ok (.if_icmp .le 21, 3) := by decide +kernel
theorem d_Mo_isSign_62 : decode b_Mo_isSign 62 = .ok (.iload_n 0, 1) := by decide +kernel
theorem d_Mo_isSign_63 : decode b_Mo_isSign 63 = .ok (.bipush 123, 2) := by decide +kernel
theorem d_Mo_isSign_65 : decode b_Mo_isSign 65 = .ok (.if_icmp .eq 15, 3) := by decide +kernel
theorem d_Mo_isSign_68 : decode b_Mo_isSign 68 = .ok (.iload_n 0, 1) := by decide +kernel
theorem d_Mo_isSign_69 : decode b_Mo_isSign 69 = .ok (.bipush 125, 2) := by decide +kernel
theorem d_Mo_isSign_71 : decode b_Mo_isSign 71 = .ok (.if_icmp .eq 9, 3) := by decide +kernel
theorem d_Mo_isSign_74 : decode b_Mo_isSign 74 = .ok (.iload_n 0, 1) := by decide +kernel
theorem d_Mo_isSign_75 : decode b_Mo_isSign 75 = .ok (.bipush 126, 2) := by decide +kernel
theorem d_Mo_isSign_77 : decode b_Mo_isSign 77 = .ok (.if_icmp .ne 7, 3) := by decide +kernel
theorem d_Mo_isSign_80 : decode b_Mo_isSign 80 = .ok (.iconst 1, 1) := by decide +kernel
theorem d_Mo_isSign_81 : decode b_Mo_isSign 81 = .ok (.goto 4, 3) := by decide +kernel
theorem d_Mo_isSign_84 : decode b_Mo_isSign 84 = .ok (.iconst 0, 1) := by decide +kernel
theorem d_Mo_isSign_85 : decode b_Mo_isSign 85 = .ok (.ireturn, 1) := by decide +kernel
abbrev b_Mo_pointOf : ByteArray := prog_9_method_12_code
abbrev y_Mo_pointOf : MethodName := ⟨"LongNamesModel", "pointOf", "(I)I"⟩
abbrev w_Mo_pointOf : List Cond := .code y_Mo_pointOf b_Mo_pointOf 3 (some .int) :: BIG
theorem d_Mo_pointOf_0 : decode b_Mo_pointOf 0 = .ok (.iconst 0, 1) := by decide +kernel
theorem d_Mo_pointOf_1 : decode b_Mo_pointOf 1 = .ok (.istore_n 2, 1) := by decide +kernel
theorem d_Mo_pointOf_2 : decode b_Mo_pointOf 2 = .ok (.iload_n 2, 1) := by decide +kernel
theorem d_Mo_pointOf_3 : decode b_Mo_pointOf 3 = .ok (.aload_n 0, 1) := by decide +kernel
theorem d_Mo_pointOf_4 : decode b_Mo_pointOf 4 = .ok (.getfield 13, 3) := by decide +kernel
theorem d_Mo_pointOf_7 : decode b_Mo_pointOf 7 = .ok (.iload_n 1, 1) := by decide +kernel
theorem d_Mo_pointOf_8 : decode b_Mo_pointOf 8 = .ok (.iaload, 1) := by decide +kernel
theorem d_Mo_pointOf_9 : decode b_Mo_pointOf 9 = .ok (.if_icmp .ge 20, 3) := by decide +kernel
theorem d_Mo_pointOf_12 : decode b_Mo_pointOf 12 = .ok (.aload_n 0, 1) := by decide +kernel
theorem d_Mo_pointOf_13 : decode b_Mo_pointOf 13 = .ok (.iload_n 1, 1) := by decide +kernel
theorem d_Mo_pointOf_14 : decode b_Mo_pointOf 14 = .ok (.iload_n 2, 1) := by decide +kernel
theorem d_Mo_pointOf_15 : decode b_Mo_pointOf 15 = .ok (.invokevirtual 34, 3) := by decide +kernel
theorem d_Mo_pointOf_18 : decode b_Mo_pointOf 18 = .ok (.bipush 46, 2) := by decide +kernel
theorem d_Mo_pointOf_20 : decode b_Mo_pointOf 20 = .ok (.if_icmp .eq 9, 3) := by decide +kernel
theorem d_Mo_pointOf_23 : decode b_Mo_pointOf 23 = .ok (.iinc 2 1, 3) := by decide +kernel
theorem d_Mo_pointOf_26 : decode b_Mo_pointOf 26 = .ok (.goto (-24), 3) := by decide +kernel
theorem d_Mo_pointOf_29 : decode b_Mo_pointOf 29 = .ok (.iload_n 2, 1) := by decide +kernel
theorem d_Mo_pointOf_30 : decode b_Mo_pointOf 30 = .ok (.ireturn, 1) := by decide +kernel
abbrev b_Mo_isShown : ByteArray := prog_9_method_13_code
abbrev y_Mo_isShown : MethodName := ⟨"LongNamesModel", "isShown", "(I)Z"⟩
abbrev w_Mo_isShown : List Cond := .code y_Mo_isShown b_Mo_isShown 5 (some .boolean) :: BIG
theorem d_Mo_isShown_0 : decode b_Mo_isShown 0 = .ok (.aload_n 0, 1) := by decide +kernel
theorem d_Mo_isShown_1 : decode b_Mo_isShown 1 = .ok (.getfield 13, 3) := by decide +kernel
theorem d_Mo_isShown_4 : decode b_Mo_isShown 4 = .ok (.iload_n 1, 1) := by decide +kernel
theorem d_Mo_isShown_5 : decode b_Mo_isShown 5 = .ok (.iaload, 1) := by decide +kernel
theorem d_Mo_isShown_6 : decode b_Mo_isShown 6 = .ok (.istore_n 2, 1) := by decide +kernel
theorem d_Mo_isShown_7 : decode b_Mo_isShown 7 = .ok (.aload_n 0, 1) := by decide +kernel
theorem d_Mo_isShown_8 : decode b_Mo_isShown 8 = .ok (.iload_n 1, 1) := by decide +kernel
theorem d_Mo_isShown_9 : decode b_Mo_isShown 9 = .ok (.invokevirtual 41, 3) := by decide +kernel
theorem d_Mo_isShown_12 : decode b_Mo_isShown 12 = .ok (.istore_n 3, 1) := by decide +kernel
theorem d_Mo_isShown_13 : decode b_Mo_isShown 13 = .ok (.iload_n 3, 1) := by decide +kernel
theorem d_Mo_isShown_14 : decode b_Mo_isShown 14 = .ok (.iconst 1, 1) := by decide +kernel
theorem d_Mo_isShown_15 : decode b_Mo_isShown 15 = .ok (.if_icmp .lt 28, 3) := by decide +kernel
theorem d_Mo_isShown_18 : decode b_Mo_isShown 18 = .ok (.iload_n 3, 1) := by decide +kernel
theorem d_Mo_isShown_19 : decode b_Mo_isShown 19 = .ok (.bipush 8, 2) := by decide +kernel
theorem d_Mo_isShown_21 : decode b_Mo_isShown 21 = .ok (.if_icmp .gt 22, 3) := by decide +kernel
theorem d_Mo_isShown_24 : decode b_Mo_isShown 24 = .ok (.iload_n 3, 1) := by decide +kernel
theorem d_Mo_isShown_25 : decode b_Mo_isShown 25 = .ok (.iload_n 2, 1) := by decide +kernel
theorem d_Mo_isShown_26 : decode b_Mo_isShown 26 = .ok (.if_icmp .ge 19, 3) := by decide +kernel
theorem d_Mo_isShown_29 : decode b_Mo_isShown 29 = .ok (.iload_n 2, 1) := by decide +kernel
theorem d_Mo_isShown_30 : decode b_Mo_isShown 30 = .ok (.iload_n 3, 1) := by decide +kernel
theorem d_Mo_isShown_31 : decode b_Mo_isShown 31 = .ok (.isub, 1) := by decide +kernel
theorem d_Mo_isShown_32 : decode b_Mo_isShown 32 = .ok (.iconst 2, 1) := by decide +kernel
theorem d_Mo_isShown_33 : decode b_Mo_isShown 33 = .ok (.if_icmp .lt 10, 3) := by decide +kernel
theorem d_Mo_isShown_36 : decode b_Mo_isShown 36 = .ok (.iload_n 2, 1) := by decide +kernel
theorem d_Mo_isShown_37 : decode b_Mo_isShown 37 = .ok (.iload_n 3, 1) := by decide +kernel
theorem d_Mo_isShown_38 : decode b_Mo_isShown 38 = .ok (.isub, 1) := by decide +kernel
theorem d_Mo_isShown_39 : decode b_Mo_isShown 39 = .ok (.iconst 4, 1) := by decide +kernel
theorem d_Mo_isShown_40 : decode b_Mo_isShown 40 = .ok (.if_icmp .le 5, 3) := by decide +kernel
theorem d_Mo_isShown_43 : decode b_Mo_isShown 43 = .ok (.iconst 0, 1) := by decide +kernel
theorem d_Mo_isShown_44 : decode b_Mo_isShown 44 = .ok (.ireturn, 1) := by decide +kernel
theorem d_Mo_isShown_45 : decode b_Mo_isShown 45 = .ok (.iconst 0, 1) := by decide +kernel
theorem d_Mo_isShown_46 : decode b_Mo_isShown 46 = .ok (.istore 4, 2) := by decide +kernel
theorem d_Mo_isShown_48 : decode b_Mo_isShown 48 = .ok (.iload 4, 2) := by decide +kernel
theorem d_Mo_isShown_50 : decode b_Mo_isShown 50 = .ok (.bipush 11, 2) := by decide +kernel
theorem d_Mo_isShown_52 : decode b_Mo_isShown 52 = .ok (.if_icmp .ge 18, 3) := by decide +kernel
theorem d_Mo_isShown_55 : decode b_Mo_isShown 55 = .ok (.aload_n 0, 1) := by decide +kernel
theorem d_Mo_isShown_56 : decode b_Mo_isShown 56 = .ok (.getfield 19, 3) := by decide +kernel
theorem d_Mo_isShown_59 : decode b_Mo_isShown 59 = .ok (.iload 4, 2) := by decide +kernel
theorem d_Mo_isShown_61 : decode b_Mo_isShown 61 = .ok (.bipush 32, 2) := by decide +kernel
theorem d_Mo_isShown_63 : decode b_Mo_isShown 63 = .ok (.iastore, 1) := by decide +kernel
theorem d_Mo_isShown_64 : decode b_Mo_isShown 64 = .ok (.iinc 4 1, 3) := by decide +kernel
theorem d_Mo_isShown_67 : decode b_Mo_isShown 67 = .ok (.goto (-19), 3) := by decide +kernel
theorem d_Mo_isShown_70 : decode b_Mo_isShown 70 = .ok (.iconst 0, 1) := by decide +kernel
theorem d_Mo_isShown_71 : decode b_Mo_isShown 71 = .ok (.istore 4, 2) := by decide +kernel
theorem d_Mo_isShown_73 : decode b_Mo_isShown 73 = .ok (.iload 4, 2) := by decide +kernel
theorem d_Mo_isShown_75 : decode b_Mo_isShown 75 = .ok (.iload_n 2, 1) := by decide +kernel
theorem d_Mo_isShown_76 : decode b_Mo_isShown 76 = .ok (.if_icmp .ge 75, 3) := by decide +kernel
theorem d_Mo_isShown_79 : decode b_Mo_isShown 79 = .ok (.iload 4, 2) := by decide +kernel
theorem d_Mo_isShown_81 : decode b_Mo_isShown 81 = .ok (.iload_n 3, 1) := by decide +kernel
theorem d_Mo_isShown_82 : decode b_Mo_isShown 82 = .ok (.if_icmp .eq 18, 3) := by decide +kernel
theorem d_Mo_isShown_85 : decode b_Mo_isShown 85 = .ok (.aload_n 0, 1) := by decide +kernel
theorem d_Mo_isShown_86 : decode b_Mo_isShown 86 = .ok (.iload_n 1, 1) := by decide +kernel
theorem d_Mo_isShown_87 : decode b_Mo_isShown 87 = .ok (.iload 4, 2) := by decide +kernel
theorem d_Mo_isShown_89 : decode b_Mo_isShown 89 = .ok (.invokevirtual 34, 3) := by decide +kernel
theorem d_Mo_isShown_92 : decode b_Mo_isShown 92 = .ok (.invokestatic 45, 3) := by decide +kernel
theorem d_Mo_isShown_95 : decode b_Mo_isShown 95 = .ok (.ifCond .ne 5, 3) := by decide +kernel
theorem d_Mo_isShown_98 : decode b_Mo_isShown 98 = .ok (.iconst 0, 1) := by decide +kernel
theorem d_Mo_isShown_99 : decode b_Mo_isShown 99 = .ok (.ireturn, 1) := by decide +kernel
theorem d_Mo_isShown_100 : decode b_Mo_isShown 100 = .ok (.iload 4, 2) := by decide +kernel
theorem d_Mo_isShown_102 : decode b_Mo_isShown 102 = .ok (.iload_n 3, 1) := by decide +kernel
theorem d_Mo_isShown_103 : decode b_Mo_isShown 103 = .ok (.if_icmp .ge 17, 3) := by decide +kernel
theorem d_Mo_isShown_106 : decode b_Mo_isShown 106 = .ok (.aload_n 0, 1) := by decide +kernel
theorem d_Mo_isShown_107 : decode b_Mo_isShown 107 = .ok (.getfield 19, 3) := by decide +kernel
theorem d_Mo_isShown_110 : decode b_Mo_isShown 110 = .ok (.iload 4, 2) := by decide +kernel
theorem d_Mo_isShown_112 : decode b_Mo_isShown 112 = .ok (.aload_n 0, 1) := by decide +kernel
theorem d_Mo_isShown_113 : decode b_Mo_isShown 113 = .ok (.iload_n 1, 1) := by decide +kernel
theorem d_Mo_isShown_114 : decode b_Mo_isShown 114 = .ok (.iload 4, 2) := by decide +kernel
theorem d_Mo_isShown_116 : decode b_Mo_isShown 116 = .ok (.invokevirtual 34, 3) := by decide +kernel
theorem d_Mo_isShown_119 : decode b_Mo_isShown 119 = .ok (.iastore, 1) := by decide +kernel
theorem d_Mo_isShown_120 : decode b_Mo_isShown 120 = .ok (.iload 4, 2) := by decide +kernel
theorem d_Mo_isShown_122 : decode b_Mo_isShown 122 = .ok (.iload_n 3, 1) := by decide +kernel
theorem d_Mo_isShown_123 : decode b_Mo_isShown 123 = .ok (.if_icmp .le 22, 3) := by decide +kernel
theorem d_Mo_isShown_126 : decode b_Mo_isShown 126 = .ok (.aload_n 0, 1) := by decide +kernel
theorem d_Mo_isShown_127 : decode b_Mo_isShown 127 = .ok (.getfield 19, 3) := by decide +kernel
theorem d_Mo_isShown_130 : decode b_Mo_isShown 130 = .ok (.bipush 7, 2) := by decide +kernel
theorem d_Mo_isShown_132 : decode b_Mo_isShown 132 = .ok (.iload 4, 2) := by decide +kernel
theorem d_Mo_isShown_134 : decode b_Mo_isShown 134 = .ok (.iadd, 1) := by decide +kernel
theorem d_Mo_isShown_135 : decode b_Mo_isShown 135 = .ok (.iload_n 3, 1) := by decide +kernel
theorem d_Mo_isShown_136 : decode b_Mo_isShown 136 = .ok (.isub, 1) := by decide +kernel
theorem d_Mo_isShown_137 : decode b_Mo_isShown 137 = .ok (.aload_n 0, 1) := by decide +kernel
theorem d_Mo_isShown_138 : decode b_Mo_isShown 138 = .ok (.iload_n 1, 1) := by decide +kernel
theorem d_Mo_isShown_139 : decode b_Mo_isShown 139 = .ok (.iload 4, 2) := by decide +kernel
theorem d_Mo_isShown_141 : decode b_Mo_isShown 141 = .ok (.invokevirtual 34, 3) := by decide +kernel
theorem d_Mo_isShown_144 : decode b_Mo_isShown 144 = .ok (.iastore, 1) := by decide +kernel
theorem d_Mo_isShown_145 : decode b_Mo_isShown 145 = .ok (.iinc 4 1, 3) := by decide +kernel
theorem d_Mo_isShown_148 : decode b_Mo_isShown 148 = .ok (.goto (-75), 3) := by decide +kernel
theorem d_Mo_isShown_151 : decode b_Mo_isShown 151 = .ok (.iconst 1, 1) := by decide +kernel
theorem d_Mo_isShown_152 : decode b_Mo_isShown 152 = .ok (.ireturn, 1) := by decide +kernel
abbrev b_Mo_about : ByteArray := prog_9_method_14_code
abbrev y_Mo_about : MethodName := ⟨"LongNamesModel", "about", "(II)I"⟩
abbrev w_Mo_about : List Cond := .code y_Mo_about b_Mo_about 6 (some .int) :: BIG
theorem d_Mo_about_0 : decode b_Mo_about 0 = .ok (.aload_n 0, 1) := by decide +kernel
theorem d_Mo_about_1 : decode b_Mo_about 1 = .ok (.iconst 0, 1) := by decide +kernel
theorem d_Mo_about_2 : decode b_Mo_about 2 = .ok (.putfield 22, 3) := by decide +kernel
theorem d_Mo_about_5 : decode b_Mo_about 5 = .ok (.iload_n 1, 1) := by decide +kernel
theorem d_Mo_about_6 : decode b_Mo_about 6 = .ok (.invokestatic 26, 3) := by decide +kernel
theorem d_Mo_about_9 : decode b_Mo_about 9 = .ok (.ifCond .ne 5, 3) := by decide +kernel
theorem d_Mo_about_12 : decode b_Mo_about 12 = .ok (.iconst (-1), 1) := by decide +kernel
theorem d_Mo_about_13 : decode b_Mo_about 13 = .ok (.ireturn, 1) := by decide +kernel
theorem d_Mo_about_14 : decode b_Mo_about 14 = .ok (.aload_n 0, 1) := by decide +kernel
theorem d_Mo_about_15 : decode b_Mo_about 15 = .ok (.getfield 13, 3) := by decide +kernel
theorem d_Mo_about_18 : decode b_Mo_about 18 = .ok (.iload_n 1, 1) := by decide +kernel
theorem d_Mo_about_19 : decode b_Mo_about 19 = .ok (.iaload, 1) := by decide +kernel
theorem d_Mo_about_20 : decode b_Mo_about 20 = .ok (.istore_n 3, 1) := by decide +kernel
theorem d_Mo_about_21 : decode b_Mo_about 21 = .ok (.iload_n 2, 1) := by decide +kernel
theorem d_Mo_about_22 : decode b_Mo_about 22 = .ok (.tableswitch 105 0 4 #[34, 36, 50, 64, 69], 34) := by decide +kernel
theorem d_Mo_about_56 : decode b_Mo_about 56 = .ok (.iload_n 3, 1) := by decide +kernel
theorem d_Mo_about_57 : decode b_Mo_about 57 = .ok (.ireturn, 1) := by decide +kernel
theorem d_Mo_about_58 : decode b_Mo_about 58 = .ok (.aload_n 0, 1) := by decide +kernel
theorem d_Mo_about_59 : decode b_Mo_about 59 = .ok (.iload_n 1, 1) := by decide +kernel
theorem d_Mo_about_60 : decode b_Mo_about 60 = .ok (.invokevirtual 48, 3) := by decide +kernel
theorem d_Mo_about_63 : decode b_Mo_about 63 = .ok (.ifCond .eq 7, 3) := by decide +kernel
theorem d_Mo_about_66 : decode b_Mo_about 66 = .ok (.iconst 1, 1) := by decide +kernel
theorem d_Mo_about_67 : decode b_Mo_about 67 = .ok (.goto 4, 3) := by decide +kernel
theorem d_Mo_about_70 : decode b_Mo_about 70 = .ok (.iconst 0, 1) := by decide +kernel
theorem d_Mo_about_71 : decode b_Mo_about 71 = .ok (.ireturn, 1) := by decide +kernel
theorem d_Mo_about_72 : decode b_Mo_about 72 = .ok (.aload_n 0, 1) := by decide +kernel
theorem d_Mo_about_73 : decode b_Mo_about 73 = .ok (.iload_n 1, 1) := by decide +kernel
theorem d_Mo_about_74 : decode b_Mo_about 74 = .ok (.invokevirtual 51, 3) := by decide +kernel
theorem d_Mo_about_77 : decode b_Mo_about 77 = .ok (.ifCond .eq 7, 3) := by decide +kernel
theorem d_Mo_about_80 : decode b_Mo_about 80 = .ok (.iconst 1, 1) := by decide +kernel
theorem d_Mo_about_81 : decode b_Mo_about 81 = .ok (.goto 4, 3) := by decide +kernel
theorem d_Mo_about_84 : decode b_Mo_about 84 = .ok (.iconst 0, 1) := by decide +kernel
theorem d_Mo_about_85 : decode b_Mo_about 85 = .ok (.ireturn, 1) := by decide +kernel
theorem d_Mo_about_86 : decode b_Mo_about 86 = .ok (.iload_n 3, 1) := by decide +kernel
theorem d_Mo_about_87 : decode b_Mo_about 87 = .ok (.invokestatic 54, 3) := by decide +kernel
theorem d_Mo_about_90 : decode b_Mo_about 90 = .ok (.ireturn, 1) := by decide +kernel
theorem d_Mo_about_91 : decode b_Mo_about 91 = .ok (.iconst 0, 1) := by decide +kernel
theorem d_Mo_about_92 : decode b_Mo_about 92 = .ok (.istore 4, 2) := by decide +kernel
theorem d_Mo_about_94 : decode b_Mo_about 94 = .ok (.iconst 0, 1) := by decide +kernel
theorem d_Mo_about_95 : decode b_Mo_about 95 = .ok (.istore 5, 2) := by decide +kernel
theorem d_Mo_about_97 : decode b_Mo_about 97 = .ok (.iload 5, 2) := by decide +kernel
theorem d_Mo_about_99 : decode b_Mo_about 99 = .ok (.iload_n 3, 1) := by decide +kernel
theorem d_Mo_about_100 : decode b_Mo_about 100 = .ok (.if_icmp .ge 24, 3) := by decide +kernel
theorem d_Mo_about_103 : decode b_Mo_about 103 = .ok (.iload 4, 2) := by decide +kernel
theorem d_Mo_about_105 : decode b_Mo_about 105 = .ok (.aload_n 0, 1) := by decide +kernel
theorem d_Mo_about_106 : decode b_Mo_about 106 = .ok (.iload_n 1, 1) := by decide +kernel
theorem d_Mo_about_107 : decode b_Mo_about 107 = .ok (.iload 5, 2) := by decide +kernel
theorem d_Mo_about_109 : decode b_Mo_about 109 = .ok (.invokevirtual 34, 3) := by decide +kernel
theorem d_Mo_about_112 : decode b_Mo_about 112 = .ok (.invokestatic 57, 3) := by decide +kernel
theorem d_Mo_about_115 : decode b_Mo_about 115 = .ok (.iadd, 1) := by decide +kernel
theorem d_Mo_about_116 : decode b_Mo_about 116 = .ok (.istore 4, 2) := by decide +kernel
theorem d_Mo_about_118 : decode b_Mo_about 118 = .ok (.iinc 5 1, 3) := by decide +kernel
theorem d_Mo_about_121 : decode b_Mo_about 121 = .ok (.goto (-24), 3) := by decide +kernel
theorem d_Mo_about_124 : decode b_Mo_about 124 = .ok (.iload 4, 2) := by decide +kernel
theorem d_Mo_about_126 : decode b_Mo_about 126 = .ok (.ireturn, 1) := by decide +kernel
theorem d_Mo_about_127 : decode b_Mo_about 127 = .ok (.iconst (-1), 1) := by decide +kernel
theorem d_Mo_about_128 : decode b_Mo_about 128 = .ok (.ireturn, 1) := by decide +kernel
abbrev b_Mo_letter : ByteArray := prog_9_method_15_code
abbrev y_Mo_letter : MethodName := ⟨"LongNamesModel", "letter", "(II)I"⟩
abbrev w_Mo_letter : List Cond := .code y_Mo_letter b_Mo_letter 9 (some .int) :: BIG
theorem d_Mo_letter_0 : decode b_Mo_letter 0 = .ok (.aload_n 0, 1) := by decide +kernel
theorem d_Mo_letter_1 : decode b_Mo_letter 1 = .ok (.iconst 0, 1) := by decide +kernel
theorem d_Mo_letter_2 : decode b_Mo_letter 2 = .ok (.putfield 22, 3) := by decide +kernel
theorem d_Mo_letter_5 : decode b_Mo_letter 5 = .ok (.iload_n 1, 1) := by decide +kernel
theorem d_Mo_letter_6 : decode b_Mo_letter 6 = .ok (.invokestatic 26, 3) := by decide +kernel
theorem d_Mo_letter_9 : decode b_Mo_letter 9 = .ok (.ifCond .eq 7, 3) := by decide +kernel
theorem d_Mo_letter_12 : decode b_Mo_letter 12 = .ok (.iload_n 2, 1) := by decide +kernel
theorem d_Mo_letter_13 : decode b_Mo_letter 13 = .ok (.ifCond .ge 5, 3) := by decide +kernel
theorem d_Mo_letter_16 : decode b_Mo_letter 16 = .ok (.iconst (-1), 1) := by decide +kernel
theorem d_Mo_letter_17 : decode b_Mo_letter 17 = .ok (.ireturn, 1) := by decide +kernel
theorem d_Mo_letter_18 : decode b_Mo_letter 18 = .ok (.iconst 0, 1) := by decide +kernel
theorem d_Mo_letter_19 : decode b_Mo_letter 19 = .ok (.istore_n 3, 1) := by decide +kernel
theorem d_Mo_letter_20 : decode b_Mo_letter 20 = .ok (.iconst 0, 1) := by decide +kernel
theorem d_Mo_letter_21 : decode b_Mo_letter 21 = .ok (.istore 4, 2) := by decide +kernel
theorem d_Mo_letter_23 : decode b_Mo_letter 23 = .ok (.iload 4, 2) := by decide +kernel
theorem d_Mo_letter_25 : decode b_Mo_letter 25 = .ok (.aload_n 0, 1) := by decide +kernel
theorem d_Mo_letter_26 : decode b_Mo_letter 26 = .ok (.getfield 13, 3) := by decide +kernel
theorem d_Mo_letter_29 : decode b_Mo_letter 29 = .ok (.iload_n 1, 1) := by decide +kernel
theorem d_Mo_letter_30 : decode b_Mo_letter 30 = .ok (.iaload, 1) := by decide +kernel
theorem d_Mo_letter_31 : decode b_Mo_letter 31 = .ok (.if_icmp .ge 108, 3) := by decide +kernel
theorem d_Mo_letter_34 : decode b_Mo_letter 34 = .ok (.aload_n 0, 1) := by decide +kernel
theorem d_Mo_letter_35 : decode b_Mo_letter 35 = .ok (.iload_n 1, 1) := by decide +kernel
theorem d_Mo_letter_36 : decode b_Mo_letter 36 = .ok (.iload 4, 2) := by decide +kernel
theorem d_Mo_letter_38 : decode b_Mo_letter 38 = .ok (.invokevirtual 34, 3) := by decide +kernel
theorem d_Mo_letter_41 : decode b_Mo_letter 41 = .ok (.istore 5, 2) := by decide +kernel
theorem d_Mo_letter_43 : decode b_Mo_letter 43 = .ok (.iload 5, 2) := by decide +kernel
theorem d_Mo_letter_45 : decode b_Mo_letter 45 = .ok (.invokestatic 57, 3) := by decide +kernel
theorem d_Mo_letter_48 : decode b_Mo_letter 48 = .ok (.istore 6, 2) := by decide +kernel
theorem d_Mo_letter_50 : decode b_Mo_letter 50 = .ok (.iload_n 2, 1) := by decide +kernel
theorem d_Mo_letter_51 : decode b_Mo_letter 51 = .ok (.iload_n 3, 1) := by decide +kernel
theorem d_Mo_letter_52 : decode b_Mo_letter 52 = .ok (.iload 6, 2) := by decide +kernel
theorem d_Mo_letter_54 : decode b_Mo_letter 54 = .ok (.iadd, 1) := by decide +kernel
theorem d_Mo_letter_55 : decode b_Mo_letter 55 = .ok (.if_icmp .ge 73, 3) := by decide +kernel
theorem d_Mo_letter_58 : decode b_Mo_letter 58 = .ok (.iload_n 3, 1) := by decide +kernel
theorem d_Mo_letter_59 : decode b_Mo_letter 59 = .ok (.iload 6, 2) := by decide +kernel
theorem d_Mo_letter_61 : decode b_Mo_letter 61 = .ok (.iadd, 1) := by decide +kernel
theorem d_Mo_letter_62 : decode b_Mo_letter 62 = .ok (.iconst 1, 1) := by decide +kernel
theorem d_Mo_letter_63 : decode b_Mo_letter 63 = .ok (.isub, 1) := by decide +kernel
theorem d_Mo_letter_64 : decode b_Mo_letter 64 = .ok (.iload_n 2, 1) := by decide +kernel
theorem d_Mo_letter_65 : decode b_Mo_letter 65 = .ok (.isub, 1) := by decide +kernel
theorem d_Mo_letter_66 : decode b_Mo_letter 66 = .ok (.istore 7, 2) := by decide +kernel
theorem d_Mo_letter_68 : decode b_Mo_letter 68 = .ok (.iload 5, 2) := by decide +kernel
theorem d_Mo_letter_70 : decode b_Mo_letter 70 = .ok (.bipush 6, 2) := by decide +kernel
theorem d_Mo_letter_72 : decode b_Mo_letter 72 = .ok (.iload 7, 2) := by decide +kernel
theorem d_Mo_letter_74 : decode b_Mo_letter 74 = .ok (.imul, 1) := by decide +kernel
theorem d_Mo_letter_75 : decode b_Mo_letter 75 = .ok (.ishr, 1) := by decide +kernel
theorem d_Mo_letter_76 : decode b_Mo_letter 76 = .ok (.istore 8, 2) := by decide +kernel
theorem d_Mo_letter_78 : decode b_Mo_letter 78 = .ok (.iload_n 2, 1) := by decide +kernel
theorem d_Mo_letter_79 : decode b_Mo_letter 79 = .ok (.iload_n 3, 1) := by decide +kernel
theorem d_Mo_letter_80 : decode b_Mo_letter 80 = .ok (.if_icmp .le 15, 3) := by decide +kernel
theorem d_Mo_letter_83 : decode b_Mo_letter 83 = .ok (.sipush 128, 3) := by decide +kernel
theorem d_Mo_letter_86 : decode b_Mo_letter 86 = .ok (.iload 8, 2) := by decide +kernel
theorem d_Mo_letter_88 : decode b_Mo_letter 88 = .ok (.bipush 63, 2) := by decide +kernel
theorem d_Mo_letter_90 : decode b_Mo_letter 90 = .ok (.iand, 1) := by decide +kernel
theorem d_Mo_letter_91 : decode b_Mo_letter 91 = .ok (.iadd, 1) := by decide +kernel
theorem d_Mo_letter_92 : decode b_Mo_letter 92 = .ok (.goto 35, 3) := by decide +kernel
theorem d_Mo_letter_95 : decode b_Mo_letter 95 = .ok (.iload 6, 2) := by decide +kernel
theorem d_Mo_letter_97 : decode b_Mo_letter 97 = .ok (.iconst 1, 1) := by decide +kernel
theorem d_Mo_letter_98 : decode b_Mo_letter 98 = .ok (.if_icmp .ne 8, 3) := by decide +kernel
theorem d_Mo_letter_101 : decode b_Mo_letter 101 = .ok (.iload 5, 2) := by decide +kernel
theorem d_Mo_letter_103 : decode b_Mo_letter 103 = .ok (.goto 24, 3) := by decide +kernel
theorem d_Mo_letter_106 : decode b_Mo_letter 106 = .ok (.iload 6, 2) := by decide +kernel
theorem d_Mo_letter_108 : decode b_Mo_letter 108 = .ok (.iconst 2, 1) := by decide +kernel
theorem d_Mo_letter_109 : decode b_Mo_letter 109 = .ok (.if_icmp .ne 12, 3) := by decide +kernel
theorem d_Mo_letter_112 : decode b_Mo_letter 112 = .ok (.sipush 192, 3) := by decide +kernel
theorem d_Mo_letter_115 : decode b_Mo_letter 115 = .ok (.iload 8, 2) := by decide +kernel
theorem d_Mo_letter_117 : decode b_Mo_letter 117 = .ok (.iadd, 1) := by decide +kernel
theorem d_Mo_letter_118 : decode b_Mo_letter 118 = .ok (.goto 9, 3) := by decide +kernel
theorem d_Mo_letter_121 : decode b_Mo_letter 121 = .ok (.sipush 224, 3) := by decide +kernel
theorem d_Mo_letter_124 : decode b_Mo_letter 124 = .ok (.iload 8, 2) := by decide +kernel
theorem d_Mo_letter_126 : decode b_Mo_letter 126 = .ok (.iadd, 1) := by decide +kernel
theorem d_Mo_letter_127 : decode b_Mo_letter 127 = .ok (.ireturn, 1) := by decide +kernel
theorem d_Mo_letter_128 : decode b_Mo_letter 128 = .ok (.iload_n 3, 1) := by decide +kernel
theorem d_Mo_letter_129 : decode b_Mo_letter 129 = .ok (.iload 6, 2) := by decide +kernel
theorem d_Mo_letter_131 : decode b_Mo_letter 131 = .ok (.iadd, 1) := by decide +kernel
theorem d_Mo_letter_132 : decode b_Mo_letter 132 = .ok (.istore_n 3, 1) := by decide +kernel
theorem d_Mo_letter_133 : decode b_Mo_letter 133 = .ok (.iinc 4 1, 3) := by decide +kernel
theorem d_Mo_letter_136 : decode b_Mo_letter 136 = .ok (.goto (-113), 3) := by decide +kernel
theorem d_Mo_letter_139 : decode b_Mo_letter 139 = .ok (.iconst (-1), 1) := by decide +kernel
theorem d_Mo_letter_140 : decode b_Mo_letter 140 = .ok (.ireturn, 1) := by decide +kernel
abbrev b_Mo_capital : ByteArray := prog_9_method_16_code
abbrev y_Mo_capital : MethodName := ⟨"LongNamesModel", "capital", "(I)I"⟩
abbrev w_Mo_capital : List Cond := .code y_Mo_capital b_Mo_capital 1 (some .int) :: BIG
theorem d_Mo_capital_0 : decode b_Mo_capital 0 = .ok (.iload_n 0, 1) := by decide +kernel
theorem d_Mo_capital_1 : decode b_Mo_capital 1 = .ok (.bipush 97, 2) := by decide +kernel
theorem d_Mo_capital_3 : decode b_Mo_capital 3 = .ok (.if_icmp .lt 16, 3) := by decide +kernel
theorem d_Mo_capital_6 : decode b_Mo_capital 6 = .ok (.iload_n 0, 1) := by decide +kernel
theorem d_Mo_capital_7 : decode b_Mo_capital 7 = .ok (.bipush 122, 2) := by decide +kernel
theorem d_Mo_capital_9 : decode b_Mo_capital 9 = .ok (.if_icmp .gt 10, 3) := by decide +kernel
theorem d_Mo_capital_12 : decode b_Mo_capital 12 = .ok (.iload_n 0, 1) := by decide +kernel
theorem d_Mo_capital_13 : decode b_Mo_capital 13 = .ok (.bipush 32, 2) := by decide +kernel
theorem d_Mo_capital_15 : decode b_Mo_capital 15 = .ok (.isub, 1) := by decide +kernel
theorem d_Mo_capital_16 : decode b_Mo_capital 16 = .ok (.goto 4, 3) := by decide +kernel
theorem d_Mo_capital_19 : decode b_Mo_capital 19 = .ok (.iload_n 0, 1) := by decide +kernel
theorem d_Mo_capital_20 : decode b_Mo_capital 20 = .ok (.ireturn, 1) := by decide +kernel
abbrev b_Mo_alike : ByteArray := prog_9_method_17_code
abbrev y_Mo_alike : MethodName := ⟨"LongNamesModel", "alike", "()Z"⟩
abbrev w_Mo_alike : List Cond := .code y_Mo_alike b_Mo_alike 3 (some .boolean) :: BIG
theorem d_Mo_alike_0 : decode b_Mo_alike 0 = .ok (.aload_n 0, 1) := by decide +kernel
theorem d_Mo_alike_1 : decode b_Mo_alike 1 = .ok (.iconst 0, 1) := by decide +kernel
theorem d_Mo_alike_2 : decode b_Mo_alike 2 = .ok (.putfield 22, 3) := by decide +kernel
theorem d_Mo_alike_5 : decode b_Mo_alike 5 = .ok (.aload_n 0, 1) := by decide +kernel
theorem d_Mo_alike_6 : decode b_Mo_alike 6 = .ok (.getfield 13, 3) := by decide +kernel
theorem d_Mo_alike_9 : decode b_Mo_alike 9 = .ok (.iconst 0, 1) := by decide +kernel
theorem d_Mo_alike_10 : decode b_Mo_alike 10 = .ok (.iaload, 1) := by decide +kernel
theorem d_Mo_alike_11 : decode b_Mo_alike 11 = .ok (.aload_n 0, 1) := by decide +kernel
theorem d_Mo_alike_12 : decode b_Mo_alike 12 = .ok (.getfield 13, 3) := by decide +kernel
theorem d_Mo_alike_15 : decode b_Mo_alike 15 = .ok (.iconst 1, 1) := by decide +kernel
theorem d_Mo_alike_16 : decode b_Mo_alike 16 = .ok (.iaload, 1) := by decide +kernel
theorem d_Mo_alike_17 : decode b_Mo_alike 17 = .ok (.if_icmp .ne 7, 3) := by decide +kernel
theorem d_Mo_alike_20 : decode b_Mo_alike 20 = .ok (.iconst 1, 1) := by decide +kernel
theorem d_Mo_alike_21 : decode b_Mo_alike 21 = .ok (.goto 4, 3) := by decide +kernel
theorem d_Mo_alike_24 : decode b_Mo_alike 24 = .ok (.iconst 0, 1) := by decide +kernel
theorem d_Mo_alike_25 : decode b_Mo_alike 25 = .ok (.istore_n 1, 1) := by decide +kernel
theorem d_Mo_alike_26 : decode b_Mo_alike 26 = .ok (.iconst 0, 1) := by decide +kernel
theorem d_Mo_alike_27 : decode b_Mo_alike 27 = .ok (.istore_n 2, 1) := by decide +kernel
theorem d_Mo_alike_28 : decode b_Mo_alike 28 = .ok (.iload_n 2, 1) := by decide +kernel
theorem d_Mo_alike_29 : decode b_Mo_alike 29 = .ok (.aload_n 0, 1) := by decide +kernel
theorem d_Mo_alike_30 : decode b_Mo_alike 30 = .ok (.getfield 13, 3) := by decide +kernel
theorem d_Mo_alike_33 : decode b_Mo_alike 33 = .ok (.iconst 0, 1) := by decide +kernel
theorem d_Mo_alike_34 : decode b_Mo_alike 34 = .ok (.iaload, 1) := by decide +kernel
theorem d_Mo_alike_35 : decode b_Mo_alike 35 = .ok (.if_icmp .ge 40, 3) := by decide +kernel
theorem d_Mo_alike_38 : decode b_Mo_alike 38 = .ok (.iload_n 1, 1) := by decide +kernel
theorem d_Mo_alike_39 : decode b_Mo_alike 39 = .ok (.ifCond .eq 36, 3) := by decide +kernel
theorem d_Mo_alike_42 : decode b_Mo_alike 42 = .ok (.aload_n 0, 1) := by decide +kernel
theorem d_Mo_alike_43 : decode b_Mo_alike 43 = .ok (.iconst 0, 1) := by decide +kernel
theorem d_Mo_alike_44 : decode b_Mo_alike 44 = .ok (.iload_n 2, 1) := by decide +kernel
theorem d_Mo_alike_45 : decode b_Mo_alike 45 = .ok (.invokevirtual 34, 3) := by decide +kernel
theorem d_Mo_alike_48 : decode b_Mo_alike 48 = .ok (.invokestatic 60, 3) := by decide +kernel
theorem d_Mo_alike_51 : decode b_Mo_alike 51 = .ok (.aload_n 0, 1) := by decide +kernel
theorem d_Mo_alike_52 : decode b_Mo_alike 52 = .ok (.iconst 1, 1) := by decide +kernel
theorem d_Mo_alike_53 : decode b_Mo_alike 53 = .ok (.iload_n 2, 1) := by decide +kernel
theorem d_Mo_alike_54 : decode b_Mo_alike 54 = .ok (.invokevirtual 34, 3) := by decide +kernel
theorem d_Mo_alike_57 : decode b_Mo_alike 57 = .ok (.invokestatic 60, 3) := by decide +kernel
theorem d_Mo_alike_60 : decode b_Mo_alike 60 = .ok (.if_icmp .ne 7, 3) := by decide +kernel
theorem d_Mo_alike_63 : decode b_Mo_alike 63 = .ok (.iconst 1, 1) := by decide +kernel
theorem d_Mo_alike_64 : decode b_Mo_alike 64 = .ok (.goto 4, 3) := by decide +kernel
theorem d_Mo_alike_67 : decode b_Mo_alike 67 = .ok (.iconst 0, 1) := by decide +kernel
theorem d_Mo_alike_68 : decode b_Mo_alike 68 = .ok (.istore_n 1, 1) := by decide +kernel
theorem d_Mo_alike_69 : decode b_Mo_alike 69 = .ok (.iinc 2 1, 3) := by decide +kernel
theorem d_Mo_alike_72 : decode b_Mo_alike 72 = .ok (.goto (-44), 3) := by decide +kernel
theorem d_Mo_alike_75 : decode b_Mo_alike 75 = .ok (.iload_n 1, 1) := by decide +kernel
theorem d_Mo_alike_76 : decode b_Mo_alike 76 = .ok (.ireturn, 1) := by decide +kernel
abbrev b_Mo_folded : ByteArray := prog_9_method_18_code
abbrev y_Mo_folded : MethodName := ⟨"LongNamesModel", "folded", "(I)I"⟩
abbrev w_Mo_folded : List Cond := .code y_Mo_folded b_Mo_folded 1 (some .int) :: BIG
theorem d_Mo_folded_0 : decode b_Mo_folded 0 = .ok (.iload_n 0, 1) := by decide +kernel
theorem d_Mo_folded_1 : decode b_Mo_folded 1 = .ok (.bipush 32, 2) := by decide +kernel
theorem d_Mo_folded_3 : decode b_Mo_folded 3 = .ok (.if_icmp .eq 9, 3) := by decide +kernel
theorem d_Mo_folded_6 : decode b_Mo_folded 6 = .ok (.iload_n 0, 1) := by decide +kernel
theorem d_Mo_folded_7 : decode b_Mo_folded 7 = .ok (.bipush 46, 2) := by decide +kernel
theorem d_Mo_folded_9 : decode b_Mo_folded 9 = .ok (.if_icmp .ne 5, 3) := by decide +kernel
theorem d_Mo_folded_12 : decode b_Mo_folded 12 = .ok (.iconst 0, 1) := by decide +kernel
theorem d_Mo_folded_13 : decode b_Mo_folded 13 = .ok (.ireturn, 1) := by decide +kernel
theorem d_Mo_folded_14 : decode b_Mo_folded 14 = .ok (.iload_n 0, 1) := by decide +kernel
theorem d_Mo_folded_15 : decode b_Mo_folded 15 = .ok (.invokestatic 60, 3) := by decide +kernel
theorem d_Mo_folded_18 : decode b_Mo_folded 18 = .ok (.invokestatic 45, 3) := by decide +kernel
theorem d_Mo_folded_21 : decode b_Mo_folded 21 = .ok (.ifCond .eq 10, 3) := by decide +kernel
theorem d_Mo_folded_24 : decode b_Mo_folded 24 = .ok (.iload_n 0, 1) := by decide +kernel
theorem d_Mo_folded_25 : decode b_Mo_folded 25 = .ok (.invokestatic 60, 3) := by decide +kernel
theorem d_Mo_folded_28 : decode b_Mo_folded 28 = .ok (.goto 5, 3) := by decide +kernel
theorem d_Mo_folded_31 : decode b_Mo_folded 31 = .ok (.bipush 95, 2) := by decide +kernel
theorem d_Mo_folded_33 : decode b_Mo_folded 33 = .ok (.ireturn, 1) := by decide +kernel
abbrev b_Mo_tailed : ByteArray := prog_9_method_19_code
abbrev y_Mo_tailed : MethodName := ⟨"LongNamesModel", "tailed", "(II)V"⟩
abbrev w_Mo_tailed : List Cond := .code y_Mo_tailed b_Mo_tailed 12 none :: BIG
theorem d_Mo_tailed_0 : decode b_Mo_tailed 0 = .ok (.aload_n 0, 1) := by decide +kernel
theorem d_Mo_tailed_1 : decode b_Mo_tailed 1 = .ok (.getfield 13, 3) := by decide +kernel
theorem d_Mo_tailed_4 : decode b_Mo_tailed 4 = .ok (.iload_n 1, 1) := by decide +kernel
theorem d_Mo_tailed_5 : decode b_Mo_tailed 5 = .ok (.iaload, 1) := by decide +kernel
theorem d_Mo_tailed_6 : decode b_Mo_tailed 6 = .ok (.istore_n 3, 1) := by decide +kernel
theorem d_Mo_tailed_7 : decode b_Mo_tailed 7 = .ok (.iload_n 3, 1) := by decide +kernel
theorem d_Mo_tailed_8 : decode b_Mo_tailed 8 = .ok (.iconst 1, 1) := by decide +kernel
theorem d_Mo_tailed_9 : decode b_Mo_tailed 9 = .ok (.isub, 1) := by decide +kernel
theorem d_Mo_tailed_10 : decode b_Mo_tailed 10 = .ok (.istore 4, 2) := by decide +kernel
theorem d_Mo_tailed_12 : decode b_Mo_tailed 12 = .ok (.iload 4, 2) := by decide +kernel
theorem d_Mo_tailed_14 : decode b_Mo_tailed 14 = .ok (.ifCond .le 21, 3) := by decide +kernel
theorem d_Mo_tailed_17 : decode b_Mo_tailed 17 = .ok (.aload_n 0, 1) := by decide +kernel
theorem d_Mo_tailed_18 : decode b_Mo_tailed 18 = .ok (.iload_n 1, 1) := by decide +kernel
theorem d_Mo_tailed_19 : decode b_Mo_tailed 19 = .ok (.iload 4, 2) := by decide +kernel
theorem d_Mo_tailed_21 : decode b_Mo_tailed 21 = .ok (.invokevirtual 34, 3) := by decide +kernel
theorem d_Mo_tailed_24 : decode b_Mo_tailed 24 = .ok (.bipush 46, 2) := by decide +kernel
theorem d_Mo_tailed_26 : decode b_Mo_tailed 26 = .ok (.if_icmp .eq 9, 3) := by decide +kernel
theorem d_Mo_tailed_29 : decode b_Mo_tailed 29 = .ok (.iinc 4 (-1), 3) := by decide +kernel
theorem d_Mo_tailed_32 : decode b_Mo_tailed 32 = .ok (.goto (-20), 3) := by decide +kernel
theorem d_Mo_tailed_35 : decode b_Mo_tailed 35 = .ok (.iload_n 2, 1) := by decide +kernel
theorem d_Mo_tailed_36 : decode b_Mo_tailed 36 = .ok (.sipush 999, 3) := by decide +kernel
theorem d_Mo_tailed_39 : decode b_Mo_tailed 39 = .ok (.if_icmp .le 7, 3) := by decide +kernel
theorem d_Mo_tailed_42 : decode b_Mo_tailed 42 = .ok (.iconst 4, 1) := by decide +kernel
theorem d_Mo_tailed_43 : decode b_Mo_tailed 43 = .ok (.goto 24, 3) := by decide +kernel
theorem d_Mo_tailed_46 : decode b_Mo_tailed 46 = .ok (.iload_n 2, 1) := by decide +kernel
theorem d_Mo_tailed_47 : decode b_Mo_tailed 47 = .ok (.bipush 99, 2) := by decide +kernel
theorem d_Mo_tailed_49 : decode b_Mo_tailed 49 = .ok (.if_icmp .le 7, 3) := by decide +kernel
theorem d_Mo_tailed_52 : decode b_Mo_tailed 52 = .ok (.iconst 3, 1) := by decide +kernel
theorem d_Mo_tailed_53 : decode b_Mo_tailed 53 = .ok (.goto 14, 3) := by decide +kernel
theorem d_Mo_tailed_56 : decode b_Mo_tailed 56 = .ok (.iload_n 2, 1) := by decide +kernel
theorem d_Mo_tailed_57 : decode b_Mo_tailed 57 = .ok (.bipush 9, 2) := by decide +kernel
theorem d_Mo_tailed_59 : decode b_Mo_tailed 59 = .ok (.if_icmp .le 7, 3) := by decide +kernel
theorem d_Mo_tailed_62 : decode b_Mo_tailed 62 = .ok (.iconst 2, 1) := by decide +kernel
theorem d_Mo_tailed_63 : decode b_Mo_tailed 63 = .ok (.goto 4, 3) := by decide +kernel
theorem d_Mo_tailed_66 : decode b_Mo_tailed 66 = .ok (.iconst 1, 1) := by decide +kernel
theorem d_Mo_tailed_67 : decode b_Mo_tailed 67 = .ok (.istore 5, 2) := by decide +kernel
theorem d_Mo_tailed_69 : decode b_Mo_tailed 69 = .ok (.iconst 0, 1) := by decide +kernel
theorem d_Mo_tailed_70 : decode b_Mo_tailed 70 = .ok (.istore 6, 2) := by decide +kernel
theorem d_Mo_tailed_72 : decode b_Mo_tailed 72 = .ok (.iload 6, 2) := by decide +kernel
theorem d_Mo_tailed_74 : decode b_Mo_tailed 74 = .ok (.bipush 11, 2) := by decide +kernel
theorem d_Mo_tailed_76 : decode b_Mo_tailed 76 = .ok (.if_icmp .ge 18, 3) := by decide +kernel
theorem d_Mo_tailed_79 : decode b_Mo_tailed 79 = .ok (.aload_n 0, 1) := by decide +kernel
theorem d_Mo_tailed_80 : decode b_Mo_tailed 80 = .ok (.getfield 19, 3) := by decide +kernel
theorem d_Mo_tailed_83 : decode b_Mo_tailed 83 = .ok (.iload 6, 2) := by decide +kernel
theorem d_Mo_tailed_85 : decode b_Mo_tailed 85 = .ok (.bipush 32, 2) := by decide +kernel
theorem d_Mo_tailed_87 : decode b_Mo_tailed 87 = .ok (.iastore, 1) := by decide +kernel
theorem d_Mo_tailed_88 : decode b_Mo_tailed 88 = .ok (.iinc 6 1, 3) := by decide +kernel
theorem d_Mo_tailed_91 : decode b_Mo_tailed 91 = .ok (.goto (-19), 3) := by decide +kernel
theorem d_Mo_tailed_94 : decode b_Mo_tailed 94 = .ok (.iload 4, 2) := by decide +kernel
theorem d_Mo_tailed_96 : decode b_Mo_tailed 96 = .ok (.ifCond .le 8, 3) := by decide +kernel
theorem d_Mo_tailed_99 : decode b_Mo_tailed 99 = .ok (.iload 4, 2) := by decide +kernel
theorem d_Mo_tailed_101 : decode b_Mo_tailed 101 = .ok (.goto 4, 3) := by decide +kernel
theorem d_Mo_tailed_104 : decode b_Mo_tailed 104 = .ok (.iload_n 3, 1) := by decide +kernel
theorem d_Mo_tailed_105 : decode b_Mo_tailed 105 = .ok (.istore 6, 2) := by decide +kernel
theorem d_Mo_tailed_107 : decode b_Mo_tailed 107 = .ok (.iconst 0, 1) := by decide +kernel
theorem d_Mo_tailed_108 : decode b_Mo_tailed 108 = .ok (.istore 7, 2) := by decide +kernel
theorem d_Mo_tailed_110 : decode b_Mo_tailed 110 = .ok (.iconst 0, 1) := by decide +kernel
theorem d_Mo_tailed_111 : decode b_Mo_tailed 111 = .ok (.istore 8, 2) := by decide +kernel
theorem d_Mo_tailed_113 : decode b_Mo_tailed 113 = .ok (.iload 8, 2) := by decide +kernel
theorem d_Mo_tailed_115 : decode b_Mo_tailed 115 = .ok (.iload 6, 2) := by decide +kernel
theorem d_Mo_tailed_117 : decode b_Mo_tailed 117 = .ok (.if_icmp .ge 51, 3) := by decide +kernel
theorem d_Mo_tailed_120 : decode b_Mo_tailed 120 = .ok (.aload_n 0, 1) := by decide +kernel
theorem d_Mo_tailed_121 : decode b_Mo_tailed 121 = .ok (.iload_n 1, 1) := by decide +kernel
theorem d_Mo_tailed_122 : decode b_Mo_tailed 122 = .ok (.iload 8, 2) := by decide +kernel
theorem d_Mo_tailed_124 : decode b_Mo_tailed 124 = .ok (.invokevirtual 34, 3) := by decide +kernel
theorem d_Mo_tailed_127 : decode b_Mo_tailed 127 = .ok (.invokestatic 63, 3) := by decide +kernel
theorem d_Mo_tailed_130 : decode b_Mo_tailed 130 = .ok (.istore 9, 2) := by decide +kernel
theorem d_Mo_tailed_132 : decode b_Mo_tailed 132 = .ok (.iload 9, 2) := by decide +kernel
theorem d_Mo_tailed_134 : decode b_Mo_tailed 134 = .ok (.ifCond .eq 28, 3) := by decide +kernel
theorem d_Mo_tailed_137 : decode b_Mo_tailed 137 = .ok (.iload 7, 2) := by decide +kernel
theorem d_Mo_tailed_139 : decode b_Mo_tailed 139 = .ok (.bipush 7, 2) := by decide +kernel
theorem d_Mo_tailed_141 : decode b_Mo_tailed 141 = .ok (.iload 5, 2) := by decide +kernel
theorem d_Mo_tailed_143 : decode b_Mo_tailed 143 = .ok (.isub, 1) := by decide +kernel
theorem d_Mo_tailed_144 : decode b_Mo_tailed 144 = .ok (.if_icmp .ne 6, 3) := by decide +kernel
theorem d_Mo_tailed_147 : decode b_Mo_tailed 147 = .ok (.goto 15, 3) := by decide +kernel
theorem d_Mo_tailed_150 : decode b_Mo_tailed 150 = .ok (.aload_n 0, 1) := by decide +kernel
theorem d_Mo_tailed_151 : decode b_Mo_tailed 151 = .ok (.getfield 19, 3) := by decide +kernel
theorem d_Mo_tailed_154 : decode b_Mo_tailed 154 = .ok (.iload 7, 2) := by decide +kernel
theorem d_Mo_tailed_156 : decode b_Mo_tailed 156 = .ok (.iload 9, 2) := by decide +kernel
theorem d_Mo_tailed_158 : decode b_Mo_tailed 158 = .ok (.iastore, 1) := by decide +kernel
theorem d_Mo_tailed_159 : decode b_Mo_tailed 159 = .ok (.iinc 7 1, 3) := by decide +kernel
theorem d_Mo_tailed_162 : decode b_Mo_tailed 162 = .ok (.iinc 8 1, 3) := by decide +kernel
theorem d_Mo_tailed_165 : decode b_Mo_tailed 165 = .ok (.goto (-52), 3) := by decide +kernel
theorem d_Mo_tailed_168 : decode b_Mo_tailed 168 = .ok (.aload_n 0, 1) := by decide +kernel
theorem d_Mo_tailed_169 : decode b_Mo_tailed 169 = .ok (.getfield 19, 3) := by decide +kernel
theorem d_Mo_tailed_172 : decode b_Mo_tailed 172 = .ok (.iload 7, 2) := by decide +kernel
theorem d_Mo_tailed_174 : decode b_Mo_tailed 174 = .ok (.bipush 126, 2) := by decide +kernel
theorem d_Mo_tailed_176 : decode b_Mo_tailed 176 = .ok (.iastore, 1) := by decide +kernel
theorem d_Mo_tailed_177 : decode b_Mo_tailed 177 = .ok (.iload_n 2, 1) := by decide +kernel
theorem d_Mo_tailed_178 : decode b_Mo_tailed 178 = .ok (.istore 8, 2) := by decide +kernel
theorem d_Mo_tailed_180 : decode b_Mo_tailed 180 = .ok (.iload 7, 2) := by decide +kernel
theorem d_Mo_tailed_182 : decode b_Mo_tailed 182 = .ok (.iload 5, 2) := by decide +kernel
theorem d_Mo_tailed_184 : decode b_Mo_tailed 184 = .ok (.iadd, 1) := by decide +kernel
theorem d_Mo_tailed_185 : decode b_Mo_tailed 185 = .ok (.istore 9, 2) := by decide +kernel
theorem d_Mo_tailed_187 : decode b_Mo_tailed 187 = .ok (.iload 9, 2) := by decide +kernel
theorem d_Mo_tailed_189 : decode b_Mo_tailed 189 = .ok (.iload 7, 2) := by decide +kernel
theorem d_Mo_tailed_191 : decode b_Mo_tailed 191 = .ok (.if_icmp .le 31, 3) := by decide +kernel
theorem d_Mo_tailed_194 : decode b_Mo_tailed 194 = .ok (.aload_n 0, 1) := by decide +kernel
theorem d_Mo_tailed_195 : decode b_Mo_tailed 195 = .ok (.getfield 19, 3) := by decide +kernel
theorem d_Mo_tailed_198 : decode b_Mo_tailed 198 = .ok (.iload 9, 2) := by decide +kernel
theorem d_Mo_tailed_200 : decode b_Mo_tailed 200 = .ok (.bipush 48, 2) := by decide +kernel
theorem d_Mo_tailed_202 : decode b_Mo_tailed 202 = .ok (.iload 8, 2) := by decide +kernel
theorem d_Mo_tailed_204 : decode b_Mo_tailed 204 = .ok (.bipush 10, 2) := by decide +kernel
theorem d_Mo_tailed_206 : decode b_Mo_tailed 206 = .ok (.irem, 1) := by decide +kernel
theorem d_Mo_tailed_207 : decode b_Mo_tailed 207 = .ok (.iadd, 1) := by decide +kernel
theorem d_Mo_tailed_208 : decode b_Mo_tailed 208 = .ok (.iastore, 1) := by decide +kernel
theorem d_Mo_tailed_209 : decode b_Mo_tailed 209 = .ok (.iload 8, 2) := by decide +kernel
theorem d_Mo_tailed_211 : decode b_Mo_tailed 211 = .ok (.bipush 10, 2) := by decide +kernel
theorem d_Mo_tailed_213 : decode b_Mo_tailed 213 = .ok (.idiv, 1) := by decide +kernel
theorem d_Mo_tailed_214 : decode b_Mo_tailed 214 = .ok (.istore 8, 2) := by decide +kernel
theorem d_Mo_tailed_216 : decode b_Mo_tailed 216 = .ok (.iinc 9 (-1), 3) := by decide +kernel
theorem d_Mo_tailed_219 : decode b_Mo_tailed 219 = .ok (.goto (-32), 3) := by decide +kernel
theorem d_Mo_tailed_222 : decode b_Mo_tailed 222 = .ok (.bipush 8, 2) := by decide +kernel
theorem d_Mo_tailed_224 : decode b_Mo_tailed 224 = .ok (.istore 9, 2) := by decide +kernel
theorem d_Mo_tailed_226 : decode b_Mo_tailed 226 = .ok (.iload 4, 2) := by decide +kernel
theorem d_Mo_tailed_228 : decode b_Mo_tailed 228 = .ok (.iconst 1, 1) := by decide +kernel
theorem d_Mo_tailed_229 : decode b_Mo_tailed 229 = .ok (.iadd, 1) := by decide +kernel
theorem d_Mo_tailed_230 : decode b_Mo_tailed 230 = .ok (.istore 10, 2) := by decide +kernel
theorem d_Mo_tailed_232 : decode b_Mo_tailed 232 = .ok (.iload 10, 2) := by decide +kernel
theorem d_Mo_tailed_234 : decode b_Mo_tailed 234 = .ok (.iload_n 3, 1) := by decide +kernel
theorem d_Mo_tailed_235 : decode b_Mo_tailed 235 = .ok (.if_icmp .ge 53, 3) := by decide +kernel
theorem d_Mo_tailed_238 : decode b_Mo_tailed 238 = .ok (.iload 4, 2) := by decide +kernel
theorem d_Mo_tailed_240 : decode b_Mo_tailed 240 = .ok (.ifCond .le 48, 3) := by decide +kernel
theorem d_Mo_tailed_243 : decode b_Mo_tailed 243 = .ok (.aload_n 0, 1) := by decide +kernel
theorem d_Mo_tailed_244 : decode b_Mo_tailed 244 = .ok (.iload_n 1, 1) := by decide +kernel
theorem d_Mo_tailed_245 : decode b_Mo_tailed 245 = .ok (.iload 10, 2) := by decide +kernel
theorem d_Mo_tailed_247 : decode b_Mo_tailed 247 = .ok (.invokevirtual 34, 3) := by decide +kernel
theorem d_Mo_tailed_250 : decode b_Mo_tailed 250 = .ok (.invokestatic 63, 3) := by decide +kernel
theorem d_Mo_tailed_253 : decode b_Mo_tailed 253 = .ok (.istore 11, 2) := by decide +kernel
theorem d_Mo_tailed_255 : decode b_Mo_tailed 255 = .ok (.iload 11, 2) := by decide +kernel
theorem d_Mo_tailed_257 : decode b_Mo_tailed 257 = .ok (.ifCond .eq 25, 3) := by decide +kernel
theorem d_Mo_tailed_260 : decode b_Mo_tailed 260 = .ok (.iload 9, 2) := by decide +kernel
theorem d_Mo_tailed_262 : decode b_Mo_tailed 262 = .ok (.bipush 11, 2) := by decide +kernel
theorem d_Mo_tailed_264 : decode b_Mo_tailed 264 = .ok (.if_icmp .ne 6, 3) := by decide +kernel
theorem d_Mo_tailed_267 : decode b_Mo_tailed 267 = .ok (.goto 15, 3) := by decide +kernel
theorem d_Mo_tailed_270 : decode b_Mo_tailed 270 = .ok (.aload_n 0, 1) := by decide +kernel
theorem d_Mo_tailed_271 : decode b_Mo_tailed 271 = .ok (.getfield 19, 3) := by decide +kernel
theorem d_Mo_tailed_274 : decode b_Mo_tailed 274 = .ok (.iload 9, 2) := by decide +kernel
theorem d_Mo_tailed_276 : decode b_Mo_tailed 276 = .ok (.iload 11, 2) := by decide +kernel
theorem d_Mo_tailed_278 : decode b_Mo_tailed 278 = .ok (.iastore, 1) := by decide +kernel
theorem d_Mo_tailed_279 : decode b_Mo_tailed 279 = .ok (.iinc 9 1, 3) := by decide +kernel
theorem d_Mo_tailed_282 : decode b_Mo_tailed 282 = .ok (.iinc 10 1, 3) := by decide +kernel
theorem d_Mo_tailed_285 : decode b_Mo_tailed 285 = .ok (.goto (-53), 3) := by decide +kernel
theorem d_Mo_tailed_288 : decode b_Mo_tailed 288 = .ok (.return_, 1) := by decide +kernel
abbrev b_Mo_sumOf : ByteArray := prog_9_method_20_code
abbrev y_Mo_sumOf : MethodName := ⟨"LongNamesModel", "sumOf", "(I)I"⟩
abbrev w_Mo_sumOf : List Cond := .code y_Mo_sumOf b_Mo_sumOf 4 (some .int) :: BIG
theorem d_Mo_sumOf_0 : decode b_Mo_sumOf 0 = .ok (.iconst 0, 1) := by decide +kernel
theorem d_Mo_sumOf_1 : decode b_Mo_sumOf 1 = .ok (.istore_n 2, 1) := by decide +kernel
theorem d_Mo_sumOf_2 : decode b_Mo_sumOf 2 = .ok (.iconst 0, 1) := by decide +kernel
theorem d_Mo_sumOf_3 : decode b_Mo_sumOf 3 = .ok (.istore_n 3, 1) := by decide +kernel
theorem d_Mo_sumOf_4 : decode b_Mo_sumOf 4 = .ok (.iload_n 3, 1) := by decide +kernel
theorem d_Mo_sumOf_5 : decode b_Mo_sumOf 5 = .ok (.bipush 11, 2) := by decide +kernel
theorem d_Mo_sumOf_7 : decode b_Mo_sumOf 7 = .ok (.if_icmp .ge 34, 3) := by decide +kernel
theorem d_Mo_sumOf_10 : decode b_Mo_sumOf 10 = .ok (.iload_n 2, 1) := by decide +kernel
theorem d_Mo_sumOf_11 : decode b_Mo_sumOf 11 = .ok (.iconst 2, 1) := by decide +kernel
theorem d_Mo_sumOf_12 : decode b_Mo_sumOf 12 = .ok (.idiv, 1) := by decide +kernel
theorem d_Mo_sumOf_13 : decode b_Mo_sumOf 13 = .ok (.iload_n 2, 1) := by decide +kernel
theorem d_Mo_sumOf_14 : decode b_Mo_sumOf 14 = .ok (.iconst 2, 1) := by decide +kernel
theorem d_Mo_sumOf_15 : decode b_Mo_sumOf 15 = .ok (.irem, 1) := by decide +kernel
theorem d_Mo_sumOf_16 : decode b_Mo_sumOf 16 = .ok (.sipush 128, 3) := by decide +kernel
theorem d_Mo_sumOf_19 : decode b_Mo_sumOf 19 = .ok (.imul, 1) := by decide +kernel
theorem d_Mo_sumOf_20 : decode b_Mo_sumOf 20 = .ok (.iadd, 1) := by decide +kernel
theorem d_Mo_sumOf_21 : decode b_Mo_sumOf 21 = .ok (.aload_n 0, 1) := by decide +kernel
theorem d_Mo_sumOf_22 : decode b_Mo_sumOf 22 = .ok (.getfield 16, 3) := by decide +kernel
theorem d_Mo_sumOf_25 : decode b_Mo_sumOf 25 = .ok (.iload_n 1, 1) := by decide +kernel
theorem d_Mo_sumOf_26 : decode b_Mo_sumOf 26 = .ok (.iload_n 3, 1) := by decide +kernel
theorem d_Mo_sumOf_27 : decode b_Mo_sumOf 27 = .ok (.iadd, 1) := by decide +kernel
theorem d_Mo_sumOf_28 : decode b_Mo_sumOf 28 = .ok (.iaload, 1) := by decide +kernel
theorem d_Mo_sumOf_29 : decode b_Mo_sumOf 29 = .ok (.iadd, 1) := by decide +kernel
theorem d_Mo_sumOf_30 : decode b_Mo_sumOf 30 = .ok (.sipush 256, 3) := by decide +kernel
theorem d_Mo_sumOf_33 : decode b_Mo_sumOf 33 = .ok (.irem, 1) := by decide +kernel
theorem d_Mo_sumOf_34 : decode b_Mo_sumOf 34 = .ok (.istore_n 2, 1) := by decide +kernel
theorem d_Mo_sumOf_35 : decode b_Mo_sumOf 35 = .ok (.iinc 3 1, 3) := by decide +kernel
theorem d_Mo_sumOf_38 : decode b_Mo_sumOf 38 = .ok (.goto (-34), 3) := by decide +kernel
theorem d_Mo_sumOf_41 : decode b_Mo_sumOf 41 = .ok (.iload_n 2, 1) := by decide +kernel
theorem d_Mo_sumOf_42 : decode b_Mo_sumOf 42 = .ok (.ireturn, 1) := by decide +kernel
abbrev b_Mo_placeOf : ByteArray := prog_9_method_21_code
abbrev y_Mo_placeOf : MethodName := ⟨"LongNamesModel", "placeOf", "(I)I"⟩
abbrev w_Mo_placeOf : List Cond := .code y_Mo_placeOf b_Mo_placeOf 1 (some .int) :: BIG
theorem d_Mo_placeOf_0 : decode b_Mo_placeOf 0 = .ok (.iload_n 0, 1) := by decide +kernel
theorem d_Mo_placeOf_1 : decode b_Mo_placeOf 1 = .ok (.iconst 5, 1) := by decide +kernel
theorem d_Mo_placeOf_2 : decode b_Mo_placeOf 2 = .ok (.if_icmp .ge 11, 3) := by decide +kernel
theorem d_Mo_placeOf_5 : decode b_Mo_placeOf 5 = .ok (.iconst 1, 1) := by decide +kernel
theorem d_Mo_placeOf_6 : decode b_Mo_placeOf 6 = .ok (.iconst 2, 1) := by decide +kernel
theorem d_Mo_placeOf_7 : decode b_Mo_placeOf 7 = .ok (.iload_n 0, 1) := by decide +kernel
theorem d_Mo_placeOf_8 : decode b_Mo_placeOf 8 = .ok (.imul, 1) := by decide +kernel
theorem d_Mo_placeOf_9 : decode b_Mo_placeOf 9 = .ok (.iadd, 1) := by decide +kernel
theorem d_Mo_placeOf_10 : decode b_Mo_placeOf 10 = .ok (.goto 29, 3) := by decide +kernel
theorem d_Mo_placeOf_13 : decode b_Mo_placeOf 13 = .ok (.iload_n 0, 1) := by decide +kernel
theorem d_Mo_placeOf_14 : decode b_Mo_placeOf 14 = .ok (.bipush 11, 2) := by decide +kernel
theorem d_Mo_placeOf_16 : decode b_Mo_placeOf 16 = .ok (.if_icmp .ge 14, 3) := by decide +kernel
theorem d_Mo_placeOf_19 : decode b_Mo_placeOf 19 = .ok (.bipush 14, 2) := by decide +kernel
theorem d_Mo_placeOf_21 : decode b_Mo_placeOf 21 = .ok (.iconst 2, 1) := by decide +kernel
theorem d_Mo_placeOf_22 : decode b_Mo_placeOf 22 = .ok (.iload_n 0, 1) := by decide +kernel
theorem d_Mo_placeOf_23 : decode b_Mo_placeOf 23 = .ok (.iconst 5, 1) := by decide +kernel
theorem d_Mo_placeOf_24 : decode b_Mo_placeOf 24 = .ok (.isub, 1) := by decide +kernel
theorem d_Mo_placeOf_25 : decode b_Mo_placeOf 25 = .ok (.imul, 1) := by decide +kernel
theorem d_Mo_placeOf_26 : decode b_Mo_placeOf 26 = .ok (.iadd, 1) := by decide +kernel
theorem d_Mo_placeOf_27 : decode b_Mo_placeOf 27 = .ok (.goto 12, 3) := by decide +kernel
theorem d_Mo_placeOf_30 : decode b_Mo_placeOf 30 = .ok (.bipush 28, 2) := by decide +kernel
theorem d_Mo_placeOf_32 : decode b_Mo_placeOf 32 = .ok (.iconst 2, 1) := by decide +kernel
theorem d_Mo_placeOf_33 : decode b_Mo_placeOf 33 = .ok (.iload_n 0, 1) := by decide +kernel
theorem d_Mo_placeOf_34 : decode b_Mo_placeOf 34 = .ok (.bipush 11, 2) := by decide +kernel
theorem d_Mo_placeOf_36 : decode b_Mo_placeOf 36 = .ok (.isub, 1) := by decide +kernel
theorem d_Mo_placeOf_37 : decode b_Mo_placeOf 37 = .ok (.imul, 1) := by decide +kernel
theorem d_Mo_placeOf_38 : decode b_Mo_placeOf 38 = .ok (.iadd, 1) := by decide +kernel
theorem d_Mo_placeOf_39 : decode b_Mo_placeOf 39 = .ok (.ireturn, 1) := by decide +kernel
abbrev b_Mo_due : ByteArray := prog_9_method_22_code
abbrev y_Mo_due : MethodName := ⟨"LongNamesModel", "due", "(IIZI)I"⟩
abbrev w_Mo_due : List Cond := .code y_Mo_due b_Mo_due 4 (some .int) :: BIG
theorem d_Mo_due_0 : decode b_Mo_due 0 = .ok (.iload_n 0, 1) := by decide +kernel
theorem d_Mo_due_1 : decode b_Mo_due 1 = .ok (.lookupswitch 53 #[(0, 35), (11, 48), (13, 51)], 35) := by decide +kernel
theorem d_Mo_due_36 : decode b_Mo_due 36 = .ok (.iload_n 1, 1) := by decide +kernel
theorem d_Mo_due_37 : decode b_Mo_due 37 = .ok (.iload_n 2, 1) := by decide +kernel
theorem d_Mo_due_38 : decode b_Mo_due 38 = .ok (.ifCond .eq 8, 3) := by decide +kernel
theorem d_Mo_due_41 : decode b_Mo_due 41 = .ok (.bipush 64, 2) := by decide +kernel
theorem d_Mo_due_43 : decode b_Mo_due 43 = .ok (.goto 4, 3) := by decide +kernel
theorem d_Mo_due_46 : decode b_Mo_due 46 = .ok (.iconst 0, 1) := by decide +kernel
theorem d_Mo_due_47 : decode b_Mo_due 47 = .ok (.iadd, 1) := by decide +kernel
theorem d_Mo_due_48 : decode b_Mo_due 48 = .ok (.ireturn, 1) := by decide +kernel
theorem d_Mo_due_49 : decode b_Mo_due 49 = .ok (.bipush 15, 2) := by decide +kernel
theorem d_Mo_due_51 : decode b_Mo_due 51 = .ok (.ireturn, 1) := by decide +kernel
theorem d_Mo_due_52 : decode b_Mo_due 52 = .ok (.iload_n 3, 1) := by decide +kernel
theorem d_Mo_due_53 : decode b_Mo_due 53 = .ok (.ireturn, 1) := by decide +kernel
theorem d_Mo_due_54 : decode b_Mo_due 54 = .ok (.iconst 0, 1) := by decide +kernel
theorem d_Mo_due_55 : decode b_Mo_due 55 = .ok (.ireturn, 1) := by decide +kernel
abbrev b_Mo_write : ByteArray := prog_9_method_23_code
abbrev y_Mo_write : MethodName := ⟨"LongNamesModel", "write", "(III)I"⟩
abbrev w_Mo_write : List Cond := .code y_Mo_write b_Mo_write 12 (some .int) :: BIG
theorem d_Mo_write_0 : decode b_Mo_write 0 = .ok (.aload_n 0, 1) := by decide +kernel
theorem d_Mo_write_1 : decode b_Mo_write 1 = .ok (.iload_n 1, 1) := by decide +kernel
theorem d_Mo_write_2 : decode b_Mo_write 2 = .ok (.invokestatic 26, 3) := by decide +kernel
theorem d_Mo_write_5 : decode b_Mo_write 5 = .ok (.ifCond .eq 34, 3) := by decide +kernel
theorem d_Mo_write_8 : decode b_Mo_write 8 = .ok (.aload_n 0, 1) := by decide +kernel
theorem d_Mo_write_9 : decode b_Mo_write 9 = .ok (.iload_n 1, 1) := by decide +kernel
theorem d_Mo_write_10 : decode b_Mo_write 10 = .ok (.invokevirtual 48, 3) := by decide +kernel
theorem d_Mo_write_13 : decode b_Mo_write 13 = .ok (.ifCond .eq 26, 3) := by decide +kernel
theorem d_Mo_write_16 : decode b_Mo_write 16 = .ok (.iload_n 3, 1) := by decide +kernel
theorem d_Mo_write_17 : decode b_Mo_write 17 = .ok (.ifCond .lt 22, 3) := by decide +kernel
theorem d_Mo_write_20 : decode b_Mo_write 20 = .ok (.iload_n 3, 1) := by decide +kernel
theorem d_Mo_write_21 : decode b_Mo_write 21 = .ok (.sipush 9999, 3) := by decide +kernel
theorem d_Mo_write_24 : decode b_Mo_write 24 = .ok (.if_icmp .gt 15, 3) := by decide +kernel
theorem d_Mo_write_27 : decode b_Mo_write 27 = .ok (.iload_n 3, 1) := by decide +kernel
theorem d_Mo_write_28 : decode b_Mo_write 28 = .ok (.ifCond .ne 15, 3) := by decide +kernel
theorem d_Mo_write_31 : decode b_Mo_write 31 = .ok (.aload_n 0, 1) := by decide +kernel
theorem d_Mo_write_32 : decode b_Mo_write 32 = .ok (.iload_n 1, 1) := by decide +kernel
theorem d_Mo_write_33 : decode b_Mo_write 33 = .ok (.invokevirtual 51, 3) := by decide +kernel
theorem d_Mo_write_36 : decode b_Mo_write 36 = .ok (.ifCond .ne 7, 3) := by decide +kernel
theorem d_Mo_write_39 : decode b_Mo_write 39 = .ok (.iconst 1, 1) := by decide +kernel
theorem d_Mo_write_40 : decode b_Mo_write 40 = .ok (.goto 4, 3) := by decide +kernel
theorem d_Mo_write_43 : decode b_Mo_write 43 = .ok (.iconst 0, 1) := by decide +kernel
theorem d_Mo_write_44 : decode b_Mo_write 44 = .ok (.putfield 22, 3) := by decide +kernel
theorem d_Mo_write_47 : decode b_Mo_write 47 = .ok (.aload_n 0, 1) := by decide +kernel
theorem d_Mo_write_48 : decode b_Mo_write 48 = .ok (.getfield 22, 3) := by decide +kernel
theorem d_Mo_write_51 : decode b_Mo_write 51 = .ok (.ifCond .le 5, 3) := by decide +kernel
theorem d_Mo_write_54 : decode b_Mo_write 54 = .ok (.iconst 0, 1) := by decide +kernel
theorem d_Mo_write_55 : decode b_Mo_write 55 = .ok (.ireturn, 1) := by decide +kernel
theorem d_Mo_write_56 : decode b_Mo_write 56 = .ok (.aload_n 0, 1) := by decide +kernel
theorem d_Mo_write_57 : decode b_Mo_write 57 = .ok (.getfield 13, 3) := by decide +kernel
theorem d_Mo_write_60 : decode b_Mo_write 60 = .ok (.iload_n 1, 1) := by decide +kernel
theorem d_Mo_write_61 : decode b_Mo_write 61 = .ok (.iaload, 1) := by decide +kernel
theorem d_Mo_write_62 : decode b_Mo_write 62 = .ok (.istore 4, 2) := by decide +kernel
theorem d_Mo_write_64 : decode b_Mo_write 64 = .ok (.iload_n 3, 1) := by decide +kernel
theorem d_Mo_write_65 : decode b_Mo_write 65 = .ok (.ifCond .ne 7, 3) := by decide +kernel
theorem d_Mo_write_68 : decode b_Mo_write 68 = .ok (.iconst 0, 1) := by decide +kernel
theorem d_Mo_write_69 : decode b_Mo_write 69 = .ok (.goto 8, 3) := by decide +kernel
theorem d_Mo_write_72 : decode b_Mo_write 72 = .ok (.iload 4, 2) := by decide +kernel
theorem d_Mo_write_74 : decode b_Mo_write 74 = .ok (.invokestatic 54, 3) := by decide +kernel
theorem d_Mo_write_77 : decode b_Mo_write 77 = .ok (.istore 5, 2) := by decide +kernel
theorem d_Mo_write_79 : decode b_Mo_write 79 = .ok (.aload_n 0, 1) := by decide +kernel
theorem d_Mo_write_80 : decode b_Mo_write 80 = .ok (.iload_n 2, 1) := by decide +kernel
theorem d_Mo_write_81 : decode b_Mo_write 81 = .ok (.ifCond .lt 12, 3) := by decide +kernel
theorem d_Mo_write_84 : decode b_Mo_write 84 = .ok (.iload_n 2, 1) := by decide +kernel
theorem d_Mo_write_85 : decode b_Mo_write 85 = .ok (.bipush 31, 2) := by decide +kernel
theorem d_Mo_write_87 : decode b_Mo_write 87 = .ok (.iload 5, 2) := by decide +kernel
theorem d_Mo_write_89 : decode b_Mo_write 89 = .ok (.isub, 1) := by decide +kernel
theorem d_Mo_write_90 : decode b_Mo_write 90 = .ok (.if_icmp .le 7, 3) := by decide +kernel
theorem d_Mo_write_93 : decode b_Mo_write 93 = .ok (.iconst 2, 1) := by decide +kernel
theorem d_Mo_write_94 : decode b_Mo_write 94 = .ok (.goto 4, 3) := by decide +kernel
theorem d_Mo_write_97 : decode b_Mo_write 97 = .ok (.iconst 0, 1) := by decide +kernel
theorem d_Mo_write_98 : decode b_Mo_write 98 = .ok (.putfield 22, 3) := by decide +kernel
theorem d_Mo_write_101 : decode b_Mo_write 101 = .ok (.aload_n 0, 1) := by decide +kernel
theorem d_Mo_write_102 : decode b_Mo_write 102 = .ok (.getfield 22, 3) := by decide +kernel
theorem d_Mo_write_105 : decode b_Mo_write 105 = .ok (.ifCond .le 5, 3) := by decide +kernel
theorem d_Mo_write_108 : decode b_Mo_write 108 = .ok (.iconst 0, 1) := by decide +kernel
theorem d_Mo_write_109 : decode b_Mo_write 109 = .ok (.ireturn, 1) := by decide +kernel
theorem d_Mo_write_110 : decode b_Mo_write 110 = .ok (.iload_n 3, 1) := by decide +kernel
theorem d_Mo_write_111 : decode b_Mo_write 111 = .ok (.ifCond .le 9, 3) := by decide +kernel
theorem d_Mo_write_114 : decode b_Mo_write 114 = .ok (.aload_n 0, 1) := by decide +kernel
theorem d_Mo_write_115 : decode b_Mo_write 115 = .ok (.iload_n 1, 1) := by decide +kernel
theorem d_Mo_write_116 : decode b_Mo_write 116 = .ok (.iload_n 3, 1) := by decide +kernel
theorem d_Mo_write_117 : decode b_Mo_write 117 = .ok (.invokevirtual 66, 3) := by decide +kernel
theorem d_Mo_write_120 : decode b_Mo_write 120 = .ok (.iconst 0, 1) := by decide +kernel
theorem d_Mo_write_121 : decode b_Mo_write 121 = .ok (.istore 6, 2) := by decide +kernel
theorem d_Mo_write_123 : decode b_Mo_write 123 = .ok (.iload 6, 2) := by decide +kernel
theorem d_Mo_write_125 : decode b_Mo_write 125 = .ok (.bipush 32, 2) := by decide +kernel
theorem d_Mo_write_127 : decode b_Mo_write 127 = .ok (.iload 5, 2) := by decide +kernel
theorem d_Mo_write_129 : decode b_Mo_write 129 = .ok (.imul, 1) := by decide +kernel
theorem d_Mo_write_130 : decode b_Mo_write 130 = .ok (.bipush 32, 2) := by decide +kernel
theorem d_Mo_write_132 : decode b_Mo_write 132 = .ok (.iadd, 1) := by decide +kernel
theorem d_Mo_write_133 : decode b_Mo_write 133 = .ok (.if_icmp .ge 22, 3) := by decide +kernel
theorem d_Mo_write_136 : decode b_Mo_write 136 = .ok (.aload_n 0, 1) := by decide +kernel
theorem d_Mo_write_137 : decode b_Mo_write 137 = .ok (.getfield 16, 3) := by decide +kernel
theorem d_Mo_write_140 : decode b_Mo_write 140 = .ok (.bipush 32, 2) := by decide +kernel
theorem d_Mo_write_142 : decode b_Mo_write 142 = .ok (.iload_n 2, 1) := by decide +kernel
theorem d_Mo_write_143 : decode b_Mo_write 143 = .ok (.imul, 1) := by decide +kernel
theorem d_Mo_write_144 : decode b_Mo_write 144 = .ok (.iload 6, 2) := by decide +kernel
theorem d_Mo_write_146 : decode b_Mo_write 146 = .ok (.iadd, 1) := by decide +kernel
theorem d_Mo_write_147 : decode b_Mo_write 147 = .ok (.iconst 0, 1) := by decide +kernel
theorem d_Mo_write_148 : decode b_Mo_write 148 = .ok (.iastore, 1) := by decide +kernel
theorem d_Mo_write_149 : decode b_Mo_write 149 = .ok (.iinc 6 1, 3) := by decide +kernel
theorem d_Mo_write_152 : decode b_Mo_write 152 = .ok (.goto (-29), 3) := by decide +kernel
theorem d_Mo_write_155 : decode b_Mo_write 155 = .ok (.bipush 32, 2) := by decide +kernel
theorem d_Mo_write_157 : decode b_Mo_write 157 = .ok (.iload_n 2, 1) := by decide +kernel
theorem d_Mo_write_158 : decode b_Mo_write 158 = .ok (.iload 5, 2) := by decide +kernel
theorem d_Mo_write_160 : decode b_Mo_write 160 = .ok (.iadd, 1) := by decide +kernel
theorem d_Mo_write_161 : decode b_Mo_write 161 = .ok (.imul, 1) := by decide +kernel
theorem d_Mo_write_162 : decode b_Mo_write 162 = .ok (.istore 6, 2) := by decide +kernel
theorem d_Mo_write_164 : decode b_Mo_write 164 = .ok (.iconst 0, 1) := by decide +kernel
theorem d_Mo_write_165 : decode b_Mo_write 165 = .ok (.istore 7, 2) := by decide +kernel
theorem d_Mo_write_167 : decode b_Mo_write 167 = .ok (.iload 7, 2) := by decide +kernel
theorem d_Mo_write_169 : decode b_Mo_write 169 = .ok (.bipush 11, 2) := by decide +kernel
theorem d_Mo_write_171 : decode b_Mo_write 171 = .ok (.if_icmp .ge 26, 3) := by decide +kernel
theorem d_Mo_write_174 : decode b_Mo_write 174 = .ok (.aload_n 0, 1) := by decide +kernel
theorem d_Mo_write_175 : decode b_Mo_write 175 = .ok (.getfield 16, 3) := by decide +kernel
theorem d_Mo_write_178 : decode b_Mo_write 178 = .ok (.iload 6, 2) := by decide +kernel
theorem d_Mo_write_180 : decode b_Mo_write 180 = .ok (.iload 7, 2) := by decide +kernel
theorem d_Mo_write_182 : decode b_Mo_write 182 = .ok (.iadd, 1) := by decide +kernel
theorem d_Mo_write_183 : decode b_Mo_write 183 = .ok (.aload_n 0, 1) := by decide +kernel
theorem d_Mo_write_184 : decode b_Mo_write 184 = .ok (.getfield 19, 3) := by decide +kernel
theorem d_Mo_write_187 : decode b_Mo_write 187 = .ok (.iload 7, 2) := by decide +kernel
theorem d_Mo_write_189 : decode b_Mo_write 189 = .ok (.iaload, 1) := by decide +kernel
theorem d_Mo_write_190 : decode b_Mo_write 190 = .ok (.iastore, 1) := by decide +kernel
theorem d_Mo_write_191 : decode b_Mo_write 191 = .ok (.iinc 7 1, 3) := by decide +kernel
theorem d_Mo_write_194 : decode b_Mo_write 194 = .ok (.goto (-27), 3) := by decide +kernel
theorem d_Mo_write_197 : decode b_Mo_write 197 = .ok (.iconst 1, 1) := by decide +kernel
theorem d_Mo_write_198 : decode b_Mo_write 198 = .ok (.istore 7, 2) := by decide +kernel
theorem d_Mo_write_200 : decode b_Mo_write 200 = .ok (.iload 7, 2) := by decide +kernel
theorem d_Mo_write_202 : decode b_Mo_write 202 = .ok (.iload 5, 2) := by decide +kernel
theorem d_Mo_write_204 : decode b_Mo_write 204 = .ok (.if_icmp .gt 170, 3) := by decide +kernel
theorem d_Mo_write_207 : decode b_Mo_write 207 = .ok (.iload 6, 2) := by decide +kernel
theorem d_Mo_write_209 : decode b_Mo_write 209 = .ok (.bipush 32, 2) := by decide +kernel
theorem d_Mo_write_211 : decode b_Mo_write 211 = .ok (.iload 7, 2) := by decide +kernel
theorem d_Mo_write_213 : decode b_Mo_write 213 = .ok (.imul, 1) := by decide +kernel
theorem d_Mo_write_214 : decode b_Mo_write 214 = .ok (.isub, 1) := by decide +kernel
theorem d_Mo_write_215 : decode b_Mo_write 215 = .ok (.istore 8, 2) := by decide +kernel
theorem d_Mo_write_217 : decode b_Mo_write 217 = .ok (.iconst 0, 1) := by decide +kernel
theorem d_Mo_write_218 : decode b_Mo_write 218 = .ok (.istore 9, 2) := by decide +kernel
theorem d_Mo_write_220 : decode b_Mo_write 220 = .ok (.iload 9, 2) := by decide +kernel
theorem d_Mo_write_222 : decode b_Mo_write 222 = .ok (.bipush 14, 2) := by decide +kernel
theorem d_Mo_write_224 : decode b_Mo_write 224 = .ok (.if_icmp .ge 44, 3) := by decide +kernel
theorem d_Mo_write_227 : decode b_Mo_write 227 = .ok (.aload_n 0, 1) := by decide +kernel
theorem d_Mo_write_228 : decode b_Mo_write 228 = .ok (.getfield 16, 3) := by decide +kernel
theorem d_Mo_write_231 : decode b_Mo_write 231 = .ok (.iload 8, 2) := by decide +kernel
theorem d_Mo_write_233 : decode b_Mo_write 233 = .ok (.iload 9, 2) := by decide +kernel
theorem d_Mo_write_235 : decode b_Mo_write 235 = .ok (.iadd, 1) := by decide +kernel
theorem d_Mo_write_236 : decode b_Mo_write 236 = .ok (.iload 9, 2) := by decide +kernel
theorem d_Mo_write_238 : decode b_Mo_write 238 = .ok (.iload 7, 2) := by decide +kernel
theorem d_Mo_write_240 : decode b_Mo_write 240 = .ok (.iload 7, 2) := by decide +kernel
theorem d_Mo_write_242 : decode b_Mo_write 242 = .ok (.iload 5, 2) := by decide +kernel
theorem d_Mo_write_244 : decode b_Mo_write 244 = .ok (.if_icmp .ne 7, 3) := by decide +kernel
theorem d_Mo_write_247 : decode b_Mo_write 247 = .ok (.iconst 1, 1) := by decide +kernel
theorem d_Mo_write_248 : decode b_Mo_write 248 = .ok (.goto 4, 3) := by decide +kernel
theorem d_Mo_write_251 : decode b_Mo_write 251 = .ok (.iconst 0, 1) := by decide +kernel
theorem d_Mo_write_252 : decode b_Mo_write 252 = .ok (.aload_n 0, 1) := by decide +kernel
theorem d_Mo_write_253 : decode b_Mo_write 253 = .ok (.iload 6, 2) := by decide +kernel
theorem d_Mo_write_255 : decode b_Mo_write 255 = .ok (.invokevirtual 70, 3) := by decide +kernel
theorem d_Mo_write_258 : decode b_Mo_write 258 = .ok (.invokestatic 73, 3) := by decide +kernel
theorem d_Mo_write_261 : decode b_Mo_write 261 = .ok (.iastore, 1) := by decide +kernel
theorem d_Mo_write_262 : decode b_Mo_write 262 = .ok (.iinc 9 1, 3) := by decide +kernel
theorem d_Mo_write_265 : decode b_Mo_write 265 = .ok (.goto (-45), 3) := by decide +kernel
theorem d_Mo_write_268 : decode b_Mo_write 268 = .ok (.iconst 0, 1) := by decide +kernel
theorem d_Mo_write_269 : decode b_Mo_write 269 = .ok (.istore 9, 2) := by decide +kernel
theorem d_Mo_write_271 : decode b_Mo_write 271 = .ok (.iload 9, 2) := by decide +kernel
theorem d_Mo_write_273 : decode b_Mo_write 273 = .ok (.bipush 13, 2) := by decide +kernel
theorem d_Mo_write_275 : decode b_Mo_write 275 = .ok (.if_icmp .ge 93, 3) := by decide +kernel
theorem d_Mo_write_278 : decode b_Mo_write 278 = .ok (.bipush 13, 2) := by decide +kernel
theorem d_Mo_write_280 : decode b_Mo_write 280 = .ok (.iload 7, 2) := by decide +kernel
theorem d_Mo_write_282 : decode b_Mo_write 282 = .ok (.iconst 1, 1) := by decide +kernel
theorem d_Mo_write_283 : decode b_Mo_write 283 = .ok (.isub, 1) := by decide +kernel
theorem d_Mo_write_284 : decode b_Mo_write 284 = .ok (.imul, 1) := by decide +kernel
theorem d_Mo_write_285 : decode b_Mo_write 285 = .ok (.iload 9, 2) := by decide +kernel
theorem d_Mo_write_287 : decode b_Mo_write 287 = .ok (.iadd, 1) := by decide +kernel
theorem d_Mo_write_288 : decode b_Mo_write 288 = .ok (.istore 10, 2) := by decide +kernel
theorem d_Mo_write_290 : decode b_Mo_write 290 = .ok (.iload 10, 2) := by decide +kernel
theorem d_Mo_write_292 : decode b_Mo_write 292 = .ok (.iload 4, 2) := by decide +kernel
theorem d_Mo_write_294 : decode b_Mo_write 294 = .ok (.if_icmp .ge 13, 3) := by decide +kernel
theorem d_Mo_write_297 : decode b_Mo_write 297 = .ok (.aload_n 0, 1) := by decide +kernel
theorem d_Mo_write_298 : decode b_Mo_write 298 = .ok (.iload_n 1, 1) := by decide +kernel
theorem d_Mo_write_299 : decode b_Mo_write 299 = .ok (.iload 10, 2) := by decide +kernel
theorem d_Mo_write_301 : decode b_Mo_write 301 = .ok (.invokevirtual 34, 3) := by decide +kernel
theorem d_Mo_write_304 : decode b_Mo_write 304 = .ok (.goto 16, 3) := by decide +kernel
theorem d_Mo_write_307 : decode b_Mo_write 307 = .ok (.iload 10, 2) := by decide +kernel
theorem d_Mo_write_309 : decode b_Mo_write 309 = .ok (.iload 4, 2) := by decide +kernel
theorem d_Mo_write_311 : decode b_Mo_write 311 = .ok (.if_icmp .ne 7, 3) := by decide +kernel
theorem d_Mo_write_314 : decode b_Mo_write 314 = .ok (.iconst 0, 1) := by decide +kernel
theorem d_Mo_write_315 : decode b_Mo_write 315 = .ok (.goto 5, 3) := by decide +kernel
theorem d_Mo_write_318 : decode b_Mo_write 318 = .ok (.ldc 30, 2) := by decide +kernel
theorem d_Mo_write_320 : decode b_Mo_write 320 = .ok (.istore 11, 2) := by decide +kernel
theorem d_Mo_write_322 : decode b_Mo_write 322 = .ok (.aload_n 0, 1) := by decide +kernel
theorem d_Mo_write_323 : decode b_Mo_write 323 = .ok (.getfield 16, 3) := by decide +kernel
theorem d_Mo_write_326 : decode b_Mo_write 326 = .ok (.iload 8, 2) := by decide +kernel
theorem d_Mo_write_328 : decode b_Mo_write 328 = .ok (.iload 9, 2) := by decide +kernel
theorem d_Mo_write_330 : decode b_Mo_write 330 = .ok (.invokestatic 77, 3) := by decide +kernel
theorem d_Mo_write_333 : decode b_Mo_write 333 = .ok (.iadd, 1) := by decide +kernel
theorem d_Mo_write_334 : decode b_Mo_write 334 = .ok (.iload 11, 2) := by decide +kernel
theorem d_Mo_write_336 : decode b_Mo_write 336 = .ok (.sipush 256, 3) := by decide +kernel
theorem d_Mo_write_339 : decode b_Mo_write 339 = .ok (.irem, 1) := by decide +kernel
theorem d_Mo_write_340 : decode b_Mo_write 340 = .ok (.iastore, 1) := by decide +kernel
theorem d_Mo_write_341 : decode b_Mo_write 341 = .ok (.aload_n 0, 1) := by decide +kernel
theorem d_Mo_write_342 : decode b_Mo_write 342 = .ok (.getfield 16, 3) := by decide +kernel
theorem d_Mo_write_345 : decode b_Mo_write 345 = .ok (.iload 8, 2) := by decide +kernel
theorem d_Mo_write_347 : decode b_Mo_write 347 = .ok (.iload 9, 2) := by decide +kernel
theorem d_Mo_write_349 : decode b_Mo_write 349 = .ok (.invokestatic 77, 3) := by decide +kernel
theorem d_Mo_write_352 : decode b_Mo_write 352 = .ok (.iadd, 1) := by decide +kernel
theorem d_Mo_write_353 : decode b_Mo_write 353 = .ok (.iconst 1, 1) := by decide +kernel
theorem d_Mo_write_354 : decode b_Mo_write 354 = .ok (.iadd, 1) := by decide +kernel
theorem d_Mo_write_355 : decode b_Mo_write 355 = .ok (.iload 11, 2) := by decide +kernel
theorem d_Mo_write_357 : decode b_Mo_write 357 = .ok (.sipush 256, 3) := by decide +kernel
theorem d_Mo_write_360 : decode b_Mo_write 360 = .ok (.idiv, 1) := by decide +kernel
theorem d_Mo_write_361 : decode b_Mo_write 361 = .ok (.iastore, 1) := by decide +kernel
theorem d_Mo_write_362 : decode b_Mo_write 362 = .ok (.iinc 9 1, 3) := by decide +kernel
theorem d_Mo_write_365 : decode b_Mo_write 365 = .ok (.goto (-94), 3) := by decide +kernel
theorem d_Mo_write_368 : decode b_Mo_write 368 = .ok (.iinc 7 1, 3) := by decide +kernel
theorem d_Mo_write_371 : decode b_Mo_write 371 = .ok (.goto (-171), 3) := by decide +kernel
theorem d_Mo_write_374 : decode b_Mo_write 374 = .ok (.iload 5, 2) := by decide +kernel
theorem d_Mo_write_376 : decode b_Mo_write 376 = .ok (.iconst 1, 1) := by decide +kernel
theorem d_Mo_write_377 : decode b_Mo_write 377 = .ok (.iadd, 1) := by decide +kernel
theorem d_Mo_write_378 : decode b_Mo_write 378 = .ok (.ireturn, 1) := by decide +kernel
abbrev b_Mo_isShort : ByteArray := prog_9_method_24_code
abbrev y_Mo_isShort : MethodName := ⟨"LongNamesModel", "isShort", "(I)Z"⟩
abbrev w_Mo_isShort : List Cond := .code y_Mo_isShort b_Mo_isShort 4 (some .boolean) :: BIG
theorem d_Mo_isShort_0 : decode b_Mo_isShort 0 = .ok (.aload_n 0, 1) := by decide +kernel
theorem d_Mo_isShort_1 : decode b_Mo_isShort 1 = .ok (.getfield 16, 3) := by decide +kernel
theorem d_Mo_isShort_4 : decode b_Mo_isShort 4 = .ok (.iload_n 1, 1) := by decide +kernel
theorem d_Mo_isShort_5 : decode b_Mo_isShort 5 = .ok (.iaload, 1) := by decide +kernel
theorem d_Mo_isShort_6 : decode b_Mo_isShort 6 = .ok (.bipush 32, 2) := by decide +kernel
theorem d_Mo_isShort_8 : decode b_Mo_isShort 8 = .ok (.if_icmp .ne 5, 3) := by decide +kernel
theorem d_Mo_isShort_11 : decode b_Mo_isShort 11 = .ok (.iconst 0, 1) := by decide +kernel
theorem d_Mo_isShort_12 : decode b_Mo_isShort 12 = .ok (.ireturn, 1) := by decide +kernel
theorem d_Mo_isShort_13 : decode b_Mo_isShort 13 = .ok (.iconst 0, 1) := by decide +kernel
theorem d_Mo_isShort_14 : decode b_Mo_isShort 14 = .ok (.istore_n 2, 1) := by decide +kernel
theorem d_Mo_isShort_15 : decode b_Mo_isShort 15 = .ok (.iload_n 2, 1) := by decide +kernel
theorem d_Mo_isShort_16 : decode b_Mo_isShort 16 = .ok (.bipush 11, 2) := by decide +kernel
theorem d_Mo_isShort_18 : decode b_Mo_isShort 18 = .ok (.if_icmp .ge 66, 3) := by decide +kernel
theorem d_Mo_isShort_21 : decode b_Mo_isShort 21 = .ok (.aload_n 0, 1) := by decide +kernel
theorem d_Mo_isShort_22 : decode b_Mo_isShort 22 = .ok (.getfield 16, 3) := by decide +kernel
theorem d_Mo_isShort_25 : decode b_Mo_isShort 25 = .ok (.iload_n 1, 1) := by decide +kernel
theorem d_Mo_isShort_26 : decode b_Mo_isShort 26 = .ok (.iload_n 2, 1) := by decide +kernel
theorem d_Mo_isShort_27 : decode b_Mo_isShort 27 = .ok (.iadd, 1) := by decide +kernel
theorem d_Mo_isShort_28 : decode b_Mo_isShort 28 = .ok (.iaload, 1) := by decide +kernel
theorem d_Mo_isShort_29 : decode b_Mo_isShort 29 = .ok (.istore_n 3, 1) := by decide +kernel
theorem d_Mo_isShort_30 : decode b_Mo_isShort 30 = .ok (.iload_n 3, 1) := by decide +kernel
theorem d_Mo_isShort_31 : decode b_Mo_isShort 31 = .ok (.bipush 32, 2) := by decide +kernel
theorem d_Mo_isShort_33 : decode b_Mo_isShort 33 = .ok (.if_icmp .eq 12, 3) := by decide +kernel
theorem d_Mo_isShort_36 : decode b_Mo_isShort 36 = .ok (.iload_n 3, 1) := by decide +kernel
theorem d_Mo_isShort_37 : decode b_Mo_isShort 37 = .ok (.invokestatic 45, 3) := by decide +kernel
theorem d_Mo_isShort_40 : decode b_Mo_isShort 40 = .ok (.ifCond .ne 5, 3) := by decide +kernel
theorem d_Mo_isShort_43 : decode b_Mo_isShort 43 = .ok (.iconst 0, 1) := by decide +kernel
theorem d_Mo_isShort_44 : decode b_Mo_isShort 44 = .ok (.ireturn, 1) := by decide +kernel
theorem d_Mo_isShort_45 : decode b_Mo_isShort 45 = .ok (.iload_n 3, 1) := by decide +kernel
theorem d_Mo_isShort_46 : decode b_Mo_isShort 46 = .ok (.bipush 32, 2) := by decide +kernel
theorem d_Mo_isShort_48 : decode b_Mo_isShort 48 = .ok (.if_icmp .eq 30, 3) := by decide +kernel
theorem d_Mo_isShort_51 : decode b_Mo_isShort 51 = .ok (.iload_n 2, 1) := by decide +kernel
theorem d_Mo_isShort_52 : decode b_Mo_isShort 52 = .ok (.ifCond .eq 26, 3) := by decide +kernel
theorem d_Mo_isShort_55 : decode b_Mo_isShort 55 = .ok (.iload_n 2, 1) := by decide +kernel
theorem d_Mo_isShort_56 : decode b_Mo_isShort 56 = .ok (.bipush 8, 2) := by decide +kernel
theorem d_Mo_isShort_58 : decode b_Mo_isShort 58 = .ok (.if_icmp .eq 20, 3) := by decide +kernel
theorem d_Mo_isShort_61 : decode b_Mo_isShort 61 = .ok (.aload_n 0, 1) := by decide +kernel
theorem d_Mo_isShort_62 : decode b_Mo_isShort 62 = .ok (.getfield 16, 3) := by decide +kernel
theorem d_Mo_isShort_65 : decode b_Mo_isShort 65 = .ok (.iload_n 1, 1) := by decide +kernel
theorem d_Mo_isShort_66 : decode b_Mo_isShort 66 = .ok (.iload_n 2, 1) := by decide +kernel
theorem d_Mo_isShort_67 : decode b_Mo_isShort 67 = .ok (.iadd, 1) := by decide +kernel
theorem d_Mo_isShort_68 : decode b_Mo_isShort 68 = .ok (.iconst 1, 1) := by decide +kernel
theorem d_Mo_isShort_69 : decode b_Mo_isShort 69 = .ok (.isub, 1) := by decide +kernel
theorem d_Mo_isShort_70 : decode b_Mo_isShort 70 = .ok (.iaload, 1) := by decide +kernel
theorem d_Mo_isShort_71 : decode b_Mo_isShort 71 = .ok (.bipush 32, 2) := by decide +kernel
theorem d_Mo_isShort_73 : decode b_Mo_isShort 73 = .ok (.if_icmp .ne 5, 3) := by decide +kernel
theorem d_Mo_isShort_76 : decode b_Mo_isShort 76 = .ok (.iconst 0, 1) := by decide +kernel
theorem d_Mo_isShort_77 : decode b_Mo_isShort 77 = .ok (.ireturn, 1) := by decide +kernel
theorem d_Mo_isShort_78 : decode b_Mo_isShort 78 = .ok (.iinc 2 1, 3) := by decide +kernel
theorem d_Mo_isShort_81 : decode b_Mo_isShort 81 = .ok (.goto (-66), 3) := by decide +kernel
theorem d_Mo_isShort_84 : decode b_Mo_isShort 84 = .ok (.iconst 1, 1) := by decide +kernel
theorem d_Mo_isShort_85 : decode b_Mo_isShort 85 = .ok (.ireturn, 1) := by decide +kernel
abbrev b_Mo_add : ByteArray := prog_9_method_25_code
abbrev y_Mo_add : MethodName := ⟨"LongNamesModel", "add", "(II)V"⟩
abbrev w_Mo_add : List Cond := .code y_Mo_add b_Mo_add 3 none :: BIG
theorem d_Mo_add_0 : decode b_Mo_add 0 = .ok (.aload_n 0, 1) := by decide +kernel
theorem d_Mo_add_1 : decode b_Mo_add 1 = .ok (.getfield 7, 3) := by decide +kernel
theorem d_Mo_add_4 : decode b_Mo_add 4 = .ok (.sipush 255, 3) := by decide +kernel
theorem d_Mo_add_7 : decode b_Mo_add 7 = .ok (.iload_n 1, 1) := by decide +kernel
theorem d_Mo_add_8 : decode b_Mo_add 8 = .ok (.imul, 1) := by decide +kernel
theorem d_Mo_add_9 : decode b_Mo_add 9 = .ok (.aload_n 0, 1) := by decide +kernel
theorem d_Mo_add_10 : decode b_Mo_add 10 = .ok (.getfield 13, 3) := by decide +kernel
theorem d_Mo_add_13 : decode b_Mo_add 13 = .ok (.iload_n 1, 1) := by decide +kernel
theorem d_Mo_add_14 : decode b_Mo_add 14 = .ok (.iaload, 1) := by decide +kernel
theorem d_Mo_add_15 : decode b_Mo_add 15 = .ok (.iadd, 1) := by decide +kernel
theorem d_Mo_add_16 : decode b_Mo_add 16 = .ok (.iload_n 2, 1) := by decide +kernel
theorem d_Mo_add_17 : decode b_Mo_add 17 = .ok (.iastore, 1) := by decide +kernel
theorem d_Mo_add_18 : decode b_Mo_add 18 = .ok (.aload_n 0, 1) := by decide +kernel
theorem d_Mo_add_19 : decode b_Mo_add 19 = .ok (.getfield 13, 3) := by decide +kernel
theorem d_Mo_add_22 : decode b_Mo_add 22 = .ok (.iload_n 1, 1) := by decide +kernel
theorem d_Mo_add_23 : decode b_Mo_add 23 = .ok (.dup2, 1) := by decide +kernel
theorem d_Mo_add_24 : decode b_Mo_add 24 = .ok (.iaload, 1) := by decide +kernel
theorem d_Mo_add_25 : decode b_Mo_add 25 = .ok (.iconst 1, 1) := by decide +kernel
theorem d_Mo_add_26 : decode b_Mo_add 26 = .ok (.iadd, 1) := by decide +kernel
theorem d_Mo_add_27 : decode b_Mo_add 27 = .ok (.iastore, 1) := by decide +kernel
theorem d_Mo_add_28 : decode b_Mo_add 28 = .ok (.return_, 1) := by decide +kernel
abbrev b_Mo_readShown : ByteArray := prog_9_method_26_code
abbrev y_Mo_readShown : MethodName := ⟨"LongNamesModel", "readShown", "(II)V"⟩
abbrev w_Mo_readShown : List Cond := .code y_Mo_readShown b_Mo_readShown 4 none :: BIG
theorem d_Mo_readShown_0 : decode b_Mo_readShown 0 = .ok (.iconst 0, 1) := by decide +kernel
theorem d_Mo_readShown_1 : decode b_Mo_readShown 1 = .ok (.istore_n 3, 1) := by decide +kernel
theorem d_Mo_readShown_2 : decode b_Mo_readShown 2 = .ok (.iload_n 3, 1) := by decide +kernel
theorem d_Mo_readShown_3 : decode b_Mo_readShown 3 = .ok (.bipush 11, 2) := by decide +kernel
theorem d_Mo_readShown_5 : decode b_Mo_readShown 5 = .ok (.if_icmp .ge 62, 3) := by decide +kernel
theorem d_Mo_readShown_8 : decode b_Mo_readShown 8 = .ok (.iload_n 3, 1) := by decide +kernel
theorem d_Mo_readShown_9 : decode b_Mo_readShown 9 = .ok (.bipush 8, 2) := by decide +kernel
theorem d_Mo_readShown_11 : decode b_Mo_readShown 11 = .ok (.if_icmp .ne 24, 3) := by decide +kernel
theorem d_Mo_readShown_14 : decode b_Mo_readShown 14 = .ok (.aload_n 0, 1) := by decide +kernel
theorem d_Mo_readShown_15 : decode b_Mo_readShown 15 = .ok (.getfield 16, 3) := by decide +kernel
theorem d_Mo_readShown_18 : decode b_Mo_readShown 18 = .ok (.iload_n 2, 1) := by decide +kernel
theorem d_Mo_readShown_19 : decode b_Mo_readShown 19 = .ok (.bipush 8, 2) := by decide +kernel
theorem d_Mo_readShown_21 : decode b_Mo_readShown 21 = .ok (.iadd, 1) := by decide +kernel
theorem d_Mo_readShown_22 : decode b_Mo_readShown 22 = .ok (.iaload, 1) := by decide +kernel
theorem d_Mo_readShown_23 : decode b_Mo_readShown 23 = .ok (.bipush 32, 2) := by decide +kernel
theorem d_Mo_readShown_25 : decode b_Mo_readShown 25 = .ok (.if_icmp .eq 10, 3) := by decide +kernel
theorem d_Mo_readShown_28 : decode b_Mo_readShown 28 = .ok (.aload_n 0, 1) := by decide +kernel
theorem d_Mo_readShown_29 : decode b_Mo_readShown 29 = .ok (.iload_n 1, 1) := by decide +kernel
theorem d_Mo_readShown_30 : decode b_Mo_readShown 30 = .ok (.bipush 46, 2) := by decide +kernel
theorem d_Mo_readShown_32 : decode b_Mo_readShown 32 = .ok (.invokevirtual 80, 3) := by decide +kernel
theorem d_Mo_readShown_35 : decode b_Mo_readShown 35 = .ok (.aload_n 0, 1) := by decide +kernel
theorem d_Mo_readShown_36 : decode b_Mo_readShown 36 = .ok (.getfield 16, 3) := by decide +kernel
theorem d_Mo_readShown_39 : decode b_Mo_readShown 39 = .ok (.iload_n 2, 1) := by decide +kernel
theorem d_Mo_readShown_40 : decode b_Mo_readShown 40 = .ok (.iload_n 3, 1) := by decide +kernel
theorem d_Mo_readShown_41 : decode b_Mo_readShown 41 = .ok (.iadd, 1) := by decide +kernel
theorem d_Mo_readShown_42 : decode b_Mo_readShown 42 = .ok (.iaload, 1) := by decide +kernel
theorem d_Mo_readShown_43 : decode b_Mo_readShown 43 = .ok (.bipush 32, 2) := by decide +kernel
theorem d_Mo_readShown_45 : decode b_Mo_readShown 45 = .ok (.if_icmp .eq 16, 3) := by decide +kernel
theorem d_Mo_readShown_48 : decode b_Mo_readShown 48 = .ok (.aload_n 0, 1) := by decide +kernel
theorem d_Mo_readShown_49 : decode b_Mo_readShown 49 = .ok (.iload_n 1, 1) := by decide +kernel
theorem d_Mo_readShown_50 : decode b_Mo_readShown 50 = .ok (.aload_n 0, 1) := by decide +kernel
theorem d_Mo_readShown_51 : decode b_Mo_readShown 51 = .ok (.getfield 16, 3) := by decide +kernel
theorem d_Mo_readShown_54 : decode b_Mo_readShown 54 = .ok (.iload_n 2, 1) := by decide +kernel
theorem d_Mo_readShown_55 : decode b_Mo_readShown 55 = .ok (.iload_n 3, 1) := by decide +kernel
theorem d_Mo_readShown_56 : decode b_Mo_readShown 56 = .ok (.iadd, 1) := by decide +kernel
theorem d_Mo_readShown_57 : decode b_Mo_readShown 57 = .ok (.iaload, 1) := by decide +kernel
theorem d_Mo_readShown_58 : decode b_Mo_readShown 58 = .ok (.invokevirtual 80, 3) := by decide +kernel
theorem d_Mo_readShown_61 : decode b_Mo_readShown 61 = .ok (.iinc 3 1, 3) := by decide +kernel
theorem d_Mo_readShown_64 : decode b_Mo_readShown 64 = .ok (.goto (-62), 3) := by decide +kernel
theorem d_Mo_readShown_67 : decode b_Mo_readShown 67 = .ok (.return_, 1) := by decide +kernel
abbrev b_Mo_readParts : ByteArray := prog_9_method_27_code
abbrev y_Mo_readParts : MethodName := ⟨"LongNamesModel", "readParts", "(III)Z"⟩
abbrev w_Mo_readParts : List Cond := .code y_Mo_readParts b_Mo_readParts 10 (some .boolean) :: BIG
theorem d_Mo_readParts_0 : decode b_Mo_readParts 0 = .ok (.aload_n 0, 1) := by decide +kernel
theorem d_Mo_readParts_1 : decode b_Mo_readParts 1 = .ok (.iload_n 2, 1) := by decide +kernel
theorem d_Mo_readParts_2 : decode b_Mo_readParts 2 = .ok (.invokevirtual 70, 3) := by decide +kernel
theorem d_Mo_readParts_5 : decode b_Mo_readParts 5 = .ok (.istore 4, 2) := by decide +kernel
theorem d_Mo_readParts_7 : decode b_Mo_readParts 7 = .ok (.iconst 0, 1) := by decide +kernel
theorem d_Mo_readParts_8 : decode b_Mo_readParts 8 = .ok (.istore 5, 2) := by decide +kernel
theorem d_Mo_readParts_10 : decode b_Mo_readParts 10 = .ok (.iconst 1, 1) := by decide +kernel
theorem d_Mo_readParts_11 : decode b_Mo_readParts 11 = .ok (.istore 6, 2) := by decide +kernel
theorem d_Mo_readParts_13 : decode b_Mo_readParts 13 = .ok (.iload 6, 2) := by decide +kernel
theorem d_Mo_readParts_15 : decode b_Mo_readParts 15 = .ok (.iload_n 3, 1) := by decide +kernel
theorem d_Mo_readParts_16 : decode b_Mo_readParts 16 = .ok (.if_icmp .gt 243, 3) := by decide +kernel
theorem d_Mo_readParts_19 : decode b_Mo_readParts 19 = .ok (.iload_n 2, 1) := by decide +kernel
theorem d_Mo_readParts_20 : decode b_Mo_readParts 20 = .ok (.bipush 32, 2) := by decide +kernel
theorem d_Mo_readParts_22 : decode b_Mo_readParts 22 = .ok (.iload 6, 2) := by decide +kernel
theorem d_Mo_readParts_24 : decode b_Mo_readParts 24 = .ok (.imul, 1) := by decide +kernel
theorem d_Mo_readParts_25 : decode b_Mo_readParts 25 = .ok (.isub, 1) := by decide +kernel
theorem d_Mo_readParts_26 : decode b_Mo_readParts 26 = .ok (.istore 7, 2) := by decide +kernel
theorem d_Mo_readParts_28 : decode b_Mo_readParts 28 = .ok (.iconst 0, 1) := by decide +kernel
theorem d_Mo_readParts_29 : decode b_Mo_readParts 29 = .ok (.istore 8, 2) := by decide +kernel
theorem d_Mo_readParts_31 : decode b_Mo_readParts 31 = .ok (.iload 8, 2) := by decide +kernel
theorem d_Mo_readParts_33 : decode b_Mo_readParts 33 = .ok (.bipush 28, 2) := by decide +kernel
theorem d_Mo_readParts_35 : decode b_Mo_readParts 35 = .ok (.if_icmp .ge 82, 3) := by decide +kernel
theorem d_Mo_readParts_38 : decode b_Mo_readParts 38 = .ok (.iload 8, 2) := by decide +kernel
theorem d_Mo_readParts_40 : decode b_Mo_readParts 40 = .ok (.ifCond .eq 24, 3) := by decide +kernel
theorem d_Mo_readParts_43 : decode b_Mo_readParts 43 = .ok (.iload 8, 2) := by decide +kernel
theorem d_Mo_readParts_45 : decode b_Mo_readParts 45 = .ok (.bipush 10, 2) := by decide +kernel
theorem d_Mo_readParts_47 : decode b_Mo_readParts 47 = .ok (.if_icmp .le 10, 3) := by decide +kernel
theorem d_Mo_readParts_50 : decode b_Mo_readParts 50 = .ok (.iload 8, 2) := by decide +kernel
theorem d_Mo_readParts_52 : decode b_Mo_readParts 52 = .ok (.bipush 14, 2) := by decide +kernel
theorem d_Mo_readParts_54 : decode b_Mo_readParts 54 = .ok (.if_icmp .lt 10, 3) := by decide +kernel
theorem d_Mo_readParts_57 : decode b_Mo_readParts 57 = .ok (.iload 8, 2) := by decide +kernel
theorem d_Mo_readParts_59 : decode b_Mo_readParts 59 = .ok (.bipush 25, 2) := by decide +kernel
theorem d_Mo_readParts_61 : decode b_Mo_readParts 61 = .ok (.if_icmp .le 7, 3) := by decide +kernel
theorem d_Mo_readParts_64 : decode b_Mo_readParts 64 = .ok (.iconst 1, 1) := by decide +kernel
theorem d_Mo_readParts_65 : decode b_Mo_readParts 65 = .ok (.goto 4, 3) := by decide +kernel
theorem d_Mo_readParts_68 : decode b_Mo_readParts 68 = .ok (.iconst 0, 1) := by decide +kernel
theorem d_Mo_readParts_69 : decode b_Mo_readParts 69 = .ok (.istore 9, 2) := by decide +kernel
theorem d_Mo_readParts_71 : decode b_Mo_readParts 71 = .ok (.iload 9, 2) := by decide +kernel
theorem d_Mo_readParts_73 : decode b_Mo_readParts 73 = .ok (.ifCond .eq 38, 3) := by decide +kernel
theorem d_Mo_readParts_76 : decode b_Mo_readParts 76 = .ok (.aload_n 0, 1) := by decide +kernel
theorem d_Mo_readParts_77 : decode b_Mo_readParts 77 = .ok (.getfield 16, 3) := by decide +kernel
theorem d_Mo_readParts_80 : decode b_Mo_readParts 80 = .ok (.iload 7, 2) := by decide +kernel
theorem d_Mo_readParts_82 : decode b_Mo_readParts 82 = .ok (.iload 8, 2) := by decide +kernel
theorem d_Mo_readParts_84 : decode b_Mo_readParts 84 = .ok (.iadd, 1) := by decide +kernel
theorem d_Mo_readParts_85 : decode b_Mo_readParts 85 = .ok (.iaload, 1) := by decide +kernel
theorem d_Mo_readParts_86 : decode b_Mo_readParts 86 = .ok (.iload 8, 2) := by decide +kernel
theorem d_Mo_readParts_88 : decode b_Mo_readParts 88 = .ok (.iload 6, 2) := by decide +kernel
theorem d_Mo_readParts_90 : decode b_Mo_readParts 90 = .ok (.iload 6, 2) := by decide +kernel
theorem d_Mo_readParts_92 : decode b_Mo_readParts 92 = .ok (.iload_n 3, 1) := by decide +kernel
theorem d_Mo_readParts_93 : decode b_Mo_readParts 93 = .ok (.if_icmp .ne 7, 3) := by decide +kernel
theorem d_Mo_readParts_96 : decode b_Mo_readParts 96 = .ok (.iconst 1, 1) := by decide +kernel
theorem d_Mo_readParts_97 : decode b_Mo_readParts 97 = .ok (.goto 4, 3) := by decide +kernel
theorem d_Mo_readParts_100 : decode b_Mo_readParts 100 = .ok (.iconst 0, 1) := by decide +kernel
theorem d_Mo_readParts_101 : decode b_Mo_readParts 101 = .ok (.iload 4, 2) := by decide +kernel
theorem d_Mo_readParts_103 : decode b_Mo_readParts 103 = .ok (.invokestatic 73, 3) := by decide +kernel
theorem d_Mo_readParts_106 : decode b_Mo_readParts 106 = .ok (.if_icmp .eq 5, 3) := by decide +kernel
theorem d_Mo_readParts_109 : decode b_Mo_readParts 109 = .ok (.iconst 0, 1) := by decide +kernel
theorem d_Mo_readParts_110 : decode b_Mo_readParts 110 = .ok (.ireturn, 1) := by decide +kernel
theorem d_Mo_readParts_111 : decode b_Mo_readParts 111 = .ok (.iinc 8 1, 3) := by decide +kernel
theorem d_Mo_readParts_114 : decode b_Mo_readParts 114 = .ok (.goto (-83), 3) := by decide +kernel
theorem d_Mo_readParts_117 : decode b_Mo_readParts 117 = .ok (.iconst 0, 1) := by decide +kernel
theorem d_Mo_readParts_118 : decode b_Mo_readParts 118 = .ok (.istore 8, 2) := by decide +kernel
theorem d_Mo_readParts_120 : decode b_Mo_readParts 120 = .ok (.iload 8, 2) := by decide +kernel
theorem d_Mo_readParts_122 : decode b_Mo_readParts 122 = .ok (.bipush 13, 2) := by decide +kernel
theorem d_Mo_readParts_124 : decode b_Mo_readParts 124 = .ok (.if_icmp .ge 116, 3) := by decide +kernel
theorem d_Mo_readParts_127 : decode b_Mo_readParts 127 = .ok (.aload_n 0, 1) := by decide +kernel
theorem d_Mo_readParts_128 : decode b_Mo_readParts 128 = .ok (.getfield 16, 3) := by decide +kernel
theorem d_Mo_readParts_131 : decode b_Mo_readParts 131 = .ok (.iload 7, 2) := by decide +kernel
theorem d_Mo_readParts_133 : decode b_Mo_readParts 133 = .ok (.iload 8, 2) := by decide +kernel
theorem d_Mo_readParts_135 : decode b_Mo_readParts 135 = .ok (.invokestatic 77, 3) := by decide +kernel
theorem d_Mo_readParts_138 : decode b_Mo_readParts 138 = .ok (.iadd, 1) := by decide +kernel
theorem d_Mo_readParts_139 : decode b_Mo_readParts 139 = .ok (.iaload, 1) := by decide +kernel
theorem d_Mo_readParts_140 : decode b_Mo_readParts 140 = .ok (.sipush 256, 3) := by decide +kernel
theorem d_Mo_readParts_143 : decode b_Mo_readParts 143 = .ok (.aload_n 0, 1) := by decide +kernel
theorem d_Mo_readParts_144 : decode b_Mo_readParts 144 = .ok (.getfield 16, 3) := by decide +kernel
theorem d_Mo_readParts_147 : decode b_Mo_readParts 147 = .ok (.iload 7, 2) := by decide +kernel
theorem d_Mo_readParts_149 : decode b_Mo_readParts 149 = .ok (.iload 8, 2) := by decide +kernel
theorem d_Mo_readParts_151 : decode b_Mo_readParts 151 = .ok (.invokestatic 77, 3) := by decide +kernel
theorem d_Mo_readParts_154 : decode b_Mo_readParts 154 = .ok (.iadd, 1) := by decide +kernel
theorem d_Mo_readParts_155 : decode b_Mo_readParts 155 = .ok (.iconst 1, 1) := by decide +kernel
theorem d_Mo_readParts_156 : decode b_Mo_readParts 156 = .ok (.iadd, 1) := by decide +kernel
theorem d_Mo_readParts_157 : decode b_Mo_readParts 157 = .ok (.iaload, 1) := by decide +kernel
theorem d_Mo_readParts_158 : decode b_Mo_readParts 158 = .ok (.imul, 1) := by decide +kernel
theorem d_Mo_readParts_159 : decode b_Mo_readParts 159 = .ok (.iadd, 1) := by decide +kernel
theorem d_Mo_readParts_160 : decode b_Mo_readParts 160 = .ok (.istore 9, 2) := by decide +kernel
theorem d_Mo_readParts_162 : decode b_Mo_readParts 162 = .ok (.iload 5, 2) := by decide +kernel
theorem d_Mo_readParts_164 : decode b_Mo_readParts 164 = .ok (.ifCond .eq 10, 3) := by decide +kernel
theorem d_Mo_readParts_167 : decode b_Mo_readParts 167 = .ok (.iload 9, 2) := by decide +kernel
theorem d_Mo_readParts_169 : decode b_Mo_readParts 169 = .ok (.ldc 30, 2) := by decide +kernel
theorem d_Mo_readParts_171 : decode b_Mo_readParts 171 = .ok (.if_icmp .ne 13, 3) := by decide +kernel
theorem d_Mo_readParts_174 : decode b_Mo_readParts 174 = .ok (.iload 9, 2) := by decide +kernel
theorem d_Mo_readParts_176 : decode b_Mo_readParts 176 = .ok (.ifCond .ne 10, 3) := by decide +kernel
theorem d_Mo_readParts_179 : decode b_Mo_readParts 179 = .ok (.iload 8, 2) := by decide +kernel
theorem d_Mo_readParts_181 : decode b_Mo_readParts 181 = .ok (.ifCond .ne 5, 3) := by decide +kernel
theorem d_Mo_readParts_184 : decode b_Mo_readParts 184 = .ok (.iconst 0, 1) := by decide +kernel
theorem d_Mo_readParts_185 : decode b_Mo_readParts 185 = .ok (.ireturn, 1) := by decide +kernel
theorem d_Mo_readParts_186 : decode b_Mo_readParts 186 = .ok (.iload 5, 2) := by decide +kernel
theorem d_Mo_readParts_188 : decode b_Mo_readParts 188 = .ok (.ifCond .ne 8, 3) := by decide +kernel
theorem d_Mo_readParts_191 : decode b_Mo_readParts 191 = .ok (.iload 9, 2) := by decide +kernel
theorem d_Mo_readParts_193 : decode b_Mo_readParts 193 = .ok (.ifCond .ne 7, 3) := by decide +kernel
theorem d_Mo_readParts_196 : decode b_Mo_readParts 196 = .ok (.iconst 1, 1) := by decide +kernel
theorem d_Mo_readParts_197 : decode b_Mo_readParts 197 = .ok (.goto 4, 3) := by decide +kernel
theorem d_Mo_readParts_200 : decode b_Mo_readParts 200 = .ok (.iconst 0, 1) := by decide +kernel
theorem d_Mo_readParts_201 : decode b_Mo_readParts 201 = .ok (.istore 5, 2) := by decide +kernel
theorem d_Mo_readParts_203 : decode b_Mo_readParts 203 = .ok (.iload 5, 2) := by decide +kernel
theorem d_Mo_readParts_205 : decode b_Mo_readParts 205 = .ok (.ifCond .ne 17, 3) := by decide +kernel
theorem d_Mo_readParts_208 : decode b_Mo_readParts 208 = .ok (.aload_n 0, 1) := by decide +kernel
theorem d_Mo_readParts_209 : decode b_Mo_readParts 209 = .ok (.getfield 13, 3) := by decide +kernel
theorem d_Mo_readParts_212 : decode b_Mo_readParts 212 = .ok (.iload_n 1, 1) := by decide +kernel
theorem d_Mo_readParts_213 : decode b_Mo_readParts 213 = .ok (.iaload, 1) := by decide +kernel
theorem d_Mo_readParts_214 : decode b_Mo_readParts 214 = .ok (.sipush 255, 3) := by decide +kernel
theorem d_Mo_readParts_217 : decode b_Mo_readParts 217 = .ok (.if_icmp .ne 5, 3) := by decide +kernel
theorem d_Mo_readParts_220 : decode b_Mo_readParts 220 = .ok (.iconst 0, 1) := by decide +kernel
theorem d_Mo_readParts_221 : decode b_Mo_readParts 221 = .ok (.ireturn, 1) := by decide +kernel
theorem d_Mo_readParts_222 : decode b_Mo_readParts 222 = .ok (.iload 5, 2) := by decide +kernel
theorem d_Mo_readParts_224 : decode b_Mo_readParts 224 = .ok (.ifCond .ne 10, 3) := by decide +kernel
theorem d_Mo_readParts_227 : decode b_Mo_readParts 227 = .ok (.aload_n 0, 1) := by decide +kernel
theorem d_Mo_readParts_228 : decode b_Mo_readParts 228 = .ok (.iload_n 1, 1) := by decide +kernel
theorem d_Mo_readParts_229 : decode b_Mo_readParts 229 = .ok (.iload 9, 2) := by decide +kernel
theorem d_Mo_readParts_231 : decode b_Mo_readParts 231 = .ok (.invokevirtual 80, 3) := by decide +kernel
theorem d_Mo_readParts_234 : decode b_Mo_readParts 234 = .ok (.iinc 8 1, 3) := by decide +kernel
theorem d_Mo_readParts_237 : decode b_Mo_readParts 237 = .ok (.goto (-117), 3) := by decide +kernel
theorem d_Mo_readParts_240 : decode b_Mo_readParts 240 = .ok (.iload 5, 2) := by decide +kernel
theorem d_Mo_readParts_242 : decode b_Mo_readParts 242 = .ok (.ifCond .eq 11, 3) := by decide +kernel
theorem d_Mo_readParts_245 : decode b_Mo_readParts 245 = .ok (.iload 6, 2) := by decide +kernel
theorem d_Mo_readParts_247 : decode b_Mo_readParts 247 = .ok (.iload_n 3, 1) := by decide +kernel
theorem d_Mo_readParts_248 : decode b_Mo_readParts 248 = .ok (.if_icmp .ge 5, 3) := by decide +kernel
theorem d_Mo_readParts_251 : decode b_Mo_readParts 251 = .ok (.iconst 0, 1) := by decide +kernel
theorem d_Mo_readParts_252 : decode b_Mo_readParts 252 = .ok (.ireturn, 1) := by decide +kernel
theorem d_Mo_readParts_253 : decode b_Mo_readParts 253 = .ok (.iinc 6 1, 3) := by decide +kernel
theorem d_Mo_readParts_256 : decode b_Mo_readParts 256 = .ok (.goto (-243), 3) := by decide +kernel
theorem d_Mo_readParts_259 : decode b_Mo_readParts 259 = .ok (.aload_n 0, 1) := by decide +kernel
theorem d_Mo_readParts_260 : decode b_Mo_readParts 260 = .ok (.iload_n 1, 1) := by decide +kernel
theorem d_Mo_readParts_261 : decode b_Mo_readParts 261 = .ok (.invokevirtual 48, 3) := by decide +kernel
theorem d_Mo_readParts_264 : decode b_Mo_readParts 264 = .ok (.ireturn, 1) := by decide +kernel
abbrev b_Mo_read : ByteArray := prog_9_method_28_code
abbrev y_Mo_read : MethodName := ⟨"LongNamesModel", "read", "(III)I"⟩
abbrev w_Mo_read : List Cond := .code y_Mo_read b_Mo_read 6 (some .int) :: BIG
theorem d_Mo_read_0 : decode b_Mo_read 0 = .ok (.iload_n 1, 1) := by decide +kernel
theorem d_Mo_read_1 : decode b_Mo_read 1 = .ok (.invokestatic 26, 3) := by decide +kernel
theorem d_Mo_read_4 : decode b_Mo_read 4 = .ok (.ifCond .eq 10, 3) := by decide +kernel
theorem d_Mo_read_7 : decode b_Mo_read 7 = .ok (.aload_n 0, 1) := by decide +kernel
theorem d_Mo_read_8 : decode b_Mo_read 8 = .ok (.getfield 13, 3) := by decide +kernel
theorem d_Mo_read_11 : decode b_Mo_read 11 = .ok (.iload_n 1, 1) := by decide +kernel
theorem d_Mo_read_12 : decode b_Mo_read 12 = .ok (.iconst 0, 1) := by decide +kernel
theorem d_Mo_read_13 : decode b_Mo_read 13 = .ok (.iastore, 1) := by decide +kernel
theorem d_Mo_read_14 : decode b_Mo_read 14 = .ok (.aload_n 0, 1) := by decide +kernel
theorem d_Mo_read_15 : decode b_Mo_read 15 = .ok (.iload_n 1, 1) := by decide +kernel
theorem d_Mo_read_16 : decode b_Mo_read 16 = .ok (.invokestatic 26, 3) := by decide +kernel
theorem d_Mo_read_19 : decode b_Mo_read 19 = .ok (.ifCond .eq 13, 3) := by decide +kernel
theorem d_Mo_read_22 : decode b_Mo_read 22 = .ok (.iload_n 3, 1) := by decide +kernel
theorem d_Mo_read_23 : decode b_Mo_read 23 = .ok (.ifCond .lt 9, 3) := by decide +kernel
theorem d_Mo_read_26 : decode b_Mo_read 26 = .ok (.iload_n 3, 1) := by decide +kernel
theorem d_Mo_read_27 : decode b_Mo_read 27 = .ok (.bipush 20, 2) := by decide +kernel
theorem d_Mo_read_29 : decode b_Mo_read 29 = .ok (.if_icmp .le 7, 3) := by decide +kernel
theorem d_Mo_read_32 : decode b_Mo_read 32 = .ok (.iconst 1, 1) := by decide +kernel
theorem d_Mo_read_33 : decode b_Mo_read 33 = .ok (.goto 23, 3) := by decide +kernel
theorem d_Mo_read_36 : decode b_Mo_read 36 = .ok (.iload_n 2, 1) := by decide +kernel
theorem d_Mo_read_37 : decode b_Mo_read 37 = .ok (.ifCond .lt 14, 3) := by decide +kernel
theorem d_Mo_read_40 : decode b_Mo_read 40 = .ok (.iload_n 2, 1) := by decide +kernel
theorem d_Mo_read_41 : decode b_Mo_read 41 = .ok (.bipush 31, 2) := by decide +kernel
theorem d_Mo_read_43 : decode b_Mo_read 43 = .ok (.if_icmp .gt 8, 3) := by decide +kernel
theorem d_Mo_read_46 : decode b_Mo_read 46 = .ok (.iload_n 2, 1) := by decide +kernel
theorem d_Mo_read_47 : decode b_Mo_read 47 = .ok (.iload_n 3, 1) := by decide +kernel
theorem d_Mo_read_48 : decode b_Mo_read 48 = .ok (.if_icmp .ge 7, 3) := by decide +kernel
theorem d_Mo_read_51 : decode b_Mo_read 51 = .ok (.iconst 2, 1) := by decide +kernel
theorem d_Mo_read_52 : decode b_Mo_read 52 = .ok (.goto 4, 3) := by decide +kernel
theorem d_Mo_read_55 : decode b_Mo_read 55 = .ok (.iconst 0, 1) := by decide +kernel
theorem d_Mo_read_56 : decode b_Mo_read 56 = .ok (.putfield 22, 3) := by decide +kernel
theorem d_Mo_read_59 : decode b_Mo_read 59 = .ok (.aload_n 0, 1) := by decide +kernel
theorem d_Mo_read_60 : decode b_Mo_read 60 = .ok (.getfield 22, 3) := by decide +kernel
theorem d_Mo_read_63 : decode b_Mo_read 63 = .ok (.ifCond .le 5, 3) := by decide +kernel
theorem d_Mo_read_66 : decode b_Mo_read 66 = .ok (.iconst 0, 1) := by decide +kernel
theorem d_Mo_read_67 : decode b_Mo_read 67 = .ok (.ireturn, 1) := by decide +kernel
theorem d_Mo_read_68 : decode b_Mo_read 68 = .ok (.bipush 32, 2) := by decide +kernel
theorem d_Mo_read_70 : decode b_Mo_read 70 = .ok (.iload_n 2, 1) := by decide +kernel
theorem d_Mo_read_71 : decode b_Mo_read 71 = .ok (.imul, 1) := by decide +kernel
theorem d_Mo_read_72 : decode b_Mo_read 72 = .ok (.istore 4, 2) := by decide +kernel
theorem d_Mo_read_74 : decode b_Mo_read 74 = .ok (.aload_n 0, 1) := by decide +kernel
theorem d_Mo_read_75 : decode b_Mo_read 75 = .ok (.iload 4, 2) := by decide +kernel
theorem d_Mo_read_77 : decode b_Mo_read 77 = .ok (.invokevirtual 83, 3) := by decide +kernel
theorem d_Mo_read_80 : decode b_Mo_read 80 = .ok (.istore 5, 2) := by decide +kernel
theorem d_Mo_read_82 : decode b_Mo_read 82 = .ok (.iload 5, 2) := by decide +kernel
theorem d_Mo_read_84 : decode b_Mo_read 84 = .ok (.ifCond .eq 14, 3) := by decide +kernel
theorem d_Mo_read_87 : decode b_Mo_read 87 = .ok (.iload_n 3, 1) := by decide +kernel
theorem d_Mo_read_88 : decode b_Mo_read 88 = .ok (.ifCond .ne 10, 3) := by decide +kernel
theorem d_Mo_read_91 : decode b_Mo_read 91 = .ok (.aload_n 0, 1) := by decide +kernel
theorem d_Mo_read_92 : decode b_Mo_read 92 = .ok (.iload_n 1, 1) := by decide +kernel
theorem d_Mo_read_93 : decode b_Mo_read 93 = .ok (.iload 4, 2) := by decide +kernel
theorem d_Mo_read_95 : decode b_Mo_read 95 = .ok (.invokevirtual 86, 3) := by decide +kernel
theorem d_Mo_read_98 : decode b_Mo_read 98 = .ok (.iload 5, 2) := by decide +kernel
theorem d_Mo_read_100 : decode b_Mo_read 100 = .ok (.ifCond .eq 17, 3) := by decide +kernel
theorem d_Mo_read_103 : decode b_Mo_read 103 = .ok (.iload_n 3, 1) := by decide +kernel
theorem d_Mo_read_104 : decode b_Mo_read 104 = .ok (.ifCond .le 13, 3) := by decide +kernel
theorem d_Mo_read_107 : decode b_Mo_read 107 = .ok (.aload_n 0, 1) := by decide +kernel
theorem d_Mo_read_108 : decode b_Mo_read 108 = .ok (.iload_n 1, 1) := by decide +kernel
theorem d_Mo_read_109 : decode b_Mo_read 109 = .ok (.iload 4, 2) := by decide +kernel
theorem d_Mo_read_111 : decode b_Mo_read 111 = .ok (.iload_n 3, 1) := by decide +kernel
theorem d_Mo_read_112 : decode b_Mo_read 112 = .ok (.invokevirtual 89, 3) := by decide +kernel
theorem d_Mo_read_115 : decode b_Mo_read 115 = .ok (.istore 5, 2) := by decide +kernel
theorem d_Mo_read_117 : decode b_Mo_read 117 = .ok (.iload 5, 2) := by decide +kernel
theorem d_Mo_read_119 : decode b_Mo_read 119 = .ok (.ifCond .ne 17, 3) := by decide +kernel
theorem d_Mo_read_122 : decode b_Mo_read 122 = .ok (.aload_n 0, 1) := by decide +kernel
theorem d_Mo_read_123 : decode b_Mo_read 123 = .ok (.getfield 13, 3) := by decide +kernel
theorem d_Mo_read_126 : decode b_Mo_read 126 = .ok (.iload_n 1, 1) := by decide +kernel
theorem d_Mo_read_127 : decode b_Mo_read 127 = .ok (.iconst 0, 1) := by decide +kernel
theorem d_Mo_read_128 : decode b_Mo_read 128 = .ok (.iastore, 1) := by decide +kernel
theorem d_Mo_read_129 : decode b_Mo_read 129 = .ok (.aload_n 0, 1) := by decide +kernel
theorem d_Mo_read_130 : decode b_Mo_read 130 = .ok (.iconst 3, 1) := by decide +kernel
theorem d_Mo_read_131 : decode b_Mo_read 131 = .ok (.putfield 22, 3) := by decide +kernel
theorem d_Mo_read_134 : decode b_Mo_read 134 = .ok (.iconst 0, 1) := by decide +kernel
theorem d_Mo_read_135 : decode b_Mo_read 135 = .ok (.ireturn, 1) := by decide +kernel
theorem d_Mo_read_136 : decode b_Mo_read 136 = .ok (.aload_n 0, 1) := by decide +kernel
theorem d_Mo_read_137 : decode b_Mo_read 137 = .ok (.getfield 13, 3) := by decide +kernel
theorem d_Mo_read_140 : decode b_Mo_read 140 = .ok (.iload_n 1, 1) := by decide +kernel
theorem d_Mo_read_141 : decode b_Mo_read 141 = .ok (.iaload, 1) := by decide +kernel
theorem d_Mo_read_142 : decode b_Mo_read 142 = .ok (.ireturn, 1) := by decide +kernel
abbrev b_Mo_isByte : ByteArray := prog_9_method_29_code
abbrev y_Mo_isByte : MethodName := ⟨"LongNamesModel", "isByte", "(II)Z"⟩
abbrev w_Mo_isByte : List Cond := .code y_Mo_isByte b_Mo_isByte 2 (some .boolean) :: BIG
theorem d_Mo_isByte_0 : decode b_Mo_isByte 0 = .ok (.iload_n 0, 1) := by decide +kernel
theorem d_Mo_isByte_1 : decode b_Mo_isByte 1 = .ok (.ifCond .lt 23, 3) := by decide +kernel
theorem d_Mo_isByte_4 : decode b_Mo_isByte 4 = .ok (.iload_n 0, 1) := by decide +kernel
theorem d_Mo_isByte_5 : decode b_Mo_isByte 5 = .ok (.bipush 32, 2) := by decide +kernel
theorem d_Mo_isByte_7 : decode b_Mo_isByte 7 = .ok (.if_icmp .ge 17, 3) := by decide +kernel
theorem d_Mo_isByte_10 : decode b_Mo_isByte 10 = .ok (.iload_n 1, 1) := by decide +kernel
theorem d_Mo_isByte_11 : decode b_Mo_isByte 11 = .ok (.ifCond .lt 13, 3) := by decide +kernel
theorem d_Mo_isByte_14 : decode b_Mo_isByte 14 = .ok (.iload_n 1, 1) := by decide +kernel
theorem d_Mo_isByte_15 : decode b_Mo_isByte 15 = .ok (.bipush 32, 2) := by decide +kernel
theorem d_Mo_isByte_17 : decode b_Mo_isByte 17 = .ok (.if_icmp .ge 7, 3) := by decide +kernel
theorem d_Mo_isByte_20 : decode b_Mo_isByte 20 = .ok (.iconst 1, 1) := by decide +kernel
theorem d_Mo_isByte_21 : decode b_Mo_isByte 21 = .ok (.goto 4, 3) := by decide +kernel
theorem d_Mo_isByte_24 : decode b_Mo_isByte 24 = .ok (.iconst 0, 1) := by decide +kernel
theorem d_Mo_isByte_25 : decode b_Mo_isByte 25 = .ok (.ireturn, 1) := by decide +kernel
abbrev b_Mo_poke : ByteArray := prog_9_method_30_code
abbrev y_Mo_poke : MethodName := ⟨"LongNamesModel", "poke", "(III)Z"⟩
abbrev w_Mo_poke : List Cond := .code y_Mo_poke b_Mo_poke 4 (some .boolean) :: BIG
theorem d_Mo_poke_0 : decode b_Mo_poke 0 = .ok (.aload_n 0, 1) := by decide +kernel
theorem d_Mo_poke_1 : decode b_Mo_poke 1 = .ok (.iconst 0, 1) := by decide +kernel
theorem d_Mo_poke_2 : decode b_Mo_poke 2 = .ok (.putfield 22, 3) := by decide +kernel
theorem d_Mo_poke_5 : decode b_Mo_poke 5 = .ok (.iload_n 1, 1) := by decide +kernel
theorem d_Mo_poke_6 : decode b_Mo_poke 6 = .ok (.iload_n 2, 1) := by decide +kernel
theorem d_Mo_poke_7 : decode b_Mo_poke 7 = .ok (.invokestatic 93, 3) := by decide +kernel
theorem d_Mo_poke_10 : decode b_Mo_poke 10 = .ok (.ifCond .ne 5, 3) := by decide +kernel
theorem d_Mo_poke_13 : decode b_Mo_poke 13 = .ok (.iconst 0, 1) := by decide +kernel
theorem d_Mo_poke_14 : decode b_Mo_poke 14 = .ok (.ireturn, 1) := by decide +kernel
theorem d_Mo_poke_15 : decode b_Mo_poke 15 = .ok (.aload_n 0, 1) := by decide +kernel
theorem d_Mo_poke_16 : decode b_Mo_poke 16 = .ok (.getfield 16, 3) := by decide +kernel
theorem d_Mo_poke_19 : decode b_Mo_poke 19 = .ok (.bipush 32, 2) := by decide +kernel
theorem d_Mo_poke_21 : decode b_Mo_poke 21 = .ok (.iload_n 1, 1) := by decide +kernel
theorem d_Mo_poke_22 : decode b_Mo_poke 22 = .ok (.imul, 1) := by decide +kernel
theorem d_Mo_poke_23 : decode b_Mo_poke 23 = .ok (.iload_n 2, 1) := by decide +kernel
theorem d_Mo_poke_24 : decode b_Mo_poke 24 = .ok (.iadd, 1) := by decide +kernel
theorem d_Mo_poke_25 : decode b_Mo_poke 25 = .ok (.iload_n 3, 1) := by decide +kernel
theorem d_Mo_poke_26 : decode b_Mo_poke 26 = .ok (.sipush 255, 3) := by decide +kernel
theorem d_Mo_poke_29 : decode b_Mo_poke 29 = .ok (.iand, 1) := by decide +kernel
theorem d_Mo_poke_30 : decode b_Mo_poke 30 = .ok (.iastore, 1) := by decide +kernel
theorem d_Mo_poke_31 : decode b_Mo_poke 31 = .ok (.iconst 1, 1) := by decide +kernel
theorem d_Mo_poke_32 : decode b_Mo_poke 32 = .ok (.ireturn, 1) := by decide +kernel
abbrev b_Mo_byteAt : ByteArray := prog_9_method_31_code
abbrev y_Mo_byteAt : MethodName := ⟨"LongNamesModel", "byteAt", "(II)I"⟩
abbrev w_Mo_byteAt : List Cond := .code y_Mo_byteAt b_Mo_byteAt 3 (some .int) :: BIG
theorem d_Mo_byteAt_0 : decode b_Mo_byteAt 0 = .ok (.aload_n 0, 1) := by decide +kernel
theorem d_Mo_byteAt_1 : decode b_Mo_byteAt 1 = .ok (.iconst 0, 1) := by decide +kernel
theorem d_Mo_byteAt_2 : decode b_Mo_byteAt 2 = .ok (.putfield 22, 3) := by decide +kernel
theorem d_Mo_byteAt_5 : decode b_Mo_byteAt 5 = .ok (.iload_n 1, 1) := by decide +kernel
theorem d_Mo_byteAt_6 : decode b_Mo_byteAt 6 = .ok (.iload_n 2, 1) := by decide +kernel
theorem d_Mo_byteAt_7 : decode b_Mo_byteAt 7 = .ok (.invokestatic 93, 3) := by decide +kernel
theorem d_Mo_byteAt_10 : decode b_Mo_byteAt 10 = .ok (.ifCond .eq 17, 3) := by decide +kernel
theorem d_Mo_byteAt_13 : decode b_Mo_byteAt 13 = .ok (.aload_n 0, 1) := by decide +kernel
theorem d_Mo_byteAt_14 : decode b_Mo_byteAt 14 = .ok (.getfield 16, 3) := by decide +kernel
theorem d_Mo_byteAt_17 : decode b_Mo_byteAt 17 = .ok (.bipush 32, 2) := by decide +kernel
theorem d_Mo_byteAt_19 : decode b_Mo_byteAt 19 = .ok (.iload_n 1, 1) := by decide +kernel
theorem d_Mo_byteAt_20 : decode b_Mo_byteAt 20 = .ok (.imul, 1) := by decide +kernel
theorem d_Mo_byteAt_21 : decode b_Mo_byteAt 21 = .ok (.iload_n 2, 1) := by decide +kernel
theorem d_Mo_byteAt_22 : decode b_Mo_byteAt 22 = .ok (.iadd, 1) := by decide +kernel
theorem d_Mo_byteAt_23 : decode b_Mo_byteAt 23 = .ok (.iaload, 1) := by decide +kernel
theorem d_Mo_byteAt_24 : decode b_Mo_byteAt 24 = .ok (.goto 4, 3) := by decide +kernel
theorem d_Mo_byteAt_27 : decode b_Mo_byteAt 27 = .ok (.iconst (-1), 1) := by decide +kernel
theorem d_Mo_byteAt_28 : decode b_Mo_byteAt 28 = .ok (.ireturn, 1) := by decide +kernel
abbrev b_Mo_sum : ByteArray := prog_9_method_32_code
abbrev y_Mo_sum : MethodName := ⟨"LongNamesModel", "sum", "(I)I"⟩
abbrev w_Mo_sum : List Cond := .code y_Mo_sum b_Mo_sum 2 (some .int) :: BIG
theorem d_Mo_sum_0 : decode b_Mo_sum 0 = .ok (.aload_n 0, 1) := by decide +kernel
theorem d_Mo_sum_1 : decode b_Mo_sum 1 = .ok (.iconst 0, 1) := by decide +kernel
theorem d_Mo_sum_2 : decode b_Mo_sum 2 = .ok (.putfield 22, 3) := by decide +kernel
theorem d_Mo_sum_5 : decode b_Mo_sum 5 = .ok (.iload_n 1, 1) := by decide +kernel
theorem d_Mo_sum_6 : decode b_Mo_sum 6 = .ok (.iconst 0, 1) := by decide +kernel
theorem d_Mo_sum_7 : decode b_Mo_sum 7 = .ok (.invokestatic 93, 3) := by decide +kernel
theorem d_Mo_sum_10 : decode b_Mo_sum 10 = .ok (.ifCond .eq 14, 3) := by decide +kernel
theorem d_Mo_sum_13 : decode b_Mo_sum 13 = .ok (.aload_n 0, 1) := by decide +kernel
theorem d_Mo_sum_14 : decode b_Mo_sum 14 = .ok (.bipush 32, 2) := by decide +kernel
theorem d_Mo_sum_16 : decode b_Mo_sum 16 = .ok (.iload_n 1, 1) := by decide +kernel
theorem d_Mo_sum_17 : decode b_Mo_sum 17 = .ok (.imul, 1) := by decide +kernel
theorem d_Mo_sum_18 : decode b_Mo_sum 18 = .ok (.invokevirtual 70, 3) := by decide +kernel
theorem d_Mo_sum_21 : decode b_Mo_sum 21 = .ok (.goto 4, 3) := by decide +kernel
theorem d_Mo_sum_24 : decode b_Mo_sum 24 = .ok (.iconst (-1), 1) := by decide +kernel
theorem d_Mo_sum_25 : decode b_Mo_sum 25 = .ok (.ireturn, 1) := by decide +kernel
abbrev b_Mo_isLeap : ByteArray := prog_9_method_33_code
abbrev y_Mo_isLeap : MethodName := ⟨"LongNamesModel", "isLeap", "(I)Z"⟩
abbrev w_Mo_isLeap : List Cond := .code y_Mo_isLeap b_Mo_isLeap 1 (some .boolean) :: BIG
theorem d_Mo_isLeap_0 : decode b_Mo_isLeap 0 = .ok (.iload_n 0, 1) := by decide +kernel
theorem d_Mo_isLeap_1 : decode b_Mo_isLeap 1 = .ok (.iconst 4, 1) := by decide +kernel
theorem d_Mo_isLeap_2 : decode b_Mo_isLeap 2 = .ok (.irem, 1) := by decide +kernel
theorem d_Mo_isLeap_3 : decode b_Mo_isLeap 3 = .ok (.ifCond .ne 10, 3) := by decide +kernel
theorem d_Mo_isLeap_6 : decode b_Mo_isLeap 6 = .ok (.iload_n 0, 1) := by decide +kernel
theorem d_Mo_isLeap_7 : decode b_Mo_isLeap 7 = .ok (.bipush 100, 2) := by decide +kernel
theorem d_Mo_isLeap_9 : decode b_Mo_isLeap 9 = .ok (.irem, 1) := by decide +kernel
theorem d_Mo_isLeap_10 : decode b_Mo_isLeap 10 = .ok (.ifCond .ne 11, 3) := by decide +kernel
theorem d_Mo_isLeap_13 : decode b_Mo_isLeap 13 = .ok (.iload_n 0, 1) := by decide +kernel
theorem d_Mo_isLeap_14 : decode b_Mo_isLeap 14 = .ok (.sipush 400, 3) := by decide +kernel
theorem d_Mo_isLeap_17 : decode b_Mo_isLeap 17 = .ok (.irem, 1) := by decide +kernel
theorem d_Mo_isLeap_18 : decode b_Mo_isLeap 18 = .ok (.ifCond .ne 7, 3) := by decide +kernel
theorem d_Mo_isLeap_21 : decode b_Mo_isLeap 21 = .ok (.iconst 1, 1) := by decide +kernel
theorem d_Mo_isLeap_22 : decode b_Mo_isLeap 22 = .ok (.goto 4, 3) := by decide +kernel
theorem d_Mo_isLeap_25 : decode b_Mo_isLeap 25 = .ok (.iconst 0, 1) := by decide +kernel
theorem d_Mo_isLeap_26 : decode b_Mo_isLeap 26 = .ok (.ireturn, 1) := by decide +kernel
abbrev b_Mo_lengthOf : ByteArray := prog_9_method_34_code
abbrev y_Mo_lengthOf : MethodName := ⟨"LongNamesModel", "lengthOf", "(II)I"⟩
abbrev w_Mo_lengthOf : List Cond := .code y_Mo_lengthOf b_Mo_lengthOf 2 (some .int) :: BIG
theorem d_Mo_lengthOf_0 : decode b_Mo_lengthOf 0 = .ok (.iload_n 0, 1) := by decide +kernel
theorem d_Mo_lengthOf_1 : decode b_Mo_lengthOf 1 = .ok (.tableswitch 73 2 11 #[55, 73, 70, 73, 70, 73, 73, 70, 73, 70], 55) := by decide +kernel
theorem d_Mo_lengthOf_56 : decode b_Mo_lengthOf 56 = .ok (.iload_n 1, 1) := by decide +kernel
theorem d_Mo_lengthOf_57 : decode b_Mo_lengthOf 57 = .ok (.invokestatic 97, 3) := by decide +kernel
theorem d_Mo_lengthOf_60 : decode b_Mo_lengthOf 60 = .ok (.ifCond .eq 8, 3) := by decide +kernel
theorem d_Mo_lengthOf_63 : decode b_Mo_lengthOf 63 = .ok (.bipush 29, 2) := by decide +kernel
theorem d_Mo_lengthOf_65 : decode b_Mo_lengthOf 65 = .ok (.goto 5, 3) := by decide +kernel
theorem d_Mo_lengthOf_68 : decode b_Mo_lengthOf 68 = .ok (.bipush 28, 2) := by decide +kernel
theorem d_Mo_lengthOf_70 : decode b_Mo_lengthOf 70 = .ok (.ireturn, 1) := by decide +kernel
theorem d_Mo_lengthOf_71 : decode b_Mo_lengthOf 71 = .ok (.bipush 30, 2) := by decide +kernel
theorem d_Mo_lengthOf_73 : decode b_Mo_lengthOf 73 = .ok (.ireturn, 1) := by decide +kernel
theorem d_Mo_lengthOf_74 : decode b_Mo_lengthOf 74 = .ok (.bipush 31, 2) := by decide +kernel
theorem d_Mo_lengthOf_76 : decode b_Mo_lengthOf 76 = .ok (.ireturn, 1) := by decide +kernel
abbrev b_Mo_seconds : ByteArray := prog_9_method_35_code
abbrev y_Mo_seconds : MethodName := ⟨"LongNamesModel", "seconds", "(II)J"⟩
abbrev w_Mo_seconds : List Cond := .code y_Mo_seconds b_Mo_seconds 11 (some .long) :: BIG
theorem d_Mo_seconds_0 : decode b_Mo_seconds 0 = .ok (.aload_n 0, 1) := by decide +kernel
theorem d_Mo_seconds_1 : decode b_Mo_seconds 1 = .ok (.iconst 0, 1) := by decide +kernel
theorem d_Mo_seconds_2 : decode b_Mo_seconds 2 = .ok (.putfield 22, 3) := by decide +kernel
theorem d_Mo_seconds_5 : decode b_Mo_seconds 5 = .ok (.iload_n 1, 1) := by decide +kernel
theorem d_Mo_seconds_6 : decode b_Mo_seconds 6 = .ok (.ifCond .lt 19, 3) := by decide +kernel
theorem d_Mo_seconds_9 : decode b_Mo_seconds 9 = .ok (.iload_n 1, 1) := by decide +kernel
theorem d_Mo_seconds_10 : decode b_Mo_seconds 10 = .ok (.ldc 30, 2) := by decide +kernel
theorem d_Mo_seconds_12 : decode b_Mo_seconds 12 = .ok (.if_icmp .gt 13, 3) := by decide +kernel
theorem d_Mo_seconds_15 : decode b_Mo_seconds 15 = .ok (.iload_n 2, 1) := by decide +kernel
theorem d_Mo_seconds_16 : decode b_Mo_seconds 16 = .ok (.ifCond .lt 9, 3) := by decide +kernel
theorem d_Mo_seconds_19 : decode b_Mo_seconds 19 = .ok (.iload_n 2, 1) := by decide +kernel
theorem d_Mo_seconds_20 : decode b_Mo_seconds 20 = .ok (.ldc 30, 2) := by decide +kernel
theorem d_Mo_seconds_22 : decode b_Mo_seconds 22 = .ok (.if_icmp .le 7, 3) := by decide +kernel
theorem d_Mo_seconds_25 : decode b_Mo_seconds 25 = .ok (.ldc2_w 100, 3) := by decide +kernel
theorem d_Mo_seconds_28 : decode b_Mo_seconds 28 = .ok (.lreturn, 1) := by decide +kernel
theorem d_Mo_seconds_29 : decode b_Mo_seconds 29 = .ok (.sipush 1980, 3) := by decide +kernel
theorem d_Mo_seconds_32 : decode b_Mo_seconds 32 = .ok (.iload_n 1, 1) := by decide +kernel
theorem d_Mo_seconds_33 : decode b_Mo_seconds 33 = .ok (.sipush 512, 3) := by decide +kernel
theorem d_Mo_seconds_36 : decode b_Mo_seconds 36 = .ok (.idiv, 1) := by decide +kernel
theorem d_Mo_seconds_37 : decode b_Mo_seconds 37 = .ok (.iadd, 1) := by decide +kernel
theorem d_Mo_seconds_38 : decode b_Mo_seconds 38 = .ok (.istore_n 3, 1) := by decide +kernel
theorem d_Mo_seconds_39 : decode b_Mo_seconds 39 = .ok (.iload_n 1, 1) := by decide +kernel
theorem d_Mo_seconds_40 : decode b_Mo_seconds 40 = .ok (.bipush 32, 2) := by decide +kernel
theorem d_Mo_seconds_42 : decode b_Mo_seconds 42 = .ok (.idiv, 1) := by decide +kernel
theorem d_Mo_seconds_43 : decode b_Mo_seconds 43 = .ok (.bipush 16, 2) := by decide +kernel
theorem d_Mo_seconds_45 : decode b_Mo_seconds 45 = .ok (.irem, 1) := by decide +kernel
theorem d_Mo_seconds_46 : decode b_Mo_seconds 46 = .ok (.istore 4, 2) := by decide +kernel
theorem d_Mo_seconds_48 : decode b_Mo_seconds 48 = .ok (.iload_n 1, 1) := by decide +kernel
theorem d_Mo_seconds_49 : decode b_Mo_seconds 49 = .ok (.bipush 32, 2) := by decide +kernel
theorem d_Mo_seconds_51 : decode b_Mo_seconds 51 = .ok (.irem, 1) := by decide +kernel
theorem d_Mo_seconds_52 : decode b_Mo_seconds 52 = .ok (.istore 5, 2) := by decide +kernel
theorem d_Mo_seconds_54 : decode b_Mo_seconds 54 = .ok (.iload_n 2, 1) := by decide +kernel
theorem d_Mo_seconds_55 : decode b_Mo_seconds 55 = .ok (.sipush 2048, 3) := by decide +kernel
theorem d_Mo_seconds_58 : decode b_Mo_seconds 58 = .ok (.idiv, 1) := by decide +kernel
theorem d_Mo_seconds_59 : decode b_Mo_seconds 59 = .ok (.istore 6, 2) := by decide +kernel
theorem d_Mo_seconds_61 : decode b_Mo_seconds 61 = .ok (.iload_n 2, 1) := by decide +kernel
theorem d_Mo_seconds_62 : decode b_Mo_seconds 62 = .ok (.bipush 32, 2) := by decide +kernel
theorem d_Mo_seconds_64 : decode b_Mo_seconds 64 = .ok (.idiv, 1) := by decide +kernel
theorem d_Mo_seconds_65 : decode b_Mo_seconds 65 = .ok (.bipush 64, 2) := by decide +kernel
theorem d_Mo_seconds_67 : decode b_Mo_seconds 67 = .ok (.irem, 1) := by decide +kernel
theorem d_Mo_seconds_68 : decode b_Mo_seconds 68 = .ok (.istore 7, 2) := by decide +kernel
theorem d_Mo_seconds_70 : decode b_Mo_seconds 70 = .ok (.iload 4, 2) := by decide +kernel
theorem d_Mo_seconds_72 : decode b_Mo_seconds 72 = .ok (.iconst 1, 1) := by decide +kernel
theorem d_Mo_seconds_73 : decode b_Mo_seconds 73 = .ok (.if_icmp .lt 50, 3) := by decide +kernel
theorem d_Mo_seconds_76 : decode b_Mo_seconds 76 = .ok (.iload 4, 2) := by decide +kernel
theorem d_Mo_seconds_78 : decode b_Mo_seconds 78 = .ok (.bipush 12, 2) := by decide +kernel
theorem d_Mo_seconds_80 : decode b_Mo_seconds 80 = .ok (.if_icmp .gt 43, 3) := by decide +kernel
theorem d_Mo_seconds_83 : decode b_Mo_seconds 83 = .ok (.iload 5, 2) := by decide +kernel
theorem d_Mo_seconds_85 : decode b_Mo_seconds 85 = .ok (.iconst 1, 1) := by decide +kernel
theorem d_Mo_seconds_86 : decode b_Mo_seconds 86 = .ok (.if_icmp .lt 37, 3) := by decide +kernel
theorem d_Mo_seconds_89 : decode b_Mo_seconds 89 = .ok (.iload 5, 2) := by decide +kernel
theorem d_Mo_seconds_91 : decode b_Mo_seconds 91 = .ok (.iload 4, 2) := by decide +kernel
theorem d_Mo_seconds_93 : decode b_Mo_seconds 93 = .ok (.iload_n 3, 1) := by decide +kernel
theorem d_Mo_seconds_94 : decode b_Mo_seconds 94 = .ok (.invokestatic 102, 3) := by decide +kernel
theorem d_Mo_seconds_97 : decode b_Mo_seconds 97 = .ok (.if_icmp .gt 26, 3) := by decide +kernel
theorem d_Mo_seconds_100 : decode b_Mo_seconds 100 = .ok (.iload 6, 2) := by decide +kernel
theorem d_Mo_seconds_102 : decode b_Mo_seconds 102 = .ok (.bipush 23, 2) := by decide +kernel
theorem d_Mo_seconds_104 : decode b_Mo_seconds 104 = .ok (.if_icmp .gt 19, 3) := by decide +kernel
theorem d_Mo_seconds_107 : decode b_Mo_seconds 107 = .ok (.iload 7, 2) := by decide +kernel
theorem d_Mo_seconds_109 : decode b_Mo_seconds 109 = .ok (.bipush 59, 2) := by decide +kernel
theorem d_Mo_seconds_111 : decode b_Mo_seconds 111 = .ok (.if_icmp .gt 12, 3) := by decide +kernel
theorem d_Mo_seconds_114 : decode b_Mo_seconds 114 = .ok (.iload_n 2, 1) := by decide +kernel
theorem d_Mo_seconds_115 : decode b_Mo_seconds 115 = .ok (.bipush 32, 2) := by decide +kernel
theorem d_Mo_seconds_117 : decode b_Mo_seconds 117 = .ok (.irem, 1) := by decide +kernel
theorem d_Mo_seconds_118 : decode b_Mo_seconds 118 = .ok (.bipush 29, 2) := by decide +kernel
theorem d_Mo_seconds_120 : decode b_Mo_seconds 120 = .ok (.if_icmp .le 7, 3) := by decide +kernel
theorem d_Mo_seconds_123 : decode b_Mo_seconds 123 = .ok (.ldc2_w 100, 3) := by decide +kernel
theorem d_Mo_seconds_126 : decode b_Mo_seconds 126 = .ok (.lreturn, 1) := by decide +kernel
theorem d_Mo_seconds_127 : decode b_Mo_seconds 127 = .ok (.iload 5, 2) := by decide +kernel
theorem d_Mo_seconds_129 : decode b_Mo_seconds 129 = .ok (.iconst 1, 1) := by decide +kernel
theorem d_Mo_seconds_130 : decode b_Mo_seconds 130 = .ok (.isub, 1) := by decide +kernel
theorem d_Mo_seconds_131 : decode b_Mo_seconds 131 = .ok (.i2l, 1) := by decide +kernel
theorem d_Mo_seconds_132 : decode b_Mo_seconds 132 = .ok (.lstore 8, 2) := by decide +kernel
theorem d_Mo_seconds_134 : decode b_Mo_seconds 134 = .ok (.sipush 1970, 3) := by decide +kernel
theorem d_Mo_seconds_137 : decode b_Mo_seconds 137 = .ok (.istore 10, 2) := by decide +kernel
theorem d_Mo_seconds_139 : decode b_Mo_seconds 139 = .ok (.iload 10, 2) := by decide +kernel
theorem d_Mo_seconds_141 : decode b_Mo_seconds 141 = .ok (.iload_n 3, 1) := by decide +kernel
theorem d_Mo_seconds_142 : decode b_Mo_seconds 142 = .ok (.if_icmp .ge 32, 3) := by decide +kernel
theorem d_Mo_seconds_145 : decode b_Mo_seconds 145 = .ok (.lload 8, 2) := by decide +kernel
theorem d_Mo_seconds_147 : decode b_Mo_seconds 147 = .ok (.iload 10, 2) := by decide +kernel
theorem d_Mo_seconds_149 : decode b_Mo_seconds 149 = .ok (.invokestatic 97, 3) := by decide +kernel
theorem d_Mo_seconds_152 : decode b_Mo_seconds 152 = .ok (.ifCond .eq 9, 3) := by decide +kernel
theorem d_Mo_seconds_155 : decode b_Mo_seconds 155 = .ok (.sipush 366, 3) := by decide +kernel
theorem d_Mo_seconds_158 : decode b_Mo_seconds 158 = .ok (.goto 6, 3) := by decide +kernel
theorem d_Mo_seconds_161 : decode b_Mo_seconds 161 = .ok (.sipush 365, 3) := by decide +kernel
theorem d_Mo_seconds_164 : decode b_Mo_seconds 164 = .ok (.i2l, 1) := by decide +kernel
theorem d_Mo_seconds_165 : decode b_Mo_seconds 165 = .ok (.ladd, 1) := by decide +kernel
theorem d_Mo_seconds_166 : decode b_Mo_seconds 166 = .ok (.lstore 8, 2) := by decide +kernel
theorem d_Mo_seconds_168 : decode b_Mo_seconds 168 = .ok (.iinc 10 1, 3) := by decide +kernel
theorem d_Mo_seconds_171 : decode b_Mo_seconds 171 = .ok (.goto (-32), 3) := by decide +kernel
theorem d_Mo_seconds_174 : decode b_Mo_seconds 174 = .ok (.iconst 1, 1) := by decide +kernel
theorem d_Mo_seconds_175 : decode b_Mo_seconds 175 = .ok (.istore 10, 2) := by decide +kernel
theorem d_Mo_seconds_177 : decode b_Mo_seconds 177 = .ok (.iload 10, 2) := by decide +kernel
theorem d_Mo_seconds_179 : decode b_Mo_seconds 179 = .ok (.iload 4, 2) := by decide +kernel
theorem d_Mo_seconds_181 : decode b_Mo_seconds 181 = .ok (.if_icmp .ge 21, 3) := by decide +kernel
theorem d_Mo_seconds_184 : decode b_Mo_seconds 184 = .ok (.lload 8, 2) := by decide +kernel
theorem d_Mo_seconds_186 : decode b_Mo_seconds 186 = .ok (.iload 10, 2) := by decide +kernel
theorem d_Mo_seconds_188 : decode b_Mo_seconds 188 = .ok (.iload_n 3, 1) := by decide +kernel
theorem d_Mo_seconds_189 : decode b_Mo_seconds 189 = .ok (.invokestatic 102, 3) := by decide +kernel
theorem d_Mo_seconds_192 : decode b_Mo_seconds 192 = .ok (.i2l, 1) := by decide +kernel
theorem d_Mo_seconds_193 : decode b_Mo_seconds 193 = .ok (.ladd, 1) := by decide +kernel
theorem d_Mo_seconds_194 : decode b_Mo_seconds 194 = .ok (.lstore 8, 2) := by decide +kernel
theorem d_Mo_seconds_196 : decode b_Mo_seconds 196 = .ok (.iinc 10 1, 3) := by decide +kernel
theorem d_Mo_seconds_199 : decode b_Mo_seconds 199 = .ok (.goto (-22), 3) := by decide +kernel
theorem d_Mo_seconds_202 : decode b_Mo_seconds 202 = .ok (.lload 8, 2) := by decide +kernel
theorem d_Mo_seconds_204 : decode b_Mo_seconds 204 = .ok (.ldc2_w 105, 3) := by decide +kernel
theorem d_Mo_seconds_207 : decode b_Mo_seconds 207 = .ok (.lmul, 1) := by decide +kernel
theorem d_Mo_seconds_208 : decode b_Mo_seconds 208 = .ok (.iload 6, 2) := by decide +kernel
theorem d_Mo_seconds_210 : decode b_Mo_seconds 210 = .ok (.i2l, 1) := by decide +kernel
theorem d_Mo_seconds_211 : decode b_Mo_seconds 211 = .ok (.ladd, 1) := by decide +kernel
theorem d_Mo_seconds_212 : decode b_Mo_seconds 212 = .ok (.ldc2_w 107, 3) := by decide +kernel
theorem d_Mo_seconds_215 : decode b_Mo_seconds 215 = .ok (.lmul, 1) := by decide +kernel
theorem d_Mo_seconds_216 : decode b_Mo_seconds 216 = .ok (.iload 7, 2) := by decide +kernel
theorem d_Mo_seconds_218 : decode b_Mo_seconds 218 = .ok (.i2l, 1) := by decide +kernel
theorem d_Mo_seconds_219 : decode b_Mo_seconds 219 = .ok (.ladd, 1) := by decide +kernel
theorem d_Mo_seconds_220 : decode b_Mo_seconds 220 = .ok (.ldc2_w 107, 3) := by decide +kernel
theorem d_Mo_seconds_223 : decode b_Mo_seconds 223 = .ok (.lmul, 1) := by decide +kernel
theorem d_Mo_seconds_224 : decode b_Mo_seconds 224 = .ok (.iconst 2, 1) := by decide +kernel
theorem d_Mo_seconds_225 : decode b_Mo_seconds 225 = .ok (.iload_n 2, 1) := by decide +kernel
theorem d_Mo_seconds_226 : decode b_Mo_seconds 226 = .ok (.bipush 32, 2) := by decide +kernel
theorem d_Mo_seconds_228 : decode b_Mo_seconds 228 = .ok (.irem, 1) := by decide +kernel
theorem d_Mo_seconds_229 : decode b_Mo_seconds 229 = .ok (.imul, 1) := by decide +kernel
theorem d_Mo_seconds_230 : decode b_Mo_seconds 230 = .ok (.i2l, 1) := by decide +kernel
theorem d_Mo_seconds_231 : decode b_Mo_seconds 231 = .ok (.ladd, 1) := by decide +kernel
theorem d_Mo_seconds_232 : decode b_Mo_seconds 232 = .ok (.lreturn, 1) := by decide +kernel
