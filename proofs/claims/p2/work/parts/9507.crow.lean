abbrev b_LM_init : ByteArray := prog_1_method_1_code
def y_LM_init : MethodName := ⟨R_LM, "<init>", "()V"⟩
abbrev w_LM_init : List Cond := .code y_LM_init b_LM_init 2 none :: wA
abbrev b_Ch_init : ByteArray := prog_3_method_1_code
def y_Ch_init : MethodName := ⟨R_Ch, "<init>", "()V"⟩
abbrev w_Ch_init : List Cond := .code y_Ch_init b_Ch_init 1 none :: wA
abbrev b_He_init : ByteArray := prog_6_method_1_code
def y_He_init : MethodName := ⟨R_He, "<init>", "()V"⟩
abbrev w_He_init : List Cond := .code y_He_init b_He_init 1 none :: wA
abbrev b_Ta_init : ByteArray := prog_11_method_1_code
def y_Ta_init : MethodName := ⟨R_Ta, "<init>", "(LLuaMachine$Heap;)V"⟩
abbrev w_Ta_init : List Cond := .code y_Ta_init b_Ta_init 2 none :: wA
abbrev b_Ma_init : ByteArray := prog_7_method_1_code
def y_Ma_init : MethodName := ⟨R_Ma, "<init>", "(LLuaMachine$Chunk;LLuaMachine$Heap;LLuaMachine$Tables;)V"⟩
abbrev w_Ma_init : List Cond := .code y_Ma_init b_Ma_init 4 none :: wA
abbrev b_Ro_init : ByteArray := prog_9_method_1_code
def y_Ro_init : MethodName := ⟨R_Ro, "<init>", "()V"⟩
abbrev w_Ro_init : List Cond := .code y_Ro_init b_Ro_init 1 none :: wA
abbrev b_St_init : ByteArray := prog_10_method_1_code
def y_St_init : MethodName := ⟨R_St, "<init>", "(LLuaMachine$Machine;)V"⟩
abbrev w_St_init : List Cond := .code y_St_init b_St_init 2 none :: wA
abbrev b_Bu_init : ByteArray := prog_2_method_1_code
def y_Bu_init : MethodName := ⟨R_Bu, "<init>", "(LLuaMachine$Machine;)V"⟩
abbrev w_Bu_init : List Cond := .code y_Bu_init b_Bu_init 2 none :: wA
abbrev b_Mo_init : ByteArray := prog_14_method_1_code
def y_Mo_init : MethodName := ⟨R_Mo, "<init>", "()V"⟩
abbrev w_Mo_init : List Cond := .code y_Mo_init b_Mo_init 2 none :: wA
abbrev b_Va_init : ByteArray := prog_16_method_1_code
def y_Va_init : MethodName := ⟨R_Va, "<init>", "(I)V"⟩
abbrev w_Va_init : List Cond := .code y_Va_init b_Va_init 2 none :: wA
abbrev b_Th_init : ByteArray := prog_15_method_1_code
def y_Th_init : MethodName := ⟨R_Th, "<init>", "()V"⟩
abbrev w_Th_init : List Cond := .code y_Th_init b_Th_init 1 none :: wA
theorem d_LM_init_0 : decode b_LM_init 0 = .ok (.aload_n 0, 1) := by decide +kernel
theorem d_LM_init_1 : decode b_LM_init 1 = .ok (.invokespecial 1, 3) := by decide +kernel
theorem d_LM_init_4 : decode b_LM_init 4 = .ok (.aload_n 0, 1) := by decide +kernel
theorem d_LM_init_5 : decode b_LM_init 5 = .ok (.new 7, 3) := by decide +kernel
theorem d_LM_init_8 : decode b_LM_init 8 = .ok (.dup, 1) := by decide +kernel
theorem d_LM_init_9 : decode b_LM_init 9 = .ok (.invokespecial 9, 3) := by decide +kernel
theorem d_LM_init_12 : decode b_LM_init 12 = .ok (.putfield 10, 3) := by decide +kernel
theorem d_LM_init_15 : decode b_LM_init 15 = .ok (.aload_n 0, 1) := by decide +kernel
theorem d_LM_init_16 : decode b_LM_init 16 = .ok (.new 16, 3) := by decide +kernel
theorem d_LM_init_19 : decode b_LM_init 19 = .ok (.dup, 1) := by decide +kernel
theorem d_LM_init_20 : decode b_LM_init 20 = .ok (.invokespecial 18, 3) := by decide +kernel
theorem d_LM_init_23 : decode b_LM_init 23 = .ok (.putfield 19, 3) := by decide +kernel
theorem d_LM_init_26 : decode b_LM_init 26 = .ok (.new 23, 3) := by decide +kernel
theorem d_LM_init_29 : decode b_LM_init 29 = .ok (.dup, 1) := by decide +kernel
theorem d_LM_init_30 : decode b_LM_init 30 = .ok (.aload_n 0, 1) := by decide +kernel
theorem d_LM_init_31 : decode b_LM_init 31 = .ok (.getfield 19, 3) := by decide +kernel
theorem d_LM_init_34 : decode b_LM_init 34 = .ok (.invokespecial 25, 3) := by decide +kernel
theorem d_LM_init_37 : decode b_LM_init 37 = .ok (.astore_n 1, 1) := by decide +kernel
theorem d_LM_init_38 : decode b_LM_init 38 = .ok (.aload_n 0, 1) := by decide +kernel
theorem d_LM_init_39 : decode b_LM_init 39 = .ok (.new 28, 3) := by decide +kernel
theorem d_LM_init_42 : decode b_LM_init 42 = .ok (.dup, 1) := by decide +kernel
theorem d_LM_init_43 : decode b_LM_init 43 = .ok (.aload_n 0, 1) := by decide +kernel
theorem d_LM_init_44 : decode b_LM_init 44 = .ok (.getfield 10, 3) := by decide +kernel
theorem d_LM_init_47 : decode b_LM_init 47 = .ok (.aload_n 0, 1) := by decide +kernel
theorem d_LM_init_48 : decode b_LM_init 48 = .ok (.getfield 19, 3) := by decide +kernel
theorem d_LM_init_51 : decode b_LM_init 51 = .ok (.aload_n 1, 1) := by decide +kernel
theorem d_LM_init_52 : decode b_LM_init 52 = .ok (.invokespecial 30, 3) := by decide +kernel
theorem d_LM_init_55 : decode b_LM_init 55 = .ok (.putfield 33, 3) := by decide +kernel
theorem d_LM_init_58 : decode b_LM_init 58 = .ok (.aload_n 0, 1) := by decide +kernel
theorem d_LM_init_59 : decode b_LM_init 59 = .ok (.getfield 19, 3) := by decide +kernel
theorem d_LM_init_62 : decode b_LM_init 62 = .ok (.aload_n 1, 1) := by decide +kernel
theorem d_LM_init_63 : decode b_LM_init 63 = .ok (.putfield 37, 3) := by decide +kernel
theorem d_LM_init_66 : decode b_LM_init 66 = .ok (.aload_n 0, 1) := by decide +kernel
theorem d_LM_init_67 : decode b_LM_init 67 = .ok (.getfield 19, 3) := by decide +kernel
theorem d_LM_init_70 : decode b_LM_init 70 = .ok (.aload_n 0, 1) := by decide +kernel
theorem d_LM_init_71 : decode b_LM_init 71 = .ok (.getfield 33, 3) := by decide +kernel
theorem d_LM_init_74 : decode b_LM_init 74 = .ok (.putfield 41, 3) := by decide +kernel
theorem d_LM_init_77 : decode b_LM_init 77 = .ok (.aload_n 0, 1) := by decide +kernel
theorem d_LM_init_78 : decode b_LM_init 78 = .ok (.new 42, 3) := by decide +kernel
theorem d_LM_init_81 : decode b_LM_init 81 = .ok (.dup, 1) := by decide +kernel
theorem d_LM_init_82 : decode b_LM_init 82 = .ok (.aload_n 0, 1) := by decide +kernel
theorem d_LM_init_83 : decode b_LM_init 83 = .ok (.getfield 33, 3) := by decide +kernel
theorem d_LM_init_86 : decode b_LM_init 86 = .ok (.invokespecial 44, 3) := by decide +kernel
theorem d_LM_init_89 : decode b_LM_init 89 = .ok (.putfield 47, 3) := by decide +kernel
theorem d_LM_init_92 : decode b_LM_init 92 = .ok (.aload_n 0, 1) := by decide +kernel
theorem d_LM_init_93 : decode b_LM_init 93 = .ok (.new 51, 3) := by decide +kernel
theorem d_LM_init_96 : decode b_LM_init 96 = .ok (.dup, 1) := by decide +kernel
theorem d_LM_init_97 : decode b_LM_init 97 = .ok (.aload_n 0, 1) := by decide +kernel
theorem d_LM_init_98 : decode b_LM_init 98 = .ok (.getfield 33, 3) := by decide +kernel
theorem d_LM_init_101 : decode b_LM_init 101 = .ok (.invokespecial 53, 3) := by decide +kernel
theorem d_LM_init_104 : decode b_LM_init 104 = .ok (.putfield 54, 3) := by decide +kernel
theorem d_LM_init_107 : decode b_LM_init 107 = .ok (.return_, 1) := by decide +kernel
theorem d_Ch_init_0 : decode b_Ch_init 0 = .ok (.aload_n 0, 1) := by decide +kernel
theorem d_Ch_init_1 : decode b_Ch_init 1 = .ok (.invokespecial 3, 3) := by decide +kernel
theorem d_Ch_init_4 : decode b_Ch_init 4 = .ok (.aload_n 0, 1) := by decide +kernel
theorem d_Ch_init_5 : decode b_Ch_init 5 = .ok (.sipush 250, 3) := by decide +kernel
theorem d_Ch_init_8 : decode b_Ch_init 8 = .ok (.anewarray 9, 3) := by decide +kernel
theorem d_Ch_init_11 : decode b_Ch_init 11 = .ok (.putfield 11, 3) := by decide +kernel
theorem d_Ch_init_14 : decode b_Ch_init 14 = .ok (.aload_n 0, 1) := by decide +kernel
theorem d_Ch_init_15 : decode b_Ch_init 15 = .ok (.sipush 250, 3) := by decide +kernel
theorem d_Ch_init_18 : decode b_Ch_init 18 = .ok (.newarray .int, 2) := by decide +kernel
theorem d_Ch_init_20 : decode b_Ch_init 20 = .ok (.putfield 17, 3) := by decide +kernel
theorem d_Ch_init_23 : decode b_Ch_init 23 = .ok (.aload_n 0, 1) := by decide +kernel
theorem d_Ch_init_24 : decode b_Ch_init 24 = .ok (.sipush 20000, 3) := by decide +kernel
theorem d_Ch_init_27 : decode b_Ch_init 27 = .ok (.newarray .int, 2) := by decide +kernel
theorem d_Ch_init_29 : decode b_Ch_init 29 = .ok (.putfield 21, 3) := by decide +kernel
theorem d_Ch_init_32 : decode b_Ch_init 32 = .ok (.aload_n 0, 1) := by decide +kernel
theorem d_Ch_init_33 : decode b_Ch_init 33 = .ok (.sipush 20000, 3) := by decide +kernel
theorem d_Ch_init_36 : decode b_Ch_init 36 = .ok (.newarray .byte, 2) := by decide +kernel
theorem d_Ch_init_38 : decode b_Ch_init 38 = .ok (.putfield 24, 3) := by decide +kernel
theorem d_Ch_init_41 : decode b_Ch_init 41 = .ok (.aload_n 0, 1) := by decide +kernel
theorem d_Ch_init_42 : decode b_Ch_init 42 = .ok (.sipush 20000, 3) := by decide +kernel
theorem d_Ch_init_45 : decode b_Ch_init 45 = .ok (.newarray .long, 2) := by decide +kernel
theorem d_Ch_init_47 : decode b_Ch_init 47 = .ok (.putfield 28, 3) := by decide +kernel
theorem d_Ch_init_50 : decode b_Ch_init 50 = .ok (.aload_n 0, 1) := by decide +kernel
theorem d_Ch_init_51 : decode b_Ch_init 51 = .ok (.sipush 15000, 3) := by decide +kernel
theorem d_Ch_init_54 : decode b_Ch_init 54 = .ok (.newarray .int, 2) := by decide +kernel
theorem d_Ch_init_56 : decode b_Ch_init 56 = .ok (.putfield 32, 3) := by decide +kernel
theorem d_Ch_init_59 : decode b_Ch_init 59 = .ok (.aload_n 0, 1) := by decide +kernel
theorem d_Ch_init_60 : decode b_Ch_init 60 = .ok (.ldc 35, 2) := by decide +kernel
theorem d_Ch_init_62 : decode b_Ch_init 62 = .ok (.newarray .byte, 2) := by decide +kernel
theorem d_Ch_init_64 : decode b_Ch_init 64 = .ok (.putfield 36, 3) := by decide +kernel
theorem d_Ch_init_67 : decode b_Ch_init 67 = .ok (.aload_n 0, 1) := by decide +kernel
theorem d_Ch_init_68 : decode b_Ch_init 68 = .ok (.bipush 20, 2) := by decide +kernel
theorem d_Ch_init_70 : decode b_Ch_init 70 = .ok (.newarray .int, 2) := by decide +kernel
theorem d_Ch_init_72 : decode b_Ch_init 72 = .ok (.putfield 39, 3) := by decide +kernel
theorem d_Ch_init_75 : decode b_Ch_init 75 = .ok (.aload_n 0, 1) := by decide +kernel
theorem d_Ch_init_76 : decode b_Ch_init 76 = .ok (.bipush 20, 2) := by decide +kernel
theorem d_Ch_init_78 : decode b_Ch_init 78 = .ok (.newarray .int, 2) := by decide +kernel
theorem d_Ch_init_80 : decode b_Ch_init 80 = .ok (.putfield 42, 3) := by decide +kernel
theorem d_Ch_init_83 : decode b_Ch_init 83 = .ok (.aload_n 0, 1) := by decide +kernel
theorem d_Ch_init_84 : decode b_Ch_init 84 = .ok (.iconst (-1), 1) := by decide +kernel
theorem d_Ch_init_85 : decode b_Ch_init 85 = .ok (.putfield 45, 3) := by decide +kernel
theorem d_Ch_init_88 : decode b_Ch_init 88 = .ok (.return_, 1) := by decide +kernel
theorem d_He_init_0 : decode b_He_init 0 = .ok (.aload_n 0, 1) := by decide +kernel
theorem d_He_init_1 : decode b_He_init 1 = .ok (.invokespecial 3, 3) := by decide +kernel
theorem d_He_init_4 : decode b_He_init 4 = .ok (.aload_n 0, 1) := by decide +kernel
theorem d_He_init_5 : decode b_He_init 5 = .ok (.sipush 4000, 3) := by decide +kernel
theorem d_He_init_8 : decode b_He_init 8 = .ok (.anewarray 9, 3) := by decide +kernel
theorem d_He_init_11 : decode b_He_init 11 = .ok (.putfield 11, 3) := by decide +kernel
theorem d_He_init_14 : decode b_He_init 14 = .ok (.aload_n 0, 1) := by decide +kernel
theorem d_He_init_15 : decode b_He_init 15 = .ok (.sipush 4000, 3) := by decide +kernel
theorem d_He_init_18 : decode b_He_init 18 = .ok (.newarray .int, 2) := by decide +kernel
theorem d_He_init_20 : decode b_He_init 20 = .ok (.putfield 17, 3) := by decide +kernel
theorem d_He_init_23 : decode b_He_init 23 = .ok (.aload_n 0, 1) := by decide +kernel
theorem d_He_init_24 : decode b_He_init 24 = .ok (.bipush 15, 2) := by decide +kernel
theorem d_He_init_26 : decode b_He_init 26 = .ok (.newarray .int, 2) := by decide +kernel
theorem d_He_init_28 : decode b_He_init 28 = .ok (.putfield 21, 3) := by decide +kernel
theorem d_He_init_31 : decode b_He_init 31 = .ok (.aload_n 0, 1) := by decide +kernel
theorem d_He_init_32 : decode b_He_init 32 = .ok (.bipush 57, 2) := by decide +kernel
theorem d_He_init_34 : decode b_He_init 34 = .ok (.newarray .int, 2) := by decide +kernel
theorem d_He_init_36 : decode b_He_init 36 = .ok (.putfield 24, 3) := by decide +kernel
theorem d_He_init_39 : decode b_He_init 39 = .ok (.aload_n 0, 1) := by decide +kernel
theorem d_He_init_40 : decode b_He_init 40 = .ok (.bipush 32, 2) := by decide +kernel
theorem d_He_init_42 : decode b_He_init 42 = .ok (.anewarray 27, 3) := by decide +kernel
theorem d_He_init_45 : decode b_He_init 45 = .ok (.putfield 29, 3) := by decide +kernel
theorem d_He_init_48 : decode b_He_init 48 = .ok (.aload_n 0, 1) := by decide +kernel
theorem d_He_init_49 : decode b_He_init 49 = .ok (.sipush 4096, 3) := by decide +kernel
theorem d_He_init_52 : decode b_He_init 52 = .ok (.newarray .int, 2) := by decide +kernel
theorem d_He_init_54 : decode b_He_init 54 = .ok (.putfield 33, 3) := by decide +kernel
theorem d_He_init_57 : decode b_He_init 57 = .ok (.aload_n 0, 1) := by decide +kernel
theorem d_He_init_58 : decode b_He_init 58 = .ok (.sipush 1024, 3) := by decide +kernel
theorem d_He_init_61 : decode b_He_init 61 = .ok (.newarray .byte, 2) := by decide +kernel
theorem d_He_init_63 : decode b_He_init 63 = .ok (.putfield 36, 3) := by decide +kernel
theorem d_He_init_66 : decode b_He_init 66 = .ok (.aload_n 0, 1) := by decide +kernel
theorem d_He_init_67 : decode b_He_init 67 = .ok (.sipush 4000, 3) := by decide +kernel
theorem d_He_init_70 : decode b_He_init 70 = .ok (.newarray .int, 2) := by decide +kernel
theorem d_He_init_72 : decode b_He_init 72 = .ok (.putfield 40, 3) := by decide +kernel
theorem d_He_init_75 : decode b_He_init 75 = .ok (.aload_n 0, 1) := by decide +kernel
theorem d_He_init_76 : decode b_He_init 76 = .ok (.sipush 1000, 3) := by decide +kernel
theorem d_He_init_79 : decode b_He_init 79 = .ok (.putfield 43, 3) := by decide +kernel
theorem d_He_init_82 : decode b_He_init 82 = .ok (.return_, 1) := by decide +kernel
theorem d_Ta_init_0 : decode b_Ta_init 0 = .ok (.aload_n 0, 1) := by decide +kernel
theorem d_Ta_init_1 : decode b_Ta_init 1 = .ok (.invokespecial 3, 3) := by decide +kernel
theorem d_Ta_init_4 : decode b_Ta_init 4 = .ok (.aload_n 0, 1) := by decide +kernel
theorem d_Ta_init_5 : decode b_Ta_init 5 = .ok (.ldc 9, 2) := by decide +kernel
theorem d_Ta_init_7 : decode b_Ta_init 7 = .ok (.newarray .byte, 2) := by decide +kernel
theorem d_Ta_init_9 : decode b_Ta_init 9 = .ok (.putfield 10, 3) := by decide +kernel
theorem d_Ta_init_12 : decode b_Ta_init 12 = .ok (.aload_n 0, 1) := by decide +kernel
theorem d_Ta_init_13 : decode b_Ta_init 13 = .ok (.ldc 9, 2) := by decide +kernel
theorem d_Ta_init_15 : decode b_Ta_init 15 = .ok (.newarray .long, 2) := by decide +kernel
theorem d_Ta_init_17 : decode b_Ta_init 17 = .ok (.putfield 16, 3) := by decide +kernel
theorem d_Ta_init_20 : decode b_Ta_init 20 = .ok (.aload_n 0, 1) := by decide +kernel
theorem d_Ta_init_21 : decode b_Ta_init 21 = .ok (.ldc 9, 2) := by decide +kernel
theorem d_Ta_init_23 : decode b_Ta_init 23 = .ok (.newarray .byte, 2) := by decide +kernel
theorem d_Ta_init_25 : decode b_Ta_init 25 = .ok (.putfield 20, 3) := by decide +kernel
theorem d_Ta_init_28 : decode b_Ta_init 28 = .ok (.aload_n 0, 1) := by decide +kernel
theorem d_Ta_init_29 : decode b_Ta_init 29 = .ok (.ldc 9, 2) := by decide +kernel
theorem d_Ta_init_31 : decode b_Ta_init 31 = .ok (.newarray .long, 2) := by decide +kernel
theorem d_Ta_init_33 : decode b_Ta_init 33 = .ok (.putfield 23, 3) := by decide +kernel
theorem d_Ta_init_36 : decode b_Ta_init 36 = .ok (.aload_n 0, 1) := by decide +kernel
theorem d_Ta_init_37 : decode b_Ta_init 37 = .ok (.ldc 9, 2) := by decide +kernel
theorem d_Ta_init_39 : decode b_Ta_init 39 = .ok (.newarray .int, 2) := by decide +kernel
theorem d_Ta_init_41 : decode b_Ta_init 41 = .ok (.putfield 26, 3) := by decide +kernel
theorem d_Ta_init_44 : decode b_Ta_init 44 = .ok (.aload_n 0, 1) := by decide +kernel
theorem d_Ta_init_45 : decode b_Ta_init 45 = .ok (.ldc 9, 2) := by decide +kernel
theorem d_Ta_init_47 : decode b_Ta_init 47 = .ok (.newarray .int, 2) := by decide +kernel
theorem d_Ta_init_49 : decode b_Ta_init 49 = .ok (.putfield 30, 3) := by decide +kernel
theorem d_Ta_init_52 : decode b_Ta_init 52 = .ok (.aload_n 0, 1) := by decide +kernel
theorem d_Ta_init_53 : decode b_Ta_init 53 = .ok (.ldc 9, 2) := by decide +kernel
theorem d_Ta_init_55 : decode b_Ta_init 55 = .ok (.newarray .int, 2) := by decide +kernel
theorem d_Ta_init_57 : decode b_Ta_init 57 = .ok (.putfield 33, 3) := by decide +kernel
theorem d_Ta_init_60 : decode b_Ta_init 60 = .ok (.aload_n 0, 1) := by decide +kernel
theorem d_Ta_init_61 : decode b_Ta_init 61 = .ok (.aload_n 1, 1) := by decide +kernel
theorem d_Ta_init_62 : decode b_Ta_init 62 = .ok (.putfield 36, 3) := by decide +kernel
theorem d_Ta_init_65 : decode b_Ta_init 65 = .ok (.return_, 1) := by decide +kernel
theorem d_Ma_init_0 : decode b_Ma_init 0 = .ok (.aload_n 0, 1) := by decide +kernel
theorem d_Ma_init_1 : decode b_Ma_init 1 = .ok (.invokespecial 3, 3) := by decide +kernel
theorem d_Ma_init_4 : decode b_Ma_init 4 = .ok (.aload_n 0, 1) := by decide +kernel
theorem d_Ma_init_5 : decode b_Ma_init 5 = .ok (.new 9, 3) := by decide +kernel
theorem d_Ma_init_8 : decode b_Ma_init 8 = .ok (.dup, 1) := by decide +kernel
theorem d_Ma_init_9 : decode b_Ma_init 9 = .ok (.invokespecial 11, 3) := by decide +kernel
theorem d_Ma_init_12 : decode b_Ma_init 12 = .ok (.putfield 12, 3) := by decide +kernel
theorem d_Ma_init_15 : decode b_Ma_init 15 = .ok (.aload_n 0, 1) := by decide +kernel
theorem d_Ma_init_16 : decode b_Ma_init 16 = .ok (.new 9, 3) := by decide +kernel
theorem d_Ma_init_19 : decode b_Ma_init 19 = .ok (.dup, 1) := by decide +kernel
theorem d_Ma_init_20 : decode b_Ma_init 20 = .ok (.invokespecial 11, 3) := by decide +kernel
theorem d_Ma_init_23 : decode b_Ma_init 23 = .ok (.putfield 18, 3) := by decide +kernel
theorem d_Ma_init_26 : decode b_Ma_init 26 = .ok (.aload_n 0, 1) := by decide +kernel
theorem d_Ma_init_27 : decode b_Ma_init 27 = .ok (.new 9, 3) := by decide +kernel
theorem d_Ma_init_30 : decode b_Ma_init 30 = .ok (.dup, 1) := by decide +kernel
theorem d_Ma_init_31 : decode b_Ma_init 31 = .ok (.invokespecial 11, 3) := by decide +kernel
theorem d_Ma_init_34 : decode b_Ma_init 34 = .ok (.putfield 21, 3) := by decide +kernel
theorem d_Ma_init_37 : decode b_Ma_init 37 = .ok (.aload_n 0, 1) := by decide +kernel
theorem d_Ma_init_38 : decode b_Ma_init 38 = .ok (.new 9, 3) := by decide +kernel
theorem d_Ma_init_41 : decode b_Ma_init 41 = .ok (.dup, 1) := by decide +kernel
theorem d_Ma_init_42 : decode b_Ma_init 42 = .ok (.invokespecial 11, 3) := by decide +kernel
theorem d_Ma_init_45 : decode b_Ma_init 45 = .ok (.putfield 24, 3) := by decide +kernel
theorem d_Ma_init_48 : decode b_Ma_init 48 = .ok (.aload_n 0, 1) := by decide +kernel
theorem d_Ma_init_49 : decode b_Ma_init 49 = .ok (.aload_n 1, 1) := by decide +kernel
theorem d_Ma_init_50 : decode b_Ma_init 50 = .ok (.putfield 27, 3) := by decide +kernel
theorem d_Ma_init_53 : decode b_Ma_init 53 = .ok (.aload_n 0, 1) := by decide +kernel
theorem d_Ma_init_54 : decode b_Ma_init 54 = .ok (.aload_n 2, 1) := by decide +kernel
theorem d_Ma_init_55 : decode b_Ma_init 55 = .ok (.putfield 31, 3) := by decide +kernel
theorem d_Ma_init_58 : decode b_Ma_init 58 = .ok (.aload_n 0, 1) := by decide +kernel
theorem d_Ma_init_59 : decode b_Ma_init 59 = .ok (.aload_n 3, 1) := by decide +kernel
theorem d_Ma_init_60 : decode b_Ma_init 60 = .ok (.putfield 35, 3) := by decide +kernel
theorem d_Ma_init_63 : decode b_Ma_init 63 = .ok (.return_, 1) := by decide +kernel
theorem d_Ro_init_0 : decode b_Ro_init 0 = .ok (.aload_n 0, 1) := by decide +kernel
theorem d_Ro_init_1 : decode b_Ro_init 1 = .ok (.invokespecial 3, 3) := by decide +kernel
theorem d_Ro_init_4 : decode b_Ro_init 4 = .ok (.aload_n 0, 1) := by decide +kernel
theorem d_Ro_init_5 : decode b_Ro_init 5 = .ok (.sipush 512, 3) := by decide +kernel
theorem d_Ro_init_8 : decode b_Ro_init 8 = .ok (.newarray .byte, 2) := by decide +kernel
theorem d_Ro_init_10 : decode b_Ro_init 10 = .ok (.putfield 9, 3) := by decide +kernel
theorem d_Ro_init_13 : decode b_Ro_init 13 = .ok (.aload_n 0, 1) := by decide +kernel
theorem d_Ro_init_14 : decode b_Ro_init 14 = .ok (.sipush 512, 3) := by decide +kernel
theorem d_Ro_init_17 : decode b_Ro_init 17 = .ok (.newarray .long, 2) := by decide +kernel
theorem d_Ro_init_19 : decode b_Ro_init 19 = .ok (.putfield 15, 3) := by decide +kernel
theorem d_Ro_init_22 : decode b_Ro_init 22 = .ok (.return_, 1) := by decide +kernel
theorem d_St_init_0 : decode b_St_init 0 = .ok (.aload_n 0, 1) := by decide +kernel
theorem d_St_init_1 : decode b_St_init 1 = .ok (.invokespecial 3, 3) := by decide +kernel
theorem d_St_init_4 : decode b_St_init 4 = .ok (.aload_n 0, 1) := by decide +kernel
theorem d_St_init_5 : decode b_St_init 5 = .ok (.aload_n 1, 1) := by decide +kernel
theorem d_St_init_6 : decode b_St_init 6 = .ok (.putfield 9, 3) := by decide +kernel
theorem d_St_init_9 : decode b_St_init 9 = .ok (.aload_n 0, 1) := by decide +kernel
theorem d_St_init_10 : decode b_St_init 10 = .ok (.aload_n 1, 1) := by decide +kernel
theorem d_St_init_11 : decode b_St_init 11 = .ok (.getfield 15, 3) := by decide +kernel
theorem d_St_init_14 : decode b_St_init 14 = .ok (.putfield 21, 3) := by decide +kernel
theorem d_St_init_17 : decode b_St_init 17 = .ok (.aload_n 0, 1) := by decide +kernel
theorem d_St_init_18 : decode b_St_init 18 = .ok (.aload_n 1, 1) := by decide +kernel
theorem d_St_init_19 : decode b_St_init 19 = .ok (.getfield 22, 3) := by decide +kernel
theorem d_St_init_22 : decode b_St_init 22 = .ok (.putfield 26, 3) := by decide +kernel
theorem d_St_init_25 : decode b_St_init 25 = .ok (.aload_n 0, 1) := by decide +kernel
theorem d_St_init_26 : decode b_St_init 26 = .ok (.aload_n 1, 1) := by decide +kernel
theorem d_St_init_27 : decode b_St_init 27 = .ok (.getfield 27, 3) := by decide +kernel
theorem d_St_init_30 : decode b_St_init 30 = .ok (.putfield 31, 3) := by decide +kernel
theorem d_St_init_33 : decode b_St_init 33 = .ok (.return_, 1) := by decide +kernel
theorem d_Bu_init_0 : decode b_Bu_init 0 = .ok (.aload_n 0, 1) := by decide +kernel
theorem d_Bu_init_1 : decode b_Bu_init 1 = .ok (.invokespecial 3, 3) := by decide +kernel
theorem d_Bu_init_4 : decode b_Bu_init 4 = .ok (.aload_n 0, 1) := by decide +kernel
theorem d_Bu_init_5 : decode b_Bu_init 5 = .ok (.sipush 20000, 3) := by decide +kernel
theorem d_Bu_init_8 : decode b_Bu_init 8 = .ok (.newarray .byte, 2) := by decide +kernel
theorem d_Bu_init_10 : decode b_Bu_init 10 = .ok (.putfield 9, 3) := by decide +kernel
theorem d_Bu_init_13 : decode b_Bu_init 13 = .ok (.aload_n 0, 1) := by decide +kernel
theorem d_Bu_init_14 : decode b_Bu_init 14 = .ok (.aload_n 1, 1) := by decide +kernel
theorem d_Bu_init_15 : decode b_Bu_init 15 = .ok (.putfield 15, 3) := by decide +kernel
theorem d_Bu_init_18 : decode b_Bu_init 18 = .ok (.aload_n 0, 1) := by decide +kernel
theorem d_Bu_init_19 : decode b_Bu_init 19 = .ok (.aload_n 1, 1) := by decide +kernel
theorem d_Bu_init_20 : decode b_Bu_init 20 = .ok (.getfield 19, 3) := by decide +kernel
theorem d_Bu_init_23 : decode b_Bu_init 23 = .ok (.putfield 25, 3) := by decide +kernel
theorem d_Bu_init_26 : decode b_Bu_init 26 = .ok (.aload_n 0, 1) := by decide +kernel
theorem d_Bu_init_27 : decode b_Bu_init 27 = .ok (.aload_n 1, 1) := by decide +kernel
theorem d_Bu_init_28 : decode b_Bu_init 28 = .ok (.getfield 26, 3) := by decide +kernel
theorem d_Bu_init_31 : decode b_Bu_init 31 = .ok (.putfield 30, 3) := by decide +kernel
theorem d_Bu_init_34 : decode b_Bu_init 34 = .ok (.aload_n 0, 1) := by decide +kernel
theorem d_Bu_init_35 : decode b_Bu_init 35 = .ok (.aload_n 1, 1) := by decide +kernel
theorem d_Bu_init_36 : decode b_Bu_init 36 = .ok (.getfield 31, 3) := by decide +kernel
theorem d_Bu_init_39 : decode b_Bu_init 39 = .ok (.putfield 35, 3) := by decide +kernel
theorem d_Bu_init_42 : decode b_Bu_init 42 = .ok (.aload_n 0, 1) := by decide +kernel
theorem d_Bu_init_43 : decode b_Bu_init 43 = .ok (.aload_n 1, 1) := by decide +kernel
theorem d_Bu_init_44 : decode b_Bu_init 44 = .ok (.getfield 36, 3) := by decide +kernel
theorem d_Bu_init_47 : decode b_Bu_init 47 = .ok (.putfield 39, 3) := by decide +kernel
theorem d_Bu_init_50 : decode b_Bu_init 50 = .ok (.return_, 1) := by decide +kernel
theorem d_Mo_init_0 : decode b_Mo_init 0 = .ok (.aload_n 0, 1) := by decide +kernel
theorem d_Mo_init_1 : decode b_Mo_init 1 = .ok (.invokespecial 1, 3) := by decide +kernel
theorem d_Mo_init_4 : decode b_Mo_init 4 = .ok (.aload_n 0, 1) := by decide +kernel
theorem d_Mo_init_5 : decode b_Mo_init 5 = .ok (.ldc 7, 2) := by decide +kernel
theorem d_Mo_init_7 : decode b_Mo_init 7 = .ok (.newarray .byte, 2) := by decide +kernel
theorem d_Mo_init_9 : decode b_Mo_init 9 = .ok (.putfield 8, 3) := by decide +kernel
theorem d_Mo_init_12 : decode b_Mo_init 12 = .ok (.aload_n 0, 1) := by decide +kernel
theorem d_Mo_init_13 : decode b_Mo_init 13 = .ok (.iconst 0, 1) := by decide +kernel
theorem d_Mo_init_14 : decode b_Mo_init 14 = .ok (.putfield 14, 3) := by decide +kernel
theorem d_Mo_init_17 : decode b_Mo_init 17 = .ok (.aload_n 0, 1) := by decide +kernel
theorem d_Mo_init_18 : decode b_Mo_init 18 = .ok (.iconst 0, 1) := by decide +kernel
theorem d_Mo_init_19 : decode b_Mo_init 19 = .ok (.putfield 18, 3) := by decide +kernel
theorem d_Mo_init_22 : decode b_Mo_init 22 = .ok (.aload_n 0, 1) := by decide +kernel
theorem d_Mo_init_23 : decode b_Mo_init 23 = .ok (.iconst 0, 1) := by decide +kernel
theorem d_Mo_init_24 : decode b_Mo_init 24 = .ok (.putfield 21, 3) := by decide +kernel
theorem d_Mo_init_27 : decode b_Mo_init 27 = .ok (.aload_n 0, 1) := by decide +kernel
theorem d_Mo_init_28 : decode b_Mo_init 28 = .ok (.iconst (-1), 1) := by decide +kernel
theorem d_Mo_init_29 : decode b_Mo_init 29 = .ok (.putfield 24, 3) := by decide +kernel
theorem d_Mo_init_32 : decode b_Mo_init 32 = .ok (.aload_n 0, 1) := by decide +kernel
theorem d_Mo_init_33 : decode b_Mo_init 33 = .ok (.iconst 0, 1) := by decide +kernel
theorem d_Mo_init_34 : decode b_Mo_init 34 = .ok (.putfield 27, 3) := by decide +kernel
theorem d_Mo_init_37 : decode b_Mo_init 37 = .ok (.aload_n 0, 1) := by decide +kernel
theorem d_Mo_init_38 : decode b_Mo_init 38 = .ok (.sipush 251, 3) := by decide +kernel
theorem d_Mo_init_41 : decode b_Mo_init 41 = .ok (.newarray .int, 2) := by decide +kernel
theorem d_Mo_init_43 : decode b_Mo_init 43 = .ok (.putfield 31, 3) := by decide +kernel
theorem d_Mo_init_46 : decode b_Mo_init 46 = .ok (.aload_n 0, 1) := by decide +kernel
theorem d_Mo_init_47 : decode b_Mo_init 47 = .ok (.sipush 251, 3) := by decide +kernel
theorem d_Mo_init_50 : decode b_Mo_init 50 = .ok (.newarray .int, 2) := by decide +kernel
theorem d_Mo_init_52 : decode b_Mo_init 52 = .ok (.putfield 35, 3) := by decide +kernel
theorem d_Mo_init_55 : decode b_Mo_init 55 = .ok (.aload_n 0, 1) := by decide +kernel
theorem d_Mo_init_56 : decode b_Mo_init 56 = .ok (.sipush 251, 3) := by decide +kernel
theorem d_Mo_init_59 : decode b_Mo_init 59 = .ok (.newarray .int, 2) := by decide +kernel
theorem d_Mo_init_61 : decode b_Mo_init 61 = .ok (.putfield 38, 3) := by decide +kernel
theorem d_Mo_init_64 : decode b_Mo_init 64 = .ok (.aload_n 0, 1) := by decide +kernel
theorem d_Mo_init_65 : decode b_Mo_init 65 = .ok (.sipush 251, 3) := by decide +kernel
theorem d_Mo_init_68 : decode b_Mo_init 68 = .ok (.newarray .int, 2) := by decide +kernel
theorem d_Mo_init_70 : decode b_Mo_init 70 = .ok (.putfield 41, 3) := by decide +kernel
theorem d_Mo_init_73 : decode b_Mo_init 73 = .ok (.aload_n 0, 1) := by decide +kernel
theorem d_Mo_init_74 : decode b_Mo_init 74 = .ok (.sipush 251, 3) := by decide +kernel
theorem d_Mo_init_77 : decode b_Mo_init 77 = .ok (.newarray .int, 2) := by decide +kernel
theorem d_Mo_init_79 : decode b_Mo_init 79 = .ok (.putfield 44, 3) := by decide +kernel
theorem d_Mo_init_82 : decode b_Mo_init 82 = .ok (.aload_n 0, 1) := by decide +kernel
theorem d_Mo_init_83 : decode b_Mo_init 83 = .ok (.sipush 251, 3) := by decide +kernel
theorem d_Mo_init_86 : decode b_Mo_init 86 = .ok (.newarray .int, 2) := by decide +kernel
theorem d_Mo_init_88 : decode b_Mo_init 88 = .ok (.putfield 47, 3) := by decide +kernel
theorem d_Mo_init_91 : decode b_Mo_init 91 = .ok (.aload_n 0, 1) := by decide +kernel
theorem d_Mo_init_92 : decode b_Mo_init 92 = .ok (.sipush 251, 3) := by decide +kernel
theorem d_Mo_init_95 : decode b_Mo_init 95 = .ok (.newarray .int, 2) := by decide +kernel
theorem d_Mo_init_97 : decode b_Mo_init 97 = .ok (.putfield 50, 3) := by decide +kernel
theorem d_Mo_init_100 : decode b_Mo_init 100 = .ok (.aload_n 0, 1) := by decide +kernel
theorem d_Mo_init_101 : decode b_Mo_init 101 = .ok (.sipush 251, 3) := by decide +kernel
theorem d_Mo_init_104 : decode b_Mo_init 104 = .ok (.newarray .int, 2) := by decide +kernel
theorem d_Mo_init_106 : decode b_Mo_init 106 = .ok (.putfield 53, 3) := by decide +kernel
theorem d_Mo_init_109 : decode b_Mo_init 109 = .ok (.aload_n 0, 1) := by decide +kernel
theorem d_Mo_init_110 : decode b_Mo_init 110 = .ok (.sipush 251, 3) := by decide +kernel
theorem d_Mo_init_113 : decode b_Mo_init 113 = .ok (.newarray .int, 2) := by decide +kernel
theorem d_Mo_init_115 : decode b_Mo_init 115 = .ok (.putfield 56, 3) := by decide +kernel
theorem d_Mo_init_118 : decode b_Mo_init 118 = .ok (.aload_n 0, 1) := by decide +kernel
theorem d_Mo_init_119 : decode b_Mo_init 119 = .ok (.sipush 251, 3) := by decide +kernel
theorem d_Mo_init_122 : decode b_Mo_init 122 = .ok (.newarray .int, 2) := by decide +kernel
theorem d_Mo_init_124 : decode b_Mo_init 124 = .ok (.putfield 59, 3) := by decide +kernel
theorem d_Mo_init_127 : decode b_Mo_init 127 = .ok (.aload_n 0, 1) := by decide +kernel
theorem d_Mo_init_128 : decode b_Mo_init 128 = .ok (.sipush 251, 3) := by decide +kernel
theorem d_Mo_init_131 : decode b_Mo_init 131 = .ok (.newarray .int, 2) := by decide +kernel
theorem d_Mo_init_133 : decode b_Mo_init 133 = .ok (.putfield 62, 3) := by decide +kernel
theorem d_Mo_init_136 : decode b_Mo_init 136 = .ok (.aload_n 0, 1) := by decide +kernel
theorem d_Mo_init_137 : decode b_Mo_init 137 = .ok (.sipush 30200, 3) := by decide +kernel
theorem d_Mo_init_140 : decode b_Mo_init 140 = .ok (.newarray .int, 2) := by decide +kernel
theorem d_Mo_init_142 : decode b_Mo_init 142 = .ok (.putfield 65, 3) := by decide +kernel
theorem d_Mo_init_145 : decode b_Mo_init 145 = .ok (.aload_n 0, 1) := by decide +kernel
theorem d_Mo_init_146 : decode b_Mo_init 146 = .ok (.sipush 256, 3) := by decide +kernel
theorem d_Mo_init_149 : decode b_Mo_init 149 = .ok (.newarray .int, 2) := by decide +kernel
theorem d_Mo_init_151 : decode b_Mo_init 151 = .ok (.putfield 68, 3) := by decide +kernel
theorem d_Mo_init_154 : decode b_Mo_init 154 = .ok (.aload_n 0, 1) := by decide +kernel
theorem d_Mo_init_155 : decode b_Mo_init 155 = .ok (.sipush 20001, 3) := by decide +kernel
theorem d_Mo_init_158 : decode b_Mo_init 158 = .ok (.newarray .int, 2) := by decide +kernel
theorem d_Mo_init_160 : decode b_Mo_init 160 = .ok (.putfield 71, 3) := by decide +kernel
theorem d_Mo_init_163 : decode b_Mo_init 163 = .ok (.aload_n 0, 1) := by decide +kernel
theorem d_Mo_init_164 : decode b_Mo_init 164 = .ok (.sipush 20001, 3) := by decide +kernel
theorem d_Mo_init_167 : decode b_Mo_init 167 = .ok (.newarray .int, 2) := by decide +kernel
theorem d_Mo_init_169 : decode b_Mo_init 169 = .ok (.putfield 74, 3) := by decide +kernel
theorem d_Mo_init_172 : decode b_Mo_init 172 = .ok (.aload_n 0, 1) := by decide +kernel
theorem d_Mo_init_173 : decode b_Mo_init 173 = .ok (.new 77, 3) := by decide +kernel
theorem d_Mo_init_176 : decode b_Mo_init 176 = .ok (.dup, 1) := by decide +kernel
theorem d_Mo_init_177 : decode b_Mo_init 177 = .ok (.sipush 20001, 3) := by decide +kernel
theorem d_Mo_init_180 : decode b_Mo_init 180 = .ok (.invokespecial 79, 3) := by decide +kernel
theorem d_Mo_init_183 : decode b_Mo_init 183 = .ok (.putfield 82, 3) := by decide +kernel
theorem d_Mo_init_186 : decode b_Mo_init 186 = .ok (.aload_n 0, 1) := by decide +kernel
theorem d_Mo_init_187 : decode b_Mo_init 187 = .ok (.sipush 20001, 3) := by decide +kernel
theorem d_Mo_init_190 : decode b_Mo_init 190 = .ok (.newarray .int, 2) := by decide +kernel
theorem d_Mo_init_192 : decode b_Mo_init 192 = .ok (.putfield 86, 3) := by decide +kernel
theorem d_Mo_init_195 : decode b_Mo_init 195 = .ok (.aload_n 0, 1) := by decide +kernel
theorem d_Mo_init_196 : decode b_Mo_init 196 = .ok (.iconst 0, 1) := by decide +kernel
theorem d_Mo_init_197 : decode b_Mo_init 197 = .ok (.putfield 89, 3) := by decide +kernel
theorem d_Mo_init_200 : decode b_Mo_init 200 = .ok (.aload_n 0, 1) := by decide +kernel
theorem d_Mo_init_201 : decode b_Mo_init 201 = .ok (.iconst 0, 1) := by decide +kernel
theorem d_Mo_init_202 : decode b_Mo_init 202 = .ok (.putfield 92, 3) := by decide +kernel
theorem d_Mo_init_205 : decode b_Mo_init 205 = .ok (.aload_n 0, 1) := by decide +kernel
theorem d_Mo_init_206 : decode b_Mo_init 206 = .ok (.iconst 0, 1) := by decide +kernel
theorem d_Mo_init_207 : decode b_Mo_init 207 = .ok (.putfield 95, 3) := by decide +kernel
theorem d_Mo_init_210 : decode b_Mo_init 210 = .ok (.aload_n 0, 1) := by decide +kernel
theorem d_Mo_init_211 : decode b_Mo_init 211 = .ok (.iconst 0, 1) := by decide +kernel
theorem d_Mo_init_212 : decode b_Mo_init 212 = .ok (.putfield 98, 3) := by decide +kernel
theorem d_Mo_init_215 : decode b_Mo_init 215 = .ok (.aload_n 0, 1) := by decide +kernel
theorem d_Mo_init_216 : decode b_Mo_init 216 = .ok (.iconst 0, 1) := by decide +kernel
theorem d_Mo_init_217 : decode b_Mo_init 217 = .ok (.putfield 101, 3) := by decide +kernel
theorem d_Mo_init_220 : decode b_Mo_init 220 = .ok (.aload_n 0, 1) := by decide +kernel
theorem d_Mo_init_221 : decode b_Mo_init 221 = .ok (.iconst 0, 1) := by decide +kernel
theorem d_Mo_init_222 : decode b_Mo_init 222 = .ok (.putfield 104, 3) := by decide +kernel
theorem d_Mo_init_225 : decode b_Mo_init 225 = .ok (.aload_n 0, 1) := by decide +kernel
theorem d_Mo_init_226 : decode b_Mo_init 226 = .ok (.iconst 0, 1) := by decide +kernel
theorem d_Mo_init_227 : decode b_Mo_init 227 = .ok (.putfield 107, 3) := by decide +kernel
theorem d_Mo_init_230 : decode b_Mo_init 230 = .ok (.aload_n 0, 1) := by decide +kernel
theorem d_Mo_init_231 : decode b_Mo_init 231 = .ok (.iconst 0, 1) := by decide +kernel
theorem d_Mo_init_232 : decode b_Mo_init 232 = .ok (.putfield 110, 3) := by decide +kernel
theorem d_Mo_init_235 : decode b_Mo_init 235 = .ok (.aload_n 0, 1) := by decide +kernel
theorem d_Mo_init_236 : decode b_Mo_init 236 = .ok (.iconst 0, 1) := by decide +kernel
theorem d_Mo_init_237 : decode b_Mo_init 237 = .ok (.putfield 113, 3) := by decide +kernel
theorem d_Mo_init_240 : decode b_Mo_init 240 = .ok (.aload_n 0, 1) := by decide +kernel
theorem d_Mo_init_241 : decode b_Mo_init 241 = .ok (.iconst 0, 1) := by decide +kernel
theorem d_Mo_init_242 : decode b_Mo_init 242 = .ok (.putfield 116, 3) := by decide +kernel
theorem d_Mo_init_245 : decode b_Mo_init 245 = .ok (.aload_n 0, 1) := by decide +kernel
theorem d_Mo_init_246 : decode b_Mo_init 246 = .ok (.iconst 0, 1) := by decide +kernel
theorem d_Mo_init_247 : decode b_Mo_init 247 = .ok (.putfield 119, 3) := by decide +kernel
theorem d_Mo_init_250 : decode b_Mo_init 250 = .ok (.aload_n 0, 1) := by decide +kernel
theorem d_Mo_init_251 : decode b_Mo_init 251 = .ok (.iconst 0, 1) := by decide +kernel
theorem d_Mo_init_252 : decode b_Mo_init 252 = .ok (.putfield 122, 3) := by decide +kernel
theorem d_Mo_init_255 : decode b_Mo_init 255 = .ok (.aload_n 0, 1) := by decide +kernel
theorem d_Mo_init_256 : decode b_Mo_init 256 = .ok (.iconst 0, 1) := by decide +kernel
theorem d_Mo_init_257 : decode b_Mo_init 257 = .ok (.putfield 125, 3) := by decide +kernel
theorem d_Mo_init_260 : decode b_Mo_init 260 = .ok (.aload_n 0, 1) := by decide +kernel
theorem d_Mo_init_261 : decode b_Mo_init 261 = .ok (.iconst 0, 1) := by decide +kernel
theorem d_Mo_init_262 : decode b_Mo_init 262 = .ok (.putfield 128, 3) := by decide +kernel
theorem d_Mo_init_265 : decode b_Mo_init 265 = .ok (.aload_n 0, 1) := by decide +kernel
theorem d_Mo_init_266 : decode b_Mo_init 266 = .ok (.iconst 0, 1) := by decide +kernel
theorem d_Mo_init_267 : decode b_Mo_init 267 = .ok (.putfield 131, 3) := by decide +kernel
theorem d_Mo_init_270 : decode b_Mo_init 270 = .ok (.aload_n 0, 1) := by decide +kernel
theorem d_Mo_init_271 : decode b_Mo_init 271 = .ok (.iconst 0, 1) := by decide +kernel
theorem d_Mo_init_272 : decode b_Mo_init 272 = .ok (.putfield 134, 3) := by decide +kernel
theorem d_Mo_init_275 : decode b_Mo_init 275 = .ok (.aload_n 0, 1) := by decide +kernel
theorem d_Mo_init_276 : decode b_Mo_init 276 = .ok (.iconst 0, 1) := by decide +kernel
theorem d_Mo_init_277 : decode b_Mo_init 277 = .ok (.putfield 137, 3) := by decide +kernel
theorem d_Mo_init_280 : decode b_Mo_init 280 = .ok (.aload_n 0, 1) := by decide +kernel
theorem d_Mo_init_281 : decode b_Mo_init 281 = .ok (.iconst 0, 1) := by decide +kernel
theorem d_Mo_init_282 : decode b_Mo_init 282 = .ok (.putfield 140, 3) := by decide +kernel
theorem d_Mo_init_285 : decode b_Mo_init 285 = .ok (.aload_n 0, 1) := by decide +kernel
theorem d_Mo_init_286 : decode b_Mo_init 286 = .ok (.iconst 0, 1) := by decide +kernel
theorem d_Mo_init_287 : decode b_Mo_init 287 = .ok (.putfield 143, 3) := by decide +kernel
theorem d_Mo_init_290 : decode b_Mo_init 290 = .ok (.aload_n 0, 1) := by decide +kernel
theorem d_Mo_init_291 : decode b_Mo_init 291 = .ok (.iconst 0, 1) := by decide +kernel
theorem d_Mo_init_292 : decode b_Mo_init 292 = .ok (.putfield 146, 3) := by decide +kernel
theorem d_Mo_init_295 : decode b_Mo_init 295 = .ok (.aload_n 0, 1) := by decide +kernel
theorem d_Mo_init_296 : decode b_Mo_init 296 = .ok (.iconst 0, 1) := by decide +kernel
theorem d_Mo_init_297 : decode b_Mo_init 297 = .ok (.putfield 149, 3) := by decide +kernel
theorem d_Mo_init_300 : decode b_Mo_init 300 = .ok (.aload_n 0, 1) := by decide +kernel
theorem d_Mo_init_301 : decode b_Mo_init 301 = .ok (.iconst 0, 1) := by decide +kernel
theorem d_Mo_init_302 : decode b_Mo_init 302 = .ok (.putfield 152, 3) := by decide +kernel
theorem d_Mo_init_305 : decode b_Mo_init 305 = .ok (.aload_n 0, 1) := by decide +kernel
theorem d_Mo_init_306 : decode b_Mo_init 306 = .ok (.sipush 4100, 3) := by decide +kernel
theorem d_Mo_init_309 : decode b_Mo_init 309 = .ok (.newarray .byte, 2) := by decide +kernel
theorem d_Mo_init_311 : decode b_Mo_init 311 = .ok (.putfield 155, 3) := by decide +kernel
theorem d_Mo_init_314 : decode b_Mo_init 314 = .ok (.aload_n 0, 1) := by decide +kernel
theorem d_Mo_init_315 : decode b_Mo_init 315 = .ok (.sipush 4100, 3) := by decide +kernel
theorem d_Mo_init_318 : decode b_Mo_init 318 = .ok (.newarray .boolean, 2) := by decide +kernel
theorem d_Mo_init_320 : decode b_Mo_init 320 = .ok (.putfield 158, 3) := by decide +kernel
theorem d_Mo_init_323 : decode b_Mo_init 323 = .ok (.aload_n 0, 1) := by decide +kernel
theorem d_Mo_init_324 : decode b_Mo_init 324 = .ok (.sipush 4100, 3) := by decide +kernel
theorem d_Mo_init_327 : decode b_Mo_init 327 = .ok (.newarray .boolean, 2) := by decide +kernel
theorem d_Mo_init_329 : decode b_Mo_init 329 = .ok (.putfield 162, 3) := by decide +kernel
theorem d_Mo_init_332 : decode b_Mo_init 332 = .ok (.aload_n 0, 1) := by decide +kernel
theorem d_Mo_init_333 : decode b_Mo_init 333 = .ok (.sipush 4100, 3) := by decide +kernel
theorem d_Mo_init_336 : decode b_Mo_init 336 = .ok (.newarray .int, 2) := by decide +kernel
theorem d_Mo_init_338 : decode b_Mo_init 338 = .ok (.putfield 165, 3) := by decide +kernel
theorem d_Mo_init_341 : decode b_Mo_init 341 = .ok (.aload_n 0, 1) := by decide +kernel
theorem d_Mo_init_342 : decode b_Mo_init 342 = .ok (.sipush 4100, 3) := by decide +kernel
theorem d_Mo_init_345 : decode b_Mo_init 345 = .ok (.newarray .int, 2) := by decide +kernel
theorem d_Mo_init_347 : decode b_Mo_init 347 = .ok (.putfield 168, 3) := by decide +kernel
theorem d_Mo_init_350 : decode b_Mo_init 350 = .ok (.aload_n 0, 1) := by decide +kernel
theorem d_Mo_init_351 : decode b_Mo_init 351 = .ok (.sipush 4100, 3) := by decide +kernel
theorem d_Mo_init_354 : decode b_Mo_init 354 = .ok (.newarray .int, 2) := by decide +kernel
theorem d_Mo_init_356 : decode b_Mo_init 356 = .ok (.putfield 171, 3) := by decide +kernel
theorem d_Mo_init_359 : decode b_Mo_init 359 = .ok (.aload_n 0, 1) := by decide +kernel
theorem d_Mo_init_360 : decode b_Mo_init 360 = .ok (.sipush 4100, 3) := by decide +kernel
theorem d_Mo_init_363 : decode b_Mo_init 363 = .ok (.newarray .int, 2) := by decide +kernel
theorem d_Mo_init_365 : decode b_Mo_init 365 = .ok (.putfield 174, 3) := by decide +kernel
theorem d_Mo_init_368 : decode b_Mo_init 368 = .ok (.aload_n 0, 1) := by decide +kernel
theorem d_Mo_init_369 : decode b_Mo_init 369 = .ok (.sipush 4100, 3) := by decide +kernel
theorem d_Mo_init_372 : decode b_Mo_init 372 = .ok (.newarray .int, 2) := by decide +kernel
theorem d_Mo_init_374 : decode b_Mo_init 374 = .ok (.putfield 177, 3) := by decide +kernel
theorem d_Mo_init_377 : decode b_Mo_init 377 = .ok (.aload_n 0, 1) := by decide +kernel
theorem d_Mo_init_378 : decode b_Mo_init 378 = .ok (.sipush 4100, 3) := by decide +kernel
theorem d_Mo_init_381 : decode b_Mo_init 381 = .ok (.newarray .int, 2) := by decide +kernel
theorem d_Mo_init_383 : decode b_Mo_init 383 = .ok (.putfield 180, 3) := by decide +kernel
theorem d_Mo_init_386 : decode b_Mo_init 386 = .ok (.aload_n 0, 1) := by decide +kernel
theorem d_Mo_init_387 : decode b_Mo_init 387 = .ok (.iconst 0, 1) := by decide +kernel
theorem d_Mo_init_388 : decode b_Mo_init 388 = .ok (.putfield 183, 3) := by decide +kernel
theorem d_Mo_init_391 : decode b_Mo_init 391 = .ok (.aload_n 0, 1) := by decide +kernel
theorem d_Mo_init_392 : decode b_Mo_init 392 = .ok (.ldc 186, 2) := by decide +kernel
theorem d_Mo_init_394 : decode b_Mo_init 394 = .ok (.newarray .byte, 2) := by decide +kernel
theorem d_Mo_init_396 : decode b_Mo_init 396 = .ok (.putfield 187, 3) := by decide +kernel
theorem d_Mo_init_399 : decode b_Mo_init 399 = .ok (.aload_n 0, 1) := by decide +kernel
theorem d_Mo_init_400 : decode b_Mo_init 400 = .ok (.sipush 1024, 3) := by decide +kernel
theorem d_Mo_init_403 : decode b_Mo_init 403 = .ok (.newarray .int, 2) := by decide +kernel
theorem d_Mo_init_405 : decode b_Mo_init 405 = .ok (.putfield 190, 3) := by decide +kernel
theorem d_Mo_init_408 : decode b_Mo_init 408 = .ok (.aload_n 0, 1) := by decide +kernel
theorem d_Mo_init_409 : decode b_Mo_init 409 = .ok (.aconst_null, 1) := by decide +kernel
theorem d_Mo_init_410 : decode b_Mo_init 410 = .ok (.putfield 193, 3) := by decide +kernel
theorem d_Mo_init_413 : decode b_Mo_init 413 = .ok (.aload_n 0, 1) := by decide +kernel
theorem d_Mo_init_414 : decode b_Mo_init 414 = .ok (.aconst_null, 1) := by decide +kernel
theorem d_Mo_init_415 : decode b_Mo_init 415 = .ok (.putfield 196, 3) := by decide +kernel
theorem d_Mo_init_418 : decode b_Mo_init 418 = .ok (.aload_n 0, 1) := by decide +kernel
theorem d_Mo_init_419 : decode b_Mo_init 419 = .ok (.aconst_null, 1) := by decide +kernel
theorem d_Mo_init_420 : decode b_Mo_init 420 = .ok (.putfield 199, 3) := by decide +kernel
theorem d_Mo_init_423 : decode b_Mo_init 423 = .ok (.aload_n 0, 1) := by decide +kernel
theorem d_Mo_init_424 : decode b_Mo_init 424 = .ok (.aconst_null, 1) := by decide +kernel
theorem d_Mo_init_425 : decode b_Mo_init 425 = .ok (.putfield 203, 3) := by decide +kernel
theorem d_Mo_init_428 : decode b_Mo_init 428 = .ok (.aload_n 0, 1) := by decide +kernel
theorem d_Mo_init_429 : decode b_Mo_init 429 = .ok (.aconst_null, 1) := by decide +kernel
theorem d_Mo_init_430 : decode b_Mo_init 430 = .ok (.putfield 206, 3) := by decide +kernel
theorem d_Mo_init_433 : decode b_Mo_init 433 = .ok (.aload_n 0, 1) := by decide +kernel
theorem d_Mo_init_434 : decode b_Mo_init 434 = .ok (.aconst_null, 1) := by decide +kernel
theorem d_Mo_init_435 : decode b_Mo_init 435 = .ok (.putfield 209, 3) := by decide +kernel
theorem d_Mo_init_438 : decode b_Mo_init 438 = .ok (.aload_n 0, 1) := by decide +kernel
theorem d_Mo_init_439 : decode b_Mo_init 439 = .ok (.new 77, 3) := by decide +kernel
theorem d_Mo_init_442 : decode b_Mo_init 442 = .ok (.dup, 1) := by decide +kernel
theorem d_Mo_init_443 : decode b_Mo_init 443 = .ok (.sipush 4100, 3) := by decide +kernel
theorem d_Mo_init_446 : decode b_Mo_init 446 = .ok (.invokespecial 79, 3) := by decide +kernel
theorem d_Mo_init_449 : decode b_Mo_init 449 = .ok (.putfield 212, 3) := by decide +kernel
theorem d_Mo_init_452 : decode b_Mo_init 452 = .ok (.aload_n 0, 1) := by decide +kernel
theorem d_Mo_init_453 : decode b_Mo_init 453 = .ok (.iconst 0, 1) := by decide +kernel
theorem d_Mo_init_454 : decode b_Mo_init 454 = .ok (.putfield 215, 3) := by decide +kernel
theorem d_Mo_init_457 : decode b_Mo_init 457 = .ok (.aload_n 0, 1) := by decide +kernel
theorem d_Mo_init_458 : decode b_Mo_init 458 = .ok (.lconst 0, 1) := by decide +kernel
theorem d_Mo_init_459 : decode b_Mo_init 459 = .ok (.putfield 218, 3) := by decide +kernel
theorem d_Mo_init_462 : decode b_Mo_init 462 = .ok (.aload_n 0, 1) := by decide +kernel
theorem d_Mo_init_463 : decode b_Mo_init 463 = .ok (.iconst 0, 1) := by decide +kernel
theorem d_Mo_init_464 : decode b_Mo_init 464 = .ok (.putfield 222, 3) := by decide +kernel
theorem d_Mo_init_467 : decode b_Mo_init 467 = .ok (.aload_n 0, 1) := by decide +kernel
theorem d_Mo_init_468 : decode b_Mo_init 468 = .ok (.lconst 0, 1) := by decide +kernel
theorem d_Mo_init_469 : decode b_Mo_init 469 = .ok (.putfield 225, 3) := by decide +kernel
theorem d_Mo_init_472 : decode b_Mo_init 472 = .ok (.aload_n 0, 1) := by decide +kernel
theorem d_Mo_init_473 : decode b_Mo_init 473 = .ok (.sipush 4100, 3) := by decide +kernel
theorem d_Mo_init_476 : decode b_Mo_init 476 = .ok (.newarray .int, 2) := by decide +kernel
theorem d_Mo_init_478 : decode b_Mo_init 478 = .ok (.putfield 228, 3) := by decide +kernel
theorem d_Mo_init_481 : decode b_Mo_init 481 = .ok (.aload_n 0, 1) := by decide +kernel
theorem d_Mo_init_482 : decode b_Mo_init 482 = .ok (.iconst 0, 1) := by decide +kernel
theorem d_Mo_init_483 : decode b_Mo_init 483 = .ok (.putfield 231, 3) := by decide +kernel
theorem d_Mo_init_486 : decode b_Mo_init 486 = .ok (.aload_n 0, 1) := by decide +kernel
theorem d_Mo_init_487 : decode b_Mo_init 487 = .ok (.new 77, 3) := by decide +kernel
theorem d_Mo_init_490 : decode b_Mo_init 490 = .ok (.dup, 1) := by decide +kernel
theorem d_Mo_init_491 : decode b_Mo_init 491 = .ok (.bipush 64, 2) := by decide +kernel
theorem d_Mo_init_493 : decode b_Mo_init 493 = .ok (.invokespecial 79, 3) := by decide +kernel
theorem d_Mo_init_496 : decode b_Mo_init 496 = .ok (.putfield 234, 3) := by decide +kernel
theorem d_Mo_init_499 : decode b_Mo_init 499 = .ok (.aload_n 0, 1) := by decide +kernel
theorem d_Mo_init_500 : decode b_Mo_init 500 = .ok (.bipush 33, 2) := by decide +kernel
theorem d_Mo_init_502 : decode b_Mo_init 502 = .ok (.anewarray 237, 3) := by decide +kernel
theorem d_Mo_init_505 : decode b_Mo_init 505 = .ok (.putfield 239, 3) := by decide +kernel
theorem d_Mo_init_508 : decode b_Mo_init 508 = .ok (.aload_n 0, 1) := by decide +kernel
theorem d_Mo_init_509 : decode b_Mo_init 509 = .ok (.aconst_null, 1) := by decide +kernel
theorem d_Mo_init_510 : decode b_Mo_init 510 = .ok (.putfield 243, 3) := by decide +kernel
theorem d_Mo_init_513 : decode b_Mo_init 513 = .ok (.aload_n 0, 1) := by decide +kernel
theorem d_Mo_init_514 : decode b_Mo_init 514 = .ok (.iconst 0, 1) := by decide +kernel
theorem d_Mo_init_515 : decode b_Mo_init 515 = .ok (.putfield 247, 3) := by decide +kernel
theorem d_Mo_init_518 : decode b_Mo_init 518 = .ok (.aload_n 0, 1) := by decide +kernel
theorem d_Mo_init_519 : decode b_Mo_init 519 = .ok (.iconst (-1), 1) := by decide +kernel
theorem d_Mo_init_520 : decode b_Mo_init 520 = .ok (.putfield 250, 3) := by decide +kernel
theorem d_Mo_init_523 : decode b_Mo_init 523 = .ok (.aload_n 0, 1) := by decide +kernel
theorem d_Mo_init_524 : decode b_Mo_init 524 = .ok (.iconst 0, 1) := by decide +kernel
theorem d_Mo_init_525 : decode b_Mo_init 525 = .ok (.putfield 253, 3) := by decide +kernel
theorem d_Mo_init_528 : decode b_Mo_init 528 = .ok (.aload_n 0, 1) := by decide +kernel
theorem d_Mo_init_529 : decode b_Mo_init 529 = .ok (.lconst 0, 1) := by decide +kernel
theorem d_Mo_init_530 : decode b_Mo_init 530 = .ok (.putfield 256, 3) := by decide +kernel
theorem d_Mo_init_533 : decode b_Mo_init 533 = .ok (.aload_n 0, 1) := by decide +kernel
theorem d_Mo_init_534 : decode b_Mo_init 534 = .ok (.new 77, 3) := by decide +kernel
theorem d_Mo_init_537 : decode b_Mo_init 537 = .ok (.dup, 1) := by decide +kernel
theorem d_Mo_init_538 : decode b_Mo_init 538 = .ok (.sipush 400, 3) := by decide +kernel
theorem d_Mo_init_541 : decode b_Mo_init 541 = .ok (.invokespecial 79, 3) := by decide +kernel
theorem d_Mo_init_544 : decode b_Mo_init 544 = .ok (.putfield 259, 3) := by decide +kernel
theorem d_Mo_init_547 : decode b_Mo_init 547 = .ok (.aload_n 0, 1) := by decide +kernel
theorem d_Mo_init_548 : decode b_Mo_init 548 = .ok (.new 77, 3) := by decide +kernel
theorem d_Mo_init_551 : decode b_Mo_init 551 = .ok (.dup, 1) := by decide +kernel
theorem d_Mo_init_552 : decode b_Mo_init 552 = .ok (.sipush 400, 3) := by decide +kernel
theorem d_Mo_init_555 : decode b_Mo_init 555 = .ok (.invokespecial 79, 3) := by decide +kernel
theorem d_Mo_init_558 : decode b_Mo_init 558 = .ok (.putfield 262, 3) := by decide +kernel
theorem d_Mo_init_561 : decode b_Mo_init 561 = .ok (.aload_n 0, 1) := by decide +kernel
theorem d_Mo_init_562 : decode b_Mo_init 562 = .ok (.new 77, 3) := by decide +kernel
theorem d_Mo_init_565 : decode b_Mo_init 565 = .ok (.dup, 1) := by decide +kernel
theorem d_Mo_init_566 : decode b_Mo_init 566 = .ok (.sipush 400, 3) := by decide +kernel
theorem d_Mo_init_569 : decode b_Mo_init 569 = .ok (.invokespecial 79, 3) := by decide +kernel
theorem d_Mo_init_572 : decode b_Mo_init 572 = .ok (.putfield 265, 3) := by decide +kernel
theorem d_Mo_init_575 : decode b_Mo_init 575 = .ok (.aload_n 0, 1) := by decide +kernel
theorem d_Mo_init_576 : decode b_Mo_init 576 = .ok (.iconst 0, 1) := by decide +kernel
theorem d_Mo_init_577 : decode b_Mo_init 577 = .ok (.putfield 268, 3) := by decide +kernel
theorem d_Mo_init_580 : decode b_Mo_init 580 = .ok (.aload_n 0, 1) := by decide +kernel
theorem d_Mo_init_581 : decode b_Mo_init 581 = .ok (.lconst 0, 1) := by decide +kernel
theorem d_Mo_init_582 : decode b_Mo_init 582 = .ok (.putfield 271, 3) := by decide +kernel
theorem d_Mo_init_585 : decode b_Mo_init 585 = .ok (.aload_n 0, 1) := by decide +kernel
theorem d_Mo_init_586 : decode b_Mo_init 586 = .ok (.bipush 64, 2) := by decide +kernel
theorem d_Mo_init_588 : decode b_Mo_init 588 = .ok (.newarray .int, 2) := by decide +kernel
theorem d_Mo_init_590 : decode b_Mo_init 590 = .ok (.putfield 274, 3) := by decide +kernel
theorem d_Mo_init_593 : decode b_Mo_init 593 = .ok (.aload_n 0, 1) := by decide +kernel
theorem d_Mo_init_594 : decode b_Mo_init 594 = .ok (.bipush 24, 2) := by decide +kernel
theorem d_Mo_init_596 : decode b_Mo_init 596 = .ok (.anewarray 277, 3) := by decide +kernel
theorem d_Mo_init_599 : decode b_Mo_init 599 = .ok (.dup, 1) := by decide +kernel
theorem d_Mo_init_600 : decode b_Mo_init 600 = .ok (.iconst 0, 1) := by decide +kernel
theorem d_Mo_init_601 : decode b_Mo_init 601 = .ok (.ldc_w 279, 3) := by decide +kernel
theorem d_Mo_init_604 : decode b_Mo_init 604 = .ok (.aastore, 1) := by decide +kernel
theorem d_Mo_init_605 : decode b_Mo_init 605 = .ok (.dup, 1) := by decide +kernel
theorem d_Mo_init_606 : decode b_Mo_init 606 = .ok (.iconst 1, 1) := by decide +kernel
theorem d_Mo_init_607 : decode b_Mo_init 607 = .ok (.ldc_w 281, 3) := by decide +kernel
theorem d_Mo_init_610 : decode b_Mo_init 610 = .ok (.aastore, 1) := by decide +kernel
theorem d_Mo_init_611 : decode b_Mo_init 611 = .ok (.dup, 1) := by decide +kernel
theorem d_Mo_init_612 : decode b_Mo_init 612 = .ok (.iconst 2, 1) := by decide +kernel
theorem d_Mo_init_613 : decode b_Mo_init 613 = .ok (.ldc_w 283, 3) := by decide +kernel
theorem d_Mo_init_616 : decode b_Mo_init 616 = .ok (.aastore, 1) := by decide +kernel
theorem d_Mo_init_617 : decode b_Mo_init 617 = .ok (.dup, 1) := by decide +kernel
theorem d_Mo_init_618 : decode b_Mo_init 618 = .ok (.iconst 3, 1) := by decide +kernel
theorem d_Mo_init_619 : decode b_Mo_init 619 = .ok (.ldc_w 285, 3) := by decide +kernel
theorem d_Mo_init_622 : decode b_Mo_init 622 = .ok (.aastore, 1) := by decide +kernel
theorem d_Mo_init_623 : decode b_Mo_init 623 = .ok (.dup, 1) := by decide +kernel
theorem d_Mo_init_624 : decode b_Mo_init 624 = .ok (.iconst 4, 1) := by decide +kernel
theorem d_Mo_init_625 : decode b_Mo_init 625 = .ok (.ldc_w 287, 3) := by decide +kernel
theorem d_Mo_init_628 : decode b_Mo_init 628 = .ok (.aastore, 1) := by decide +kernel
theorem d_Mo_init_629 : decode b_Mo_init 629 = .ok (.dup, 1) := by decide +kernel
theorem d_Mo_init_630 : decode b_Mo_init 630 = .ok (.iconst 5, 1) := by decide +kernel
theorem d_Mo_init_631 : decode b_Mo_init 631 = .ok (.ldc_w 289, 3) := by decide +kernel
theorem d_Mo_init_634 : decode b_Mo_init 634 = .ok (.aastore, 1) := by decide +kernel
theorem d_Mo_init_635 : decode b_Mo_init 635 = .ok (.dup, 1) := by decide +kernel
theorem d_Mo_init_636 : decode b_Mo_init 636 = .ok (.bipush 6, 2) := by decide +kernel
theorem d_Mo_init_638 : decode b_Mo_init 638 = .ok (.ldc_w 291, 3) := by decide +kernel
theorem d_Mo_init_641 : decode b_Mo_init 641 = .ok (.aastore, 1) := by decide +kernel
theorem d_Mo_init_642 : decode b_Mo_init 642 = .ok (.dup, 1) := by decide +kernel
theorem d_Mo_init_643 : decode b_Mo_init 643 = .ok (.bipush 7, 2) := by decide +kernel
theorem d_Mo_init_645 : decode b_Mo_init 645 = .ok (.ldc_w 293, 3) := by decide +kernel
theorem d_Mo_init_648 : decode b_Mo_init 648 = .ok (.aastore, 1) := by decide +kernel
theorem d_Mo_init_649 : decode b_Mo_init 649 = .ok (.dup, 1) := by decide +kernel
theorem d_Mo_init_650 : decode b_Mo_init 650 = .ok (.bipush 8, 2) := by decide +kernel
theorem d_Mo_init_652 : decode b_Mo_init 652 = .ok (.ldc_w 295, 3) := by decide +kernel
theorem d_Mo_init_655 : decode b_Mo_init 655 = .ok (.aastore, 1) := by decide +kernel
theorem d_Mo_init_656 : decode b_Mo_init 656 = .ok (.dup, 1) := by decide +kernel
theorem d_Mo_init_657 : decode b_Mo_init 657 = .ok (.bipush 9, 2) := by decide +kernel
theorem d_Mo_init_659 : decode b_Mo_init 659 = .ok (.ldc_w 297, 3) := by decide +kernel
theorem d_Mo_init_662 : decode b_Mo_init 662 = .ok (.aastore, 1) := by decide +kernel
theorem d_Mo_init_663 : decode b_Mo_init 663 = .ok (.dup, 1) := by decide +kernel
theorem d_Mo_init_664 : decode b_Mo_init 664 = .ok (.bipush 10, 2) := by decide +kernel
theorem d_Mo_init_666 : decode b_Mo_init 666 = .ok (.ldc_w 299, 3) := by decide +kernel
theorem d_Mo_init_669 : decode b_Mo_init 669 = .ok (.aastore, 1) := by decide +kernel
theorem d_Mo_init_670 : decode b_Mo_init 670 = .ok (.dup, 1) := by decide +kernel
theorem d_Mo_init_671 : decode b_Mo_init 671 = .ok (.bipush 11, 2) := by decide +kernel
theorem d_Mo_init_673 : decode b_Mo_init 673 = .ok (.ldc_w 301, 3) := by decide +kernel
theorem d_Mo_init_676 : decode b_Mo_init 676 = .ok (.aastore, 1) := by decide +kernel
theorem d_Mo_init_677 : decode b_Mo_init 677 = .ok (.dup, 1) := by decide +kernel
theorem d_Mo_init_678 : decode b_Mo_init 678 = .ok (.bipush 12, 2) := by decide +kernel
theorem d_Mo_init_680 : decode b_Mo_init 680 = .ok (.ldc_w 303, 3) := by decide +kernel
theorem d_Mo_init_683 : decode b_Mo_init 683 = .ok (.aastore, 1) := by decide +kernel
theorem d_Mo_init_684 : decode b_Mo_init 684 = .ok (.dup, 1) := by decide +kernel
theorem d_Mo_init_685 : decode b_Mo_init 685 = .ok (.bipush 13, 2) := by decide +kernel
theorem d_Mo_init_687 : decode b_Mo_init 687 = .ok (.ldc_w 305, 3) := by decide +kernel
theorem d_Mo_init_690 : decode b_Mo_init 690 = .ok (.aastore, 1) := by decide +kernel
theorem d_Mo_init_691 : decode b_Mo_init 691 = .ok (.dup, 1) := by decide +kernel
theorem d_Mo_init_692 : decode b_Mo_init 692 = .ok (.bipush 14, 2) := by decide +kernel
theorem d_Mo_init_694 : decode b_Mo_init 694 = .ok (.ldc_w 307, 3) := by decide +kernel
theorem d_Mo_init_697 : decode b_Mo_init 697 = .ok (.aastore, 1) := by decide +kernel
theorem d_Mo_init_698 : decode b_Mo_init 698 = .ok (.dup, 1) := by decide +kernel
theorem d_Mo_init_699 : decode b_Mo_init 699 = .ok (.bipush 15, 2) := by decide +kernel
theorem d_Mo_init_701 : decode b_Mo_init 701 = .ok (.ldc_w 309, 3) := by decide +kernel
theorem d_Mo_init_704 : decode b_Mo_init 704 = .ok (.aastore, 1) := by decide +kernel
theorem d_Mo_init_705 : decode b_Mo_init 705 = .ok (.dup, 1) := by decide +kernel
theorem d_Mo_init_706 : decode b_Mo_init 706 = .ok (.bipush 16, 2) := by decide +kernel
theorem d_Mo_init_708 : decode b_Mo_init 708 = .ok (.ldc_w 311, 3) := by decide +kernel
theorem d_Mo_init_711 : decode b_Mo_init 711 = .ok (.aastore, 1) := by decide +kernel
theorem d_Mo_init_712 : decode b_Mo_init 712 = .ok (.dup, 1) := by decide +kernel
theorem d_Mo_init_713 : decode b_Mo_init 713 = .ok (.bipush 17, 2) := by decide +kernel
theorem d_Mo_init_715 : decode b_Mo_init 715 = .ok (.ldc_w 313, 3) := by decide +kernel
theorem d_Mo_init_718 : decode b_Mo_init 718 = .ok (.aastore, 1) := by decide +kernel
theorem d_Mo_init_719 : decode b_Mo_init 719 = .ok (.dup, 1) := by decide +kernel
theorem d_Mo_init_720 : decode b_Mo_init 720 = .ok (.bipush 18, 2) := by decide +kernel
theorem d_Mo_init_722 : decode b_Mo_init 722 = .ok (.ldc_w 315, 3) := by decide +kernel
theorem d_Mo_init_725 : decode b_Mo_init 725 = .ok (.aastore, 1) := by decide +kernel
theorem d_Mo_init_726 : decode b_Mo_init 726 = .ok (.dup, 1) := by decide +kernel
theorem d_Mo_init_727 : decode b_Mo_init 727 = .ok (.bipush 19, 2) := by decide +kernel
theorem d_Mo_init_729 : decode b_Mo_init 729 = .ok (.ldc_w 317, 3) := by decide +kernel
theorem d_Mo_init_732 : decode b_Mo_init 732 = .ok (.aastore, 1) := by decide +kernel
theorem d_Mo_init_733 : decode b_Mo_init 733 = .ok (.dup, 1) := by decide +kernel
theorem d_Mo_init_734 : decode b_Mo_init 734 = .ok (.bipush 20, 2) := by decide +kernel
theorem d_Mo_init_736 : decode b_Mo_init 736 = .ok (.ldc_w 319, 3) := by decide +kernel
theorem d_Mo_init_739 : decode b_Mo_init 739 = .ok (.aastore, 1) := by decide +kernel
theorem d_Mo_init_740 : decode b_Mo_init 740 = .ok (.dup, 1) := by decide +kernel
theorem d_Mo_init_741 : decode b_Mo_init 741 = .ok (.bipush 21, 2) := by decide +kernel
theorem d_Mo_init_743 : decode b_Mo_init 743 = .ok (.ldc_w 320, 3) := by decide +kernel
theorem d_Mo_init_746 : decode b_Mo_init 746 = .ok (.aastore, 1) := by decide +kernel
theorem d_Mo_init_747 : decode b_Mo_init 747 = .ok (.dup, 1) := by decide +kernel
theorem d_Mo_init_748 : decode b_Mo_init 748 = .ok (.bipush 22, 2) := by decide +kernel
theorem d_Mo_init_750 : decode b_Mo_init 750 = .ok (.ldc_w 322, 3) := by decide +kernel
theorem d_Mo_init_753 : decode b_Mo_init 753 = .ok (.aastore, 1) := by decide +kernel
theorem d_Mo_init_754 : decode b_Mo_init 754 = .ok (.dup, 1) := by decide +kernel
theorem d_Mo_init_755 : decode b_Mo_init 755 = .ok (.bipush 23, 2) := by decide +kernel
theorem d_Mo_init_757 : decode b_Mo_init 757 = .ok (.ldc_w 324, 3) := by decide +kernel
theorem d_Mo_init_760 : decode b_Mo_init 760 = .ok (.aastore, 1) := by decide +kernel
theorem d_Mo_init_761 : decode b_Mo_init 761 = .ok (.putfield 326, 3) := by decide +kernel
theorem d_Mo_init_764 : decode b_Mo_init 764 = .ok (.aload_n 0, 1) := by decide +kernel
theorem d_Mo_init_765 : decode b_Mo_init 765 = .ok (.bipush 22, 2) := by decide +kernel
theorem d_Mo_init_767 : decode b_Mo_init 767 = .ok (.anewarray 277, 3) := by decide +kernel
theorem d_Mo_init_770 : decode b_Mo_init 770 = .ok (.dup, 1) := by decide +kernel
theorem d_Mo_init_771 : decode b_Mo_init 771 = .ok (.iconst 0, 1) := by decide +kernel
theorem d_Mo_init_772 : decode b_Mo_init 772 = .ok (.ldc_w 330, 3) := by decide +kernel
theorem d_Mo_init_775 : decode b_Mo_init 775 = .ok (.aastore, 1) := by decide +kernel
theorem d_Mo_init_776 : decode b_Mo_init 776 = .ok (.dup, 1) := by decide +kernel
theorem d_Mo_init_777 : decode b_Mo_init 777 = .ok (.iconst 1, 1) := by decide +kernel
theorem d_Mo_init_778 : decode b_Mo_init 778 = .ok (.ldc_w 332, 3) := by decide +kernel
theorem d_Mo_init_781 : decode b_Mo_init 781 = .ok (.aastore, 1) := by decide +kernel
theorem d_Mo_init_782 : decode b_Mo_init 782 = .ok (.dup, 1) := by decide +kernel
theorem d_Mo_init_783 : decode b_Mo_init 783 = .ok (.iconst 2, 1) := by decide +kernel
theorem d_Mo_init_784 : decode b_Mo_init 784 = .ok (.ldc_w 334, 3) := by decide +kernel
theorem d_Mo_init_787 : decode b_Mo_init 787 = .ok (.aastore, 1) := by decide +kernel
theorem d_Mo_init_788 : decode b_Mo_init 788 = .ok (.dup, 1) := by decide +kernel
theorem d_Mo_init_789 : decode b_Mo_init 789 = .ok (.iconst 3, 1) := by decide +kernel
theorem d_Mo_init_790 : decode b_Mo_init 790 = .ok (.ldc_w 336, 3) := by decide +kernel
theorem d_Mo_init_793 : decode b_Mo_init 793 = .ok (.aastore, 1) := by decide +kernel
theorem d_Mo_init_794 : decode b_Mo_init 794 = .ok (.dup, 1) := by decide +kernel
theorem d_Mo_init_795 : decode b_Mo_init 795 = .ok (.iconst 4, 1) := by decide +kernel
theorem d_Mo_init_796 : decode b_Mo_init 796 = .ok (.ldc_w 338, 3) := by decide +kernel
theorem d_Mo_init_799 : decode b_Mo_init 799 = .ok (.aastore, 1) := by decide +kernel
theorem d_Mo_init_800 : decode b_Mo_init 800 = .ok (.dup, 1) := by decide +kernel
theorem d_Mo_init_801 : decode b_Mo_init 801 = .ok (.iconst 5, 1) := by decide +kernel
theorem d_Mo_init_802 : decode b_Mo_init 802 = .ok (.ldc_w 340, 3) := by decide +kernel
theorem d_Mo_init_805 : decode b_Mo_init 805 = .ok (.aastore, 1) := by decide +kernel
theorem d_Mo_init_806 : decode b_Mo_init 806 = .ok (.dup, 1) := by decide +kernel
theorem d_Mo_init_807 : decode b_Mo_init 807 = .ok (.bipush 6, 2) := by decide +kernel
theorem d_Mo_init_809 : decode b_Mo_init 809 = .ok (.ldc_w 342, 3) := by decide +kernel
theorem d_Mo_init_812 : decode b_Mo_init 812 = .ok (.aastore, 1) := by decide +kernel
theorem d_Mo_init_813 : decode b_Mo_init 813 = .ok (.dup, 1) := by decide +kernel
theorem d_Mo_init_814 : decode b_Mo_init 814 = .ok (.bipush 7, 2) := by decide +kernel
theorem d_Mo_init_816 : decode b_Mo_init 816 = .ok (.ldc_w 344, 3) := by decide +kernel
theorem d_Mo_init_819 : decode b_Mo_init 819 = .ok (.aastore, 1) := by decide +kernel
theorem d_Mo_init_820 : decode b_Mo_init 820 = .ok (.dup, 1) := by decide +kernel
theorem d_Mo_init_821 : decode b_Mo_init 821 = .ok (.bipush 8, 2) := by decide +kernel
theorem d_Mo_init_823 : decode b_Mo_init 823 = .ok (.ldc_w 346, 3) := by decide +kernel
theorem d_Mo_init_826 : decode b_Mo_init 826 = .ok (.aastore, 1) := by decide +kernel
theorem d_Mo_init_827 : decode b_Mo_init 827 = .ok (.dup, 1) := by decide +kernel
theorem d_Mo_init_828 : decode b_Mo_init 828 = .ok (.bipush 9, 2) := by decide +kernel
theorem d_Mo_init_830 : decode b_Mo_init 830 = .ok (.ldc_w 348, 3) := by decide +kernel
theorem d_Mo_init_833 : decode b_Mo_init 833 = .ok (.aastore, 1) := by decide +kernel
theorem d_Mo_init_834 : decode b_Mo_init 834 = .ok (.dup, 1) := by decide +kernel
theorem d_Mo_init_835 : decode b_Mo_init 835 = .ok (.bipush 10, 2) := by decide +kernel
theorem d_Mo_init_837 : decode b_Mo_init 837 = .ok (.ldc_w 350, 3) := by decide +kernel
theorem d_Mo_init_840 : decode b_Mo_init 840 = .ok (.aastore, 1) := by decide +kernel
theorem d_Mo_init_841 : decode b_Mo_init 841 = .ok (.dup, 1) := by decide +kernel
theorem d_Mo_init_842 : decode b_Mo_init 842 = .ok (.bipush 11, 2) := by decide +kernel
theorem d_Mo_init_844 : decode b_Mo_init 844 = .ok (.ldc_w 352, 3) := by decide +kernel
theorem d_Mo_init_847 : decode b_Mo_init 847 = .ok (.aastore, 1) := by decide +kernel
theorem d_Mo_init_848 : decode b_Mo_init 848 = .ok (.dup, 1) := by decide +kernel
theorem d_Mo_init_849 : decode b_Mo_init 849 = .ok (.bipush 12, 2) := by decide +kernel
theorem d_Mo_init_851 : decode b_Mo_init 851 = .ok (.ldc_w 354, 3) := by decide +kernel
theorem d_Mo_init_854 : decode b_Mo_init 854 = .ok (.aastore, 1) := by decide +kernel
theorem d_Mo_init_855 : decode b_Mo_init 855 = .ok (.dup, 1) := by decide +kernel
theorem d_Mo_init_856 : decode b_Mo_init 856 = .ok (.bipush 13, 2) := by decide +kernel
theorem d_Mo_init_858 : decode b_Mo_init 858 = .ok (.ldc_w 356, 3) := by decide +kernel
theorem d_Mo_init_861 : decode b_Mo_init 861 = .ok (.aastore, 1) := by decide +kernel
theorem d_Mo_init_862 : decode b_Mo_init 862 = .ok (.dup, 1) := by decide +kernel
theorem d_Mo_init_863 : decode b_Mo_init 863 = .ok (.bipush 14, 2) := by decide +kernel
theorem d_Mo_init_865 : decode b_Mo_init 865 = .ok (.ldc_w 358, 3) := by decide +kernel
theorem d_Mo_init_868 : decode b_Mo_init 868 = .ok (.aastore, 1) := by decide +kernel
theorem d_Mo_init_869 : decode b_Mo_init 869 = .ok (.dup, 1) := by decide +kernel
theorem d_Mo_init_870 : decode b_Mo_init 870 = .ok (.bipush 15, 2) := by decide +kernel
theorem d_Mo_init_872 : decode b_Mo_init 872 = .ok (.ldc_w 360, 3) := by decide +kernel
theorem d_Mo_init_875 : decode b_Mo_init 875 = .ok (.aastore, 1) := by decide +kernel
theorem d_Mo_init_876 : decode b_Mo_init 876 = .ok (.dup, 1) := by decide +kernel
theorem d_Mo_init_877 : decode b_Mo_init 877 = .ok (.bipush 16, 2) := by decide +kernel
theorem d_Mo_init_879 : decode b_Mo_init 879 = .ok (.ldc_w 362, 3) := by decide +kernel
theorem d_Mo_init_882 : decode b_Mo_init 882 = .ok (.aastore, 1) := by decide +kernel
theorem d_Mo_init_883 : decode b_Mo_init 883 = .ok (.dup, 1) := by decide +kernel
theorem d_Mo_init_884 : decode b_Mo_init 884 = .ok (.bipush 17, 2) := by decide +kernel
theorem d_Mo_init_886 : decode b_Mo_init 886 = .ok (.ldc_w 364, 3) := by decide +kernel
theorem d_Mo_init_889 : decode b_Mo_init 889 = .ok (.aastore, 1) := by decide +kernel
theorem d_Mo_init_890 : decode b_Mo_init 890 = .ok (.dup, 1) := by decide +kernel
theorem d_Mo_init_891 : decode b_Mo_init 891 = .ok (.bipush 18, 2) := by decide +kernel
theorem d_Mo_init_893 : decode b_Mo_init 893 = .ok (.ldc_w 366, 3) := by decide +kernel
theorem d_Mo_init_896 : decode b_Mo_init 896 = .ok (.aastore, 1) := by decide +kernel
theorem d_Mo_init_897 : decode b_Mo_init 897 = .ok (.dup, 1) := by decide +kernel
theorem d_Mo_init_898 : decode b_Mo_init 898 = .ok (.bipush 19, 2) := by decide +kernel
theorem d_Mo_init_900 : decode b_Mo_init 900 = .ok (.ldc_w 368, 3) := by decide +kernel
theorem d_Mo_init_903 : decode b_Mo_init 903 = .ok (.aastore, 1) := by decide +kernel
theorem d_Mo_init_904 : decode b_Mo_init 904 = .ok (.dup, 1) := by decide +kernel
theorem d_Mo_init_905 : decode b_Mo_init 905 = .ok (.bipush 20, 2) := by decide +kernel
theorem d_Mo_init_907 : decode b_Mo_init 907 = .ok (.ldc_w 370, 3) := by decide +kernel
theorem d_Mo_init_910 : decode b_Mo_init 910 = .ok (.aastore, 1) := by decide +kernel
theorem d_Mo_init_911 : decode b_Mo_init 911 = .ok (.dup, 1) := by decide +kernel
theorem d_Mo_init_912 : decode b_Mo_init 912 = .ok (.bipush 21, 2) := by decide +kernel
theorem d_Mo_init_914 : decode b_Mo_init 914 = .ok (.ldc_w 372, 3) := by decide +kernel
theorem d_Mo_init_917 : decode b_Mo_init 917 = .ok (.aastore, 1) := by decide +kernel
theorem d_Mo_init_918 : decode b_Mo_init 918 = .ok (.putfield 374, 3) := by decide +kernel
theorem d_Mo_init_921 : decode b_Mo_init 921 = .ok (.aload_n 0, 1) := by decide +kernel
theorem d_Mo_init_922 : decode b_Mo_init 922 = .ok (.bipush 7, 2) := by decide +kernel
theorem d_Mo_init_924 : decode b_Mo_init 924 = .ok (.anewarray 277, 3) := by decide +kernel
theorem d_Mo_init_927 : decode b_Mo_init 927 = .ok (.dup, 1) := by decide +kernel
theorem d_Mo_init_928 : decode b_Mo_init 928 = .ok (.iconst 0, 1) := by decide +kernel
theorem d_Mo_init_929 : decode b_Mo_init 929 = .ok (.ldc_w 377, 3) := by decide +kernel
theorem d_Mo_init_932 : decode b_Mo_init 932 = .ok (.aastore, 1) := by decide +kernel
theorem d_Mo_init_933 : decode b_Mo_init 933 = .ok (.dup, 1) := by decide +kernel
theorem d_Mo_init_934 : decode b_Mo_init 934 = .ok (.iconst 1, 1) := by decide +kernel
theorem d_Mo_init_935 : decode b_Mo_init 935 = .ok (.ldc_w 379, 3) := by decide +kernel
theorem d_Mo_init_938 : decode b_Mo_init 938 = .ok (.aastore, 1) := by decide +kernel
theorem d_Mo_init_939 : decode b_Mo_init 939 = .ok (.dup, 1) := by decide +kernel
theorem d_Mo_init_940 : decode b_Mo_init 940 = .ok (.iconst 2, 1) := by decide +kernel
theorem d_Mo_init_941 : decode b_Mo_init 941 = .ok (.ldc_w 381, 3) := by decide +kernel
theorem d_Mo_init_944 : decode b_Mo_init 944 = .ok (.aastore, 1) := by decide +kernel
theorem d_Mo_init_945 : decode b_Mo_init 945 = .ok (.dup, 1) := by decide +kernel
theorem d_Mo_init_946 : decode b_Mo_init 946 = .ok (.iconst 3, 1) := by decide +kernel
theorem d_Mo_init_947 : decode b_Mo_init 947 = .ok (.ldc_w 383, 3) := by decide +kernel
theorem d_Mo_init_950 : decode b_Mo_init 950 = .ok (.aastore, 1) := by decide +kernel
theorem d_Mo_init_951 : decode b_Mo_init 951 = .ok (.dup, 1) := by decide +kernel
theorem d_Mo_init_952 : decode b_Mo_init 952 = .ok (.iconst 4, 1) := by decide +kernel
theorem d_Mo_init_953 : decode b_Mo_init 953 = .ok (.ldc_w 385, 3) := by decide +kernel
theorem d_Mo_init_956 : decode b_Mo_init 956 = .ok (.aastore, 1) := by decide +kernel
theorem d_Mo_init_957 : decode b_Mo_init 957 = .ok (.dup, 1) := by decide +kernel
theorem d_Mo_init_958 : decode b_Mo_init 958 = .ok (.iconst 5, 1) := by decide +kernel
theorem d_Mo_init_959 : decode b_Mo_init 959 = .ok (.ldc_w 387, 3) := by decide +kernel
theorem d_Mo_init_962 : decode b_Mo_init 962 = .ok (.aastore, 1) := by decide +kernel
theorem d_Mo_init_963 : decode b_Mo_init 963 = .ok (.dup, 1) := by decide +kernel
theorem d_Mo_init_964 : decode b_Mo_init 964 = .ok (.bipush 6, 2) := by decide +kernel
theorem d_Mo_init_966 : decode b_Mo_init 966 = .ok (.ldc_w 389, 3) := by decide +kernel
theorem d_Mo_init_969 : decode b_Mo_init 969 = .ok (.aastore, 1) := by decide +kernel
theorem d_Mo_init_970 : decode b_Mo_init 970 = .ok (.putfield 391, 3) := by decide +kernel
theorem d_Mo_init_973 : decode b_Mo_init 973 = .ok (.aload_n 0, 1) := by decide +kernel
theorem d_Mo_init_974 : decode b_Mo_init 974 = .ok (.iconst 4, 1) := by decide +kernel
theorem d_Mo_init_975 : decode b_Mo_init 975 = .ok (.anewarray 277, 3) := by decide +kernel
theorem d_Mo_init_978 : decode b_Mo_init 978 = .ok (.dup, 1) := by decide +kernel
theorem d_Mo_init_979 : decode b_Mo_init 979 = .ok (.iconst 0, 1) := by decide +kernel
theorem d_Mo_init_980 : decode b_Mo_init 980 = .ok (.ldc_w 394, 3) := by decide +kernel
theorem d_Mo_init_983 : decode b_Mo_init 983 = .ok (.aastore, 1) := by decide +kernel
theorem d_Mo_init_984 : decode b_Mo_init 984 = .ok (.dup, 1) := by decide +kernel
theorem d_Mo_init_985 : decode b_Mo_init 985 = .ok (.iconst 1, 1) := by decide +kernel
theorem d_Mo_init_986 : decode b_Mo_init 986 = .ok (.ldc_w 320, 3) := by decide +kernel
theorem d_Mo_init_989 : decode b_Mo_init 989 = .ok (.aastore, 1) := by decide +kernel
theorem d_Mo_init_990 : decode b_Mo_init 990 = .ok (.dup, 1) := by decide +kernel
theorem d_Mo_init_991 : decode b_Mo_init 991 = .ok (.iconst 2, 1) := by decide +kernel
theorem d_Mo_init_992 : decode b_Mo_init 992 = .ok (.ldc_w 396, 3) := by decide +kernel
theorem d_Mo_init_995 : decode b_Mo_init 995 = .ok (.aastore, 1) := by decide +kernel
theorem d_Mo_init_996 : decode b_Mo_init 996 = .ok (.dup, 1) := by decide +kernel
theorem d_Mo_init_997 : decode b_Mo_init 997 = .ok (.iconst 3, 1) := by decide +kernel
theorem d_Mo_init_998 : decode b_Mo_init 998 = .ok (.ldc_w 398, 3) := by decide +kernel
theorem d_Mo_init_1001 : decode b_Mo_init 1001 = .ok (.aastore, 1) := by decide +kernel
theorem d_Mo_init_1002 : decode b_Mo_init 1002 = .ok (.putfield 400, 3) := by decide +kernel
theorem d_Mo_init_1005 : decode b_Mo_init 1005 = .ok (.aload_n 0, 1) := by decide +kernel
theorem d_Mo_init_1006 : decode b_Mo_init 1006 = .ok (.bipush 22, 2) := by decide +kernel
theorem d_Mo_init_1008 : decode b_Mo_init 1008 = .ok (.newarray .int, 2) := by decide +kernel
theorem d_Mo_init_1010 : decode b_Mo_init 1010 = .ok (.putfield 403, 3) := by decide +kernel
theorem d_Mo_init_1013 : decode b_Mo_init 1013 = .ok (.aload_n 0, 1) := by decide +kernel
theorem d_Mo_init_1014 : decode b_Mo_init 1014 = .ok (.bipush 7, 2) := by decide +kernel
theorem d_Mo_init_1016 : decode b_Mo_init 1016 = .ok (.newarray .int, 2) := by decide +kernel
theorem d_Mo_init_1018 : decode b_Mo_init 1018 = .ok (.putfield 406, 3) := by decide +kernel
theorem d_Mo_init_1021 : decode b_Mo_init 1021 = .ok (.aload_n 0, 1) := by decide +kernel
theorem d_Mo_init_1022 : decode b_Mo_init 1022 = .ok (.iconst 4, 1) := by decide +kernel
theorem d_Mo_init_1023 : decode b_Mo_init 1023 = .ok (.newarray .int, 2) := by decide +kernel
theorem d_Mo_init_1025 : decode b_Mo_init 1025 = .ok (.putfield 409, 3) := by decide +kernel
theorem d_Mo_init_1028 : decode b_Mo_init 1028 = .ok (.aload_n 0, 1) := by decide +kernel
theorem d_Mo_init_1029 : decode b_Mo_init 1029 = .ok (.bipush 24, 2) := by decide +kernel
theorem d_Mo_init_1031 : decode b_Mo_init 1031 = .ok (.newarray .int, 2) := by decide +kernel
theorem d_Mo_init_1033 : decode b_Mo_init 1033 = .ok (.putfield 412, 3) := by decide +kernel
theorem d_Mo_init_1036 : decode b_Mo_init 1036 = .ok (.aload_n 0, 1) := by decide +kernel
theorem d_Mo_init_1037 : decode b_Mo_init 1037 = .ok (.bipush 64, 2) := by decide +kernel
theorem d_Mo_init_1039 : decode b_Mo_init 1039 = .ok (.newarray .byte, 2) := by decide +kernel
theorem d_Mo_init_1041 : decode b_Mo_init 1041 = .ok (.putfield 415, 3) := by decide +kernel
theorem d_Mo_init_1044 : decode b_Mo_init 1044 = .ok (.aload_n 0, 1) := by decide +kernel
theorem d_Mo_init_1045 : decode b_Mo_init 1045 = .ok (.iconst 0, 1) := by decide +kernel
theorem d_Mo_init_1046 : decode b_Mo_init 1046 = .ok (.putfield 418, 3) := by decide +kernel
theorem d_Mo_init_1049 : decode b_Mo_init 1049 = .ok (.aload_n 0, 1) := by decide +kernel
theorem d_Mo_init_1050 : decode b_Mo_init 1050 = .ok (.ldc_w 421, 3) := by decide +kernel
theorem d_Mo_init_1053 : decode b_Mo_init 1053 = .ok (.newarray .byte, 2) := by decide +kernel
theorem d_Mo_init_1055 : decode b_Mo_init 1055 = .ok (.putfield 422, 3) := by decide +kernel
theorem d_Mo_init_1058 : decode b_Mo_init 1058 = .ok (.aload_n 0, 1) := by decide +kernel
theorem d_Mo_init_1059 : decode b_Mo_init 1059 = .ok (.sipush 20000, 3) := by decide +kernel
theorem d_Mo_init_1062 : decode b_Mo_init 1062 = .ok (.newarray .byte, 2) := by decide +kernel
theorem d_Mo_init_1064 : decode b_Mo_init 1064 = .ok (.putfield 425, 3) := by decide +kernel
theorem d_Mo_init_1067 : decode b_Mo_init 1067 = .ok (.aload_n 0, 1) := by decide +kernel
theorem d_Mo_init_1068 : decode b_Mo_init 1068 = .ok (.iconst 0, 1) := by decide +kernel
theorem d_Mo_init_1069 : decode b_Mo_init 1069 = .ok (.putfield 428, 3) := by decide +kernel
theorem d_Mo_init_1072 : decode b_Mo_init 1072 = .ok (.aload_n 0, 1) := by decide +kernel
theorem d_Mo_init_1073 : decode b_Mo_init 1073 = .ok (.iconst 0, 1) := by decide +kernel
theorem d_Mo_init_1074 : decode b_Mo_init 1074 = .ok (.putfield 431, 3) := by decide +kernel
theorem d_Mo_init_1077 : decode b_Mo_init 1077 = .ok (.aload_n 0, 1) := by decide +kernel
theorem d_Mo_init_1078 : decode b_Mo_init 1078 = .ok (.bipush 24, 2) := by decide +kernel
theorem d_Mo_init_1080 : decode b_Mo_init 1080 = .ok (.newarray .byte, 2) := by decide +kernel
theorem d_Mo_init_1082 : decode b_Mo_init 1082 = .ok (.putfield 434, 3) := by decide +kernel
theorem d_Mo_init_1085 : decode b_Mo_init 1085 = .ok (.aload_n 0, 1) := by decide +kernel
theorem d_Mo_init_1086 : decode b_Mo_init 1086 = .ok (.iconst 0, 1) := by decide +kernel
theorem d_Mo_init_1087 : decode b_Mo_init 1087 = .ok (.putfield 437, 3) := by decide +kernel
theorem d_Mo_init_1090 : decode b_Mo_init 1090 = .ok (.aload_n 0, 1) := by decide +kernel
theorem d_Mo_init_1091 : decode b_Mo_init 1091 = .ok (.lconst 0, 1) := by decide +kernel
theorem d_Mo_init_1092 : decode b_Mo_init 1092 = .ok (.putfield 440, 3) := by decide +kernel
theorem d_Mo_init_1095 : decode b_Mo_init 1095 = .ok (.iconst 0, 1) := by decide +kernel
theorem d_Mo_init_1096 : decode b_Mo_init 1096 = .ok (.istore_n 1, 1) := by decide +kernel
theorem d_Mo_init_1097 : decode b_Mo_init 1097 = .ok (.iload_n 1, 1) := by decide +kernel
theorem d_Mo_init_1098 : decode b_Mo_init 1098 = .ok (.bipush 33, 2) := by decide +kernel
theorem d_Mo_init_1100 : decode b_Mo_init 1100 = .ok (.if_icmp .ge 22, 3) := by decide +kernel
theorem d_Mo_init_1103 : decode b_Mo_init 1103 = .ok (.aload_n 0, 1) := by decide +kernel
theorem d_Mo_init_1104 : decode b_Mo_init 1104 = .ok (.getfield 239, 3) := by decide +kernel
theorem d_Mo_init_1107 : decode b_Mo_init 1107 = .ok (.iload_n 1, 1) := by decide +kernel
theorem d_Mo_init_1108 : decode b_Mo_init 1108 = .ok (.new 237, 3) := by decide +kernel
theorem d_Mo_init_1111 : decode b_Mo_init 1111 = .ok (.dup, 1) := by decide +kernel
theorem d_Mo_init_1112 : decode b_Mo_init 1112 = .ok (.invokespecial 443, 3) := by decide +kernel
theorem d_Mo_init_1115 : decode b_Mo_init 1115 = .ok (.aastore, 1) := by decide +kernel
theorem d_Mo_init_1116 : decode b_Mo_init 1116 = .ok (.iinc 1 1, 3) := by decide +kernel
theorem d_Mo_init_1119 : decode b_Mo_init 1119 = .ok (.goto (-22), 3) := by decide +kernel
theorem d_Mo_init_1122 : decode b_Mo_init 1122 = .ok (.aload_n 0, 1) := by decide +kernel
theorem d_Mo_init_1123 : decode b_Mo_init 1123 = .ok (.sipush 1000, 3) := by decide +kernel
theorem d_Mo_init_1126 : decode b_Mo_init 1126 = .ok (.putfield 116, 3) := by decide +kernel
theorem d_Mo_init_1129 : decode b_Mo_init 1129 = .ok (.return_, 1) := by decide +kernel
theorem d_Va_init_0 : decode b_Va_init 0 = .ok (.aload_n 0, 1) := by decide +kernel
theorem d_Va_init_1 : decode b_Va_init 1 = .ok (.invokespecial 1, 3) := by decide +kernel
theorem d_Va_init_4 : decode b_Va_init 4 = .ok (.aload_n 0, 1) := by decide +kernel
theorem d_Va_init_5 : decode b_Va_init 5 = .ok (.iconst 0, 1) := by decide +kernel
theorem d_Va_init_6 : decode b_Va_init 6 = .ok (.putfield 7, 3) := by decide +kernel
theorem d_Va_init_9 : decode b_Va_init 9 = .ok (.aload_n 0, 1) := by decide +kernel
theorem d_Va_init_10 : decode b_Va_init 10 = .ok (.iload_n 1, 1) := by decide +kernel
theorem d_Va_init_11 : decode b_Va_init 11 = .ok (.newarray .byte, 2) := by decide +kernel
theorem d_Va_init_13 : decode b_Va_init 13 = .ok (.putfield 13, 3) := by decide +kernel
theorem d_Va_init_16 : decode b_Va_init 16 = .ok (.aload_n 0, 1) := by decide +kernel
theorem d_Va_init_17 : decode b_Va_init 17 = .ok (.iload_n 1, 1) := by decide +kernel
theorem d_Va_init_18 : decode b_Va_init 18 = .ok (.newarray .long, 2) := by decide +kernel
theorem d_Va_init_20 : decode b_Va_init 20 = .ok (.putfield 17, 3) := by decide +kernel
theorem d_Va_init_23 : decode b_Va_init 23 = .ok (.return_, 1) := by decide +kernel
theorem d_Th_init_0 : decode b_Th_init 0 = .ok (.aload_n 0, 1) := by decide +kernel
theorem d_Th_init_1 : decode b_Th_init 1 = .ok (.invokespecial 1, 3) := by decide +kernel
theorem d_Th_init_4 : decode b_Th_init 4 = .ok (.aload_n 0, 1) := by decide +kernel
theorem d_Th_init_5 : decode b_Th_init 5 = .ok (.iconst (-1), 1) := by decide +kernel
theorem d_Th_init_6 : decode b_Th_init 6 = .ok (.putfield 7, 3) := by decide +kernel
theorem d_Th_init_9 : decode b_Th_init 9 = .ok (.aload_n 0, 1) := by decide +kernel
theorem d_Th_init_10 : decode b_Th_init 10 = .ok (.iconst 0, 1) := by decide +kernel
theorem d_Th_init_11 : decode b_Th_init 11 = .ok (.putfield 13, 3) := by decide +kernel
theorem d_Th_init_14 : decode b_Th_init 14 = .ok (.aload_n 0, 1) := by decide +kernel
theorem d_Th_init_15 : decode b_Th_init 15 = .ok (.iconst 0, 1) := by decide +kernel
theorem d_Th_init_16 : decode b_Th_init 16 = .ok (.putfield 16, 3) := by decide +kernel
theorem d_Th_init_19 : decode b_Th_init 19 = .ok (.aload_n 0, 1) := by decide +kernel
theorem d_Th_init_20 : decode b_Th_init 20 = .ok (.iconst 0, 1) := by decide +kernel
theorem d_Th_init_21 : decode b_Th_init 21 = .ok (.putfield 19, 3) := by decide +kernel
theorem d_Th_init_24 : decode b_Th_init 24 = .ok (.aload_n 0, 1) := by decide +kernel
theorem d_Th_init_25 : decode b_Th_init 25 = .ok (.iconst 0, 1) := by decide +kernel
theorem d_Th_init_26 : decode b_Th_init 26 = .ok (.putfield 22, 3) := by decide +kernel
theorem d_Th_init_29 : decode b_Th_init 29 = .ok (.aload_n 0, 1) := by decide +kernel
theorem d_Th_init_30 : decode b_Th_init 30 = .ok (.iconst 0, 1) := by decide +kernel
theorem d_Th_init_31 : decode b_Th_init 31 = .ok (.putfield 25, 3) := by decide +kernel
theorem d_Th_init_34 : decode b_Th_init 34 = .ok (.aload_n 0, 1) := by decide +kernel
theorem d_Th_init_35 : decode b_Th_init 35 = .ok (.aconst_null, 1) := by decide +kernel
theorem d_Th_init_36 : decode b_Th_init 36 = .ok (.putfield 29, 3) := by decide +kernel
theorem d_Th_init_39 : decode b_Th_init 39 = .ok (.aload_n 0, 1) := by decide +kernel
theorem d_Th_init_40 : decode b_Th_init 40 = .ok (.new 33, 3) := by decide +kernel
theorem d_Th_init_43 : decode b_Th_init 43 = .ok (.dup, 1) := by decide +kernel
theorem d_Th_init_44 : decode b_Th_init 44 = .ok (.sipush 4300, 3) := by decide +kernel
theorem d_Th_init_47 : decode b_Th_init 47 = .ok (.invokespecial 35, 3) := by decide +kernel
theorem d_Th_init_50 : decode b_Th_init 50 = .ok (.putfield 38, 3) := by decide +kernel
theorem d_Th_init_53 : decode b_Th_init 53 = .ok (.aload_n 0, 1) := by decide +kernel
theorem d_Th_init_54 : decode b_Th_init 54 = .ok (.new 33, 3) := by decide +kernel
theorem d_Th_init_57 : decode b_Th_init 57 = .ok (.dup, 1) := by decide +kernel
theorem d_Th_init_58 : decode b_Th_init 58 = .ok (.sipush 260, 3) := by decide +kernel
theorem d_Th_init_61 : decode b_Th_init 61 = .ok (.invokespecial 35, 3) := by decide +kernel
theorem d_Th_init_64 : decode b_Th_init 64 = .ok (.putfield 42, 3) := by decide +kernel
theorem d_Th_init_67 : decode b_Th_init 67 = .ok (.aload_n 0, 1) := by decide +kernel
theorem d_Th_init_68 : decode b_Th_init 68 = .ok (.new 33, 3) := by decide +kernel
theorem d_Th_init_71 : decode b_Th_init 71 = .ok (.dup, 1) := by decide +kernel
theorem d_Th_init_72 : decode b_Th_init 72 = .ok (.sipush 260, 3) := by decide +kernel
theorem d_Th_init_75 : decode b_Th_init 75 = .ok (.invokespecial 35, 3) := by decide +kernel
theorem d_Th_init_78 : decode b_Th_init 78 = .ok (.putfield 45, 3) := by decide +kernel
theorem d_Th_init_81 : decode b_Th_init 81 = .ok (.aload_n 0, 1) := by decide +kernel
theorem d_Th_init_82 : decode b_Th_init 82 = .ok (.sipush 4100, 3) := by decide +kernel
theorem d_Th_init_85 : decode b_Th_init 85 = .ok (.newarray .int, 2) := by decide +kernel
theorem d_Th_init_87 : decode b_Th_init 87 = .ok (.putfield 48, 3) := by decide +kernel
theorem d_Th_init_90 : decode b_Th_init 90 = .ok (.aload_n 0, 1) := by decide +kernel
theorem d_Th_init_91 : decode b_Th_init 91 = .ok (.sipush 201, 3) := by decide +kernel
theorem d_Th_init_94 : decode b_Th_init 94 = .ok (.newarray .int, 2) := by decide +kernel
theorem d_Th_init_96 : decode b_Th_init 96 = .ok (.putfield 52, 3) := by decide +kernel
theorem d_Th_init_99 : decode b_Th_init 99 = .ok (.aload_n 0, 1) := by decide +kernel
theorem d_Th_init_100 : decode b_Th_init 100 = .ok (.sipush 201, 3) := by decide +kernel
theorem d_Th_init_103 : decode b_Th_init 103 = .ok (.newarray .int, 2) := by decide +kernel
theorem d_Th_init_105 : decode b_Th_init 105 = .ok (.putfield 55, 3) := by decide +kernel
theorem d_Th_init_108 : decode b_Th_init 108 = .ok (.aload_n 0, 1) := by decide +kernel
theorem d_Th_init_109 : decode b_Th_init 109 = .ok (.sipush 201, 3) := by decide +kernel
theorem d_Th_init_112 : decode b_Th_init 112 = .ok (.newarray .int, 2) := by decide +kernel
theorem d_Th_init_114 : decode b_Th_init 114 = .ok (.putfield 58, 3) := by decide +kernel
theorem d_Th_init_117 : decode b_Th_init 117 = .ok (.aload_n 0, 1) := by decide +kernel
theorem d_Th_init_118 : decode b_Th_init 118 = .ok (.sipush 201, 3) := by decide +kernel
theorem d_Th_init_121 : decode b_Th_init 121 = .ok (.newarray .int, 2) := by decide +kernel
theorem d_Th_init_123 : decode b_Th_init 123 = .ok (.putfield 61, 3) := by decide +kernel
theorem d_Th_init_126 : decode b_Th_init 126 = .ok (.aload_n 0, 1) := by decide +kernel
theorem d_Th_init_127 : decode b_Th_init 127 = .ok (.sipush 201, 3) := by decide +kernel
theorem d_Th_init_130 : decode b_Th_init 130 = .ok (.newarray .int, 2) := by decide +kernel
theorem d_Th_init_132 : decode b_Th_init 132 = .ok (.putfield 64, 3) := by decide +kernel
theorem d_Th_init_135 : decode b_Th_init 135 = .ok (.aload_n 0, 1) := by decide +kernel
theorem d_Th_init_136 : decode b_Th_init 136 = .ok (.sipush 201, 3) := by decide +kernel
theorem d_Th_init_139 : decode b_Th_init 139 = .ok (.newarray .int, 2) := by decide +kernel
theorem d_Th_init_141 : decode b_Th_init 141 = .ok (.putfield 67, 3) := by decide +kernel
theorem d_Th_init_144 : decode b_Th_init 144 = .ok (.aload_n 0, 1) := by decide +kernel
theorem d_Th_init_145 : decode b_Th_init 145 = .ok (.sipush 201, 3) := by decide +kernel
theorem d_Th_init_148 : decode b_Th_init 148 = .ok (.newarray .int, 2) := by decide +kernel
theorem d_Th_init_150 : decode b_Th_init 150 = .ok (.putfield 70, 3) := by decide +kernel
theorem d_Th_init_153 : decode b_Th_init 153 = .ok (.aload_n 0, 1) := by decide +kernel
theorem d_Th_init_154 : decode b_Th_init 154 = .ok (.sipush 201, 3) := by decide +kernel
theorem d_Th_init_157 : decode b_Th_init 157 = .ok (.newarray .int, 2) := by decide +kernel
theorem d_Th_init_159 : decode b_Th_init 159 = .ok (.putfield 73, 3) := by decide +kernel
theorem d_Th_init_162 : decode b_Th_init 162 = .ok (.aload_n 0, 1) := by decide +kernel
theorem d_Th_init_163 : decode b_Th_init 163 = .ok (.sipush 201, 3) := by decide +kernel
theorem d_Th_init_166 : decode b_Th_init 166 = .ok (.newarray .int, 2) := by decide +kernel
theorem d_Th_init_168 : decode b_Th_init 168 = .ok (.putfield 76, 3) := by decide +kernel
theorem d_Th_init_171 : decode b_Th_init 171 = .ok (.aload_n 0, 1) := by decide +kernel
theorem d_Th_init_172 : decode b_Th_init 172 = .ok (.sipush 201, 3) := by decide +kernel
theorem d_Th_init_175 : decode b_Th_init 175 = .ok (.newarray .int, 2) := by decide +kernel
theorem d_Th_init_177 : decode b_Th_init 177 = .ok (.putfield 79, 3) := by decide +kernel
theorem d_Th_init_180 : decode b_Th_init 180 = .ok (.aload_n 0, 1) := by decide +kernel
theorem d_Th_init_181 : decode b_Th_init 181 = .ok (.sipush 201, 3) := by decide +kernel
theorem d_Th_init_184 : decode b_Th_init 184 = .ok (.newarray .int, 2) := by decide +kernel
theorem d_Th_init_186 : decode b_Th_init 186 = .ok (.putfield 82, 3) := by decide +kernel
theorem d_Th_init_189 : decode b_Th_init 189 = .ok (.return_, 1) := by decide +kernel
